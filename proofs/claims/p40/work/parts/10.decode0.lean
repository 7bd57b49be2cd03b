theorem dX0_init_0 : decode cX0_init 0 = .ok (.aload_n 0, 1) := by decide +kernel
theorem dX0_init_1 : decode cX0_init 1 = .ok (.iload_n 1, 1) := by decide +kernel
theorem dX0_init_2 : decode cX0_init 2 = .ok (.iload_n 2, 1) := by decide +kernel
theorem dX0_init_3 : decode cX0_init 3 = .ok (.iload_n 3, 1) := by decide +kernel
theorem dX0_init_4 : decode cX0_init 4 = .ok (.invokespecial 1, 3) := by decide +kernel
theorem dX0_init_7 : decode cX0_init 7 = .ok (.return_, 1) := by decide +kernel
set_option maxRecDepth 20000 in
theorem ggX0_strides_X4_strides : GoodIn wsX0_strides wsX4_strides := goodIn_s _ [(6, 41)] rfl (by decide +kernel)
set_option maxRecDepth 20000 in
theorem gX0_strides_X4_strides_s7 : GoodIn wsX0_strides (va_wsSU RX0 7 yX4_strides wsX4_strides) := goodIn_app (goodIn_of _ (by decide +kernel)) ggX0_strides_X4_strides
theorem dX0_strides_0 : decode cX0_strides 0 = .ok (.aload_n 0, 1) := by decide +kernel
theorem dX0_strides_1 : decode cX0_strides 1 = .ok (.iload_n 1, 1) := by decide +kernel
theorem dX0_strides_2 : decode cX0_strides 2 = .ok (.aload_n 2, 1) := by decide +kernel
theorem dX0_strides_3 : decode cX0_strides 3 = .ok (.iload_n 3, 1) := by decide +kernel
theorem dX0_strides_4 : decode cX0_strides 4 = .ok (.invokespecial 7, 3) := by decide +kernel
theorem dX0_strides_7 : decode cX0_strides 7 = .ok (.iconst 2, 1) := by decide +kernel
theorem dX0_strides_8 : decode cX0_strides 8 = .ok (.idiv, 1) := by decide +kernel
theorem dX0_strides_9 : decode cX0_strides 9 = .ok (.ireturn, 1) := by decide +kernel
set_option maxRecDepth 20000 in
theorem ggX0_telling_X5_comes : GoodIn wsX0_telling wsX5_comes := goodIn_s _ [(5, 3), (76, 2)] rfl (by decide +kernel)
set_option maxRecDepth 20000 in
theorem gX0_telling_X5_comes : GoodIn wsX0_telling (wsV RX0 11 RX5 yX5_comes wsX5_comes) := goodIn_app (goodIn_of _ (by decide +kernel)) ggX0_telling_X5_comes
set_option maxRecDepth 20000 in
theorem ggX0_telling_X4_telling : GoodIn wsX0_telling wsX4_telling := goodIn_s _ [(13, 2), (2, 6), (15, 4), (12, 1), (19, 53), (76, 23)] rfl (by decide +kernel)
set_option maxRecDepth 20000 in
theorem gX0_telling_X4_telling_s17 : GoodIn wsX0_telling (va_wsSU RX0 17 yX4_telling wsX4_telling) := goodIn_app (goodIn_of _ (by decide +kernel)) ggX0_telling_X4_telling
set_option maxRecDepth 20000 in
theorem ggX0_telling_X4_whetting : GoodIn wsX0_telling wsX4_whetting := goodIn_s _ [(19, 2), (14, 1), (2, 6), (21, 4), (12, 1), (25, 26), (78, 21), (76, 2)] rfl (by decide +kernel)
set_option maxRecDepth 20000 in
theorem gX0_telling_X4_whetting_u21X0 : GoodIn wsX0_telling (va_wsU RX0 21 RX0 "NineMowers$Mower" ⟨"NineMowers$Boy", "whetting", "(ILNineMowers$Numbers;)I"⟩ yX4_whetting wsX4_whetting) := goodIn_app (goodIn_of _ (by decide +kernel)) ggX0_telling_X4_whetting
set_option maxRecDepth 20000 in
theorem ggX0_telling_X10_whetting : GoodIn wsX0_telling wsX10_whetting := goodIn_s _ [(71, 1), (50, 1), (2, 6), (76, 2)] rfl (by decide +kernel)
set_option maxRecDepth 20000 in
theorem gX0_telling_X10_whetting_u21X10 : GoodIn wsX0_telling (va_wsO RX0 21 RX10 "NineMowers$Mower" ⟨"NineMowers$Boy", "whetting", "(ILNineMowers$Numbers;)I"⟩ yX10_whetting wsX10_whetting) := goodIn_app (goodIn_of _ (by decide +kernel)) ggX0_telling_X10_whetting
theorem dX0_telling_0 : decode cX0_telling 0 = .ok (.aload_n 2, 1) := by decide +kernel
theorem dX0_telling_1 : decode cX0_telling 1 = .ok (.bipush 40, 2) := by decide +kernel
theorem dX0_telling_3 : decode cX0_telling 3 = .ok (.invokevirtual 11, 3) := by decide +kernel
theorem dX0_telling_6 : decode cX0_telling 6 = .ok (.aload_n 0, 1) := by decide +kernel
theorem dX0_telling_7 : decode cX0_telling 7 = .ok (.iload_n 1, 1) := by decide +kernel
theorem dX0_telling_8 : decode cX0_telling 8 = .ok (.aload_n 2, 1) := by decide +kernel
theorem dX0_telling_9 : decode cX0_telling 9 = .ok (.invokespecial 17, 3) := by decide +kernel
theorem dX0_telling_12 : decode cX0_telling 12 = .ok (.aload_n 0, 1) := by decide +kernel
theorem dX0_telling_13 : decode cX0_telling 13 = .ok (.iconst 1, 1) := by decide +kernel
theorem dX0_telling_14 : decode cX0_telling 14 = .ok (.aload_n 2, 1) := by decide +kernel
theorem dX0_telling_15 : decode cX0_telling 15 = .ok (.invokevirtual 21, 3) := by decide +kernel
theorem dX0_telling_18 : decode cX0_telling 18 = .ok (.iadd, 1) := by decide +kernel
theorem dX0_telling_19 : decode cX0_telling 19 = .ok (.ireturn, 1) := by decide +kernel
set_option maxRecDepth 20000 in
theorem ggX1_init_X5_init : GoodIn wsX1_init wsX5_init := goodIn_s _ [(28, 2), (2, 2), (30, 1), (7, 1), (31, 1), (49, 2)] rfl (by decide +kernel)
set_option maxRecDepth 20000 in
theorem gX1_init_X5_init : GoodIn wsX1_init (wsX5_init) := ggX1_init_X5_init
theorem dX1_init_0 : decode cX1_init 0 = .ok (.aload_n 0, 1) := by decide +kernel
theorem dX1_init_1 : decode cX1_init 1 = .ok (.invokespecial 3, 3) := by decide +kernel
theorem dX1_init_4 : decode cX1_init 4 = .ok (.aload_n 0, 1) := by decide +kernel
theorem dX1_init_5 : decode cX1_init 5 = .ok (.bipush 6, 2) := by decide +kernel
theorem dX1_init_7 : decode cX1_init 7 = .ok (.anewarray 9, 3) := by decide +kernel
theorem dX1_init_10 : decode cX1_init 10 = .ok (.putfield 11, 3) := by decide +kernel
theorem dX1_init_13 : decode cX1_init 13 = .ok (.aload_n 0, 1) := by decide +kernel
theorem dX1_init_14 : decode cX1_init 14 = .ok (.iconst 0, 1) := by decide +kernel
theorem dX1_init_15 : decode cX1_init 15 = .ok (.putfield 17, 3) := by decide +kernel
theorem dX1_init_18 : decode cX1_init 18 = .ok (.aload_n 0, 1) := by decide +kernel
theorem dX1_init_19 : decode cX1_init 19 = .ok (.bipush 6, 2) := by decide +kernel
theorem dX1_init_21 : decode cX1_init 21 = .ok (.newarray .int, 2) := by decide +kernel
theorem dX1_init_23 : decode cX1_init 23 = .ok (.putfield 21, 3) := by decide +kernel
theorem dX1_init_26 : decode cX1_init 26 = .ok (.aload_n 0, 1) := by decide +kernel
theorem dX1_init_27 : decode cX1_init 27 = .ok (.iconst 0, 1) := by decide +kernel
theorem dX1_init_28 : decode cX1_init 28 = .ok (.putfield 25, 3) := by decide +kernel
theorem dX1_init_31 : decode cX1_init 31 = .ok (.aload_n 0, 1) := by decide +kernel
theorem dX1_init_32 : decode cX1_init 32 = .ok (.bipush 6, 2) := by decide +kernel
theorem dX1_init_34 : decode cX1_init 34 = .ok (.newarray .int, 2) := by decide +kernel
theorem dX1_init_36 : decode cX1_init 36 = .ok (.putfield 28, 3) := by decide +kernel
theorem dX1_init_39 : decode cX1_init 39 = .ok (.aload_n 0, 1) := by decide +kernel
theorem dX1_init_40 : decode cX1_init 40 = .ok (.bipush 6, 2) := by decide +kernel
theorem dX1_init_42 : decode cX1_init 42 = .ok (.newarray .int, 2) := by decide +kernel
theorem dX1_init_44 : decode cX1_init 44 = .ok (.putfield 31, 3) := by decide +kernel
theorem dX1_init_47 : decode cX1_init 47 = .ok (.aload_n 0, 1) := by decide +kernel
theorem dX1_init_48 : decode cX1_init 48 = .ok (.bipush 6, 2) := by decide +kernel
theorem dX1_init_50 : decode cX1_init 50 = .ok (.newarray .int, 2) := by decide +kernel
theorem dX1_init_52 : decode cX1_init 52 = .ok (.putfield 34, 3) := by decide +kernel
theorem dX1_init_55 : decode cX1_init 55 = .ok (.aload_n 0, 1) := by decide +kernel
theorem dX1_init_56 : decode cX1_init 56 = .ok (.bipush 6, 2) := by decide +kernel
theorem dX1_init_58 : decode cX1_init 58 = .ok (.newarray .int, 2) := by decide +kernel
theorem dX1_init_60 : decode cX1_init 60 = .ok (.putfield 37, 3) := by decide +kernel
theorem dX1_init_63 : decode cX1_init 63 = .ok (.aload_n 0, 1) := by decide +kernel
theorem dX1_init_64 : decode cX1_init 64 = .ok (.bipush 24, 2) := by decide +kernel
theorem dX1_init_66 : decode cX1_init 66 = .ok (.newarray .int, 2) := by decide +kernel
theorem dX1_init_68 : decode cX1_init 68 = .ok (.putfield 40, 3) := by decide +kernel
theorem dX1_init_71 : decode cX1_init 71 = .ok (.aload_n 0, 1) := by decide +kernel
theorem dX1_init_72 : decode cX1_init 72 = .ok (.iconst 0, 1) := by decide +kernel
theorem dX1_init_73 : decode cX1_init 73 = .ok (.putfield 43, 3) := by decide +kernel
theorem dX1_init_76 : decode cX1_init 76 = .ok (.aload_n 0, 1) := by decide +kernel
theorem dX1_init_77 : decode cX1_init 77 = .ok (.aconst_null, 1) := by decide +kernel
theorem dX1_init_78 : decode cX1_init 78 = .ok (.putfield 46, 3) := by decide +kernel
theorem dX1_init_81 : decode cX1_init 81 = .ok (.aload_n 0, 1) := by decide +kernel
theorem dX1_init_82 : decode cX1_init 82 = .ok (.iconst (-1), 1) := by decide +kernel
theorem dX1_init_83 : decode cX1_init 83 = .ok (.putfield 50, 3) := by decide +kernel
theorem dX1_init_86 : decode cX1_init 86 = .ok (.aload_n 0, 1) := by decide +kernel
theorem dX1_init_87 : decode cX1_init 87 = .ok (.new 53, 3) := by decide +kernel
theorem dX1_init_90 : decode cX1_init 90 = .ok (.dup, 1) := by decide +kernel
theorem dX1_init_91 : decode cX1_init 91 = .ok (.bipush 18, 2) := by decide +kernel
theorem dX1_init_93 : decode cX1_init 93 = .ok (.invokespecial 55, 3) := by decide +kernel
theorem dX1_init_96 : decode cX1_init 96 = .ok (.putfield 58, 3) := by decide +kernel
theorem dX1_init_99 : decode cX1_init 99 = .ok (.aload_n 0, 1) := by decide +kernel
theorem dX1_init_100 : decode cX1_init 100 = .ok (.new 53, 3) := by decide +kernel
theorem dX1_init_103 : decode cX1_init 103 = .ok (.dup, 1) := by decide +kernel
theorem dX1_init_104 : decode cX1_init 104 = .ok (.bipush 10, 2) := by decide +kernel
theorem dX1_init_106 : decode cX1_init 106 = .ok (.invokespecial 55, 3) := by decide +kernel
theorem dX1_init_109 : decode cX1_init 109 = .ok (.putfield 62, 3) := by decide +kernel
theorem dX1_init_112 : decode cX1_init 112 = .ok (.aload_n 0, 1) := by decide +kernel
theorem dX1_init_113 : decode cX1_init 113 = .ok (.new 53, 3) := by decide +kernel
theorem dX1_init_116 : decode cX1_init 116 = .ok (.dup, 1) := by decide +kernel
theorem dX1_init_117 : decode cX1_init 117 = .ok (.bipush 8, 2) := by decide +kernel
theorem dX1_init_119 : decode cX1_init 119 = .ok (.invokespecial 55, 3) := by decide +kernel
theorem dX1_init_122 : decode cX1_init 122 = .ok (.putfield 65, 3) := by decide +kernel
theorem dX1_init_125 : decode cX1_init 125 = .ok (.aload_n 0, 1) := by decide +kernel
theorem dX1_init_126 : decode cX1_init 126 = .ok (.bipush 6, 2) := by decide +kernel
theorem dX1_init_128 : decode cX1_init 128 = .ok (.newarray .int, 2) := by decide +kernel
theorem dX1_init_130 : decode cX1_init 130 = .ok (.putfield 68, 3) := by decide +kernel
theorem dX1_init_133 : decode cX1_init 133 = .ok (.aload_n 0, 1) := by decide +kernel
theorem dX1_init_134 : decode cX1_init 134 = .ok (.bipush 6, 2) := by decide +kernel
theorem dX1_init_136 : decode cX1_init 136 = .ok (.newarray .int, 2) := by decide +kernel
theorem dX1_init_138 : decode cX1_init 138 = .ok (.putfield 71, 3) := by decide +kernel
theorem dX1_init_141 : decode cX1_init 141 = .ok (.return_, 1) := by decide +kernel
theorem dX1_becomes_0 : decode cX1_becomes 0 = .ok (.aload_n 0, 1) := by decide +kernel
theorem dX1_becomes_1 : decode cX1_becomes 1 = .ok (.aload_n 1, 1) := by decide +kernel
theorem dX1_becomes_2 : decode cX1_becomes 2 = .ok (.getfield 17, 3) := by decide +kernel
theorem dX1_becomes_5 : decode cX1_becomes 5 = .ok (.putfield 17, 3) := by decide +kernel
theorem dX1_becomes_8 : decode cX1_becomes 8 = .ok (.aload_n 0, 1) := by decide +kernel
theorem dX1_becomes_9 : decode cX1_becomes 9 = .ok (.aload_n 1, 1) := by decide +kernel
theorem dX1_becomes_10 : decode cX1_becomes 10 = .ok (.getfield 25, 3) := by decide +kernel
theorem dX1_becomes_13 : decode cX1_becomes 13 = .ok (.putfield 25, 3) := by decide +kernel
theorem dX1_becomes_16 : decode cX1_becomes 16 = .ok (.aload_n 0, 1) := by decide +kernel
theorem dX1_becomes_17 : decode cX1_becomes 17 = .ok (.aload_n 1, 1) := by decide +kernel
theorem dX1_becomes_18 : decode cX1_becomes 18 = .ok (.getfield 43, 3) := by decide +kernel
theorem dX1_becomes_21 : decode cX1_becomes 21 = .ok (.putfield 43, 3) := by decide +kernel
theorem dX1_becomes_24 : decode cX1_becomes 24 = .ok (.aload_n 0, 1) := by decide +kernel
theorem dX1_becomes_25 : decode cX1_becomes 25 = .ok (.aload_n 1, 1) := by decide +kernel
theorem dX1_becomes_26 : decode cX1_becomes 26 = .ok (.getfield 46, 3) := by decide +kernel
theorem dX1_becomes_29 : decode cX1_becomes 29 = .ok (.putfield 46, 3) := by decide +kernel
theorem dX1_becomes_32 : decode cX1_becomes 32 = .ok (.aload_n 0, 1) := by decide +kernel
theorem dX1_becomes_33 : decode cX1_becomes 33 = .ok (.aload_n 1, 1) := by decide +kernel
theorem dX1_becomes_34 : decode cX1_becomes 34 = .ok (.getfield 50, 3) := by decide +kernel
theorem dX1_becomes_37 : decode cX1_becomes 37 = .ok (.putfield 50, 3) := by decide +kernel
theorem dX1_becomes_40 : decode cX1_becomes 40 = .ok (.iconst 0, 1) := by decide +kernel
theorem dX1_becomes_41 : decode cX1_becomes 41 = .ok (.istore_n 2, 1) := by decide +kernel
theorem dX1_becomes_42 : decode cX1_becomes 42 = .ok (.iload_n 2, 1) := by decide +kernel
theorem dX1_becomes_43 : decode cX1_becomes 43 = .ok (.bipush 6, 2) := by decide +kernel
theorem dX1_becomes_45 : decode cX1_becomes 45 = .ok (.if_icmp .ge 81, 3) := by decide +kernel
theorem dX1_becomes_48 : decode cX1_becomes 48 = .ok (.aload_n 0, 1) := by decide +kernel
theorem dX1_becomes_49 : decode cX1_becomes 49 = .ok (.getfield 11, 3) := by decide +kernel
theorem dX1_becomes_52 : decode cX1_becomes 52 = .ok (.iload_n 2, 1) := by decide +kernel
theorem dX1_becomes_53 : decode cX1_becomes 53 = .ok (.aload_n 1, 1) := by decide +kernel
theorem dX1_becomes_54 : decode cX1_becomes 54 = .ok (.getfield 11, 3) := by decide +kernel
theorem dX1_becomes_57 : decode cX1_becomes 57 = .ok (.iload_n 2, 1) := by decide +kernel
theorem dX1_becomes_58 : decode cX1_becomes 58 = .ok (.aaload, 1) := by decide +kernel
theorem dX1_becomes_59 : decode cX1_becomes 59 = .ok (.aastore, 1) := by decide +kernel
theorem dX1_becomes_60 : decode cX1_becomes 60 = .ok (.aload_n 0, 1) := by decide +kernel
theorem dX1_becomes_61 : decode cX1_becomes 61 = .ok (.getfield 21, 3) := by decide +kernel
theorem dX1_becomes_64 : decode cX1_becomes 64 = .ok (.iload_n 2, 1) := by decide +kernel
theorem dX1_becomes_65 : decode cX1_becomes 65 = .ok (.aload_n 1, 1) := by decide +kernel
theorem dX1_becomes_66 : decode cX1_becomes 66 = .ok (.getfield 21, 3) := by decide +kernel
theorem dX1_becomes_69 : decode cX1_becomes 69 = .ok (.iload_n 2, 1) := by decide +kernel
theorem dX1_becomes_70 : decode cX1_becomes 70 = .ok (.iaload, 1) := by decide +kernel
theorem dX1_becomes_71 : decode cX1_becomes 71 = .ok (.iastore, 1) := by decide +kernel
theorem dX1_becomes_72 : decode cX1_becomes 72 = .ok (.aload_n 0, 1) := by decide +kernel
theorem dX1_becomes_73 : decode cX1_becomes 73 = .ok (.getfield 28, 3) := by decide +kernel
theorem dX1_becomes_76 : decode cX1_becomes 76 = .ok (.iload_n 2, 1) := by decide +kernel
theorem dX1_becomes_77 : decode cX1_becomes 77 = .ok (.aload_n 1, 1) := by decide +kernel
theorem dX1_becomes_78 : decode cX1_becomes 78 = .ok (.getfield 28, 3) := by decide +kernel
theorem dX1_becomes_81 : decode cX1_becomes 81 = .ok (.iload_n 2, 1) := by decide +kernel
theorem dX1_becomes_82 : decode cX1_becomes 82 = .ok (.iaload, 1) := by decide +kernel
theorem dX1_becomes_83 : decode cX1_becomes 83 = .ok (.iastore, 1) := by decide +kernel
theorem dX1_becomes_84 : decode cX1_becomes 84 = .ok (.aload_n 0, 1) := by decide +kernel
theorem dX1_becomes_85 : decode cX1_becomes 85 = .ok (.getfield 31, 3) := by decide +kernel
theorem dX1_becomes_88 : decode cX1_becomes 88 = .ok (.iload_n 2, 1) := by decide +kernel
theorem dX1_becomes_89 : decode cX1_becomes 89 = .ok (.aload_n 1, 1) := by decide +kernel
theorem dX1_becomes_90 : decode cX1_becomes 90 = .ok (.getfield 31, 3) := by decide +kernel
theorem dX1_becomes_93 : decode cX1_becomes 93 = .ok (.iload_n 2, 1) := by decide +kernel
theorem dX1_becomes_94 : decode cX1_becomes 94 = .ok (.iaload, 1) := by decide +kernel
theorem dX1_becomes_95 : decode cX1_becomes 95 = .ok (.iastore, 1) := by decide +kernel
theorem dX1_becomes_96 : decode cX1_becomes 96 = .ok (.aload_n 0, 1) := by decide +kernel
theorem dX1_becomes_97 : decode cX1_becomes 97 = .ok (.getfield 34, 3) := by decide +kernel
theorem dX1_becomes_100 : decode cX1_becomes 100 = .ok (.iload_n 2, 1) := by decide +kernel
theorem dX1_becomes_101 : decode cX1_becomes 101 = .ok (.aload_n 1, 1) := by decide +kernel
theorem dX1_becomes_102 : decode cX1_becomes 102 = .ok (.getfield 34, 3) := by decide +kernel
theorem dX1_becomes_105 : decode cX1_becomes 105 = .ok (.iload_n 2, 1) := by decide +kernel
theorem dX1_becomes_106 : decode cX1_becomes 106 = .ok (.iaload, 1) := by decide +kernel
theorem dX1_becomes_107 : decode cX1_becomes 107 = .ok (.iastore, 1) := by decide +kernel
theorem dX1_becomes_108 : decode cX1_becomes 108 = .ok (.aload_n 0, 1) := by decide +kernel
theorem dX1_becomes_109 : decode cX1_becomes 109 = .ok (.getfield 37, 3) := by decide +kernel
theorem dX1_becomes_112 : decode cX1_becomes 112 = .ok (.iload_n 2, 1) := by decide +kernel
theorem dX1_becomes_113 : decode cX1_becomes 113 = .ok (.aload_n 1, 1) := by decide +kernel
theorem dX1_becomes_114 : decode cX1_becomes 114 = .ok (.getfield 37, 3) := by decide +kernel
theorem dX1_becomes_117 : decode cX1_becomes 117 = .ok (.iload_n 2, 1) := by decide +kernel
theorem dX1_becomes_118 : decode cX1_becomes 118 = .ok (.iaload, 1) := by decide +kernel
theorem dX1_becomes_119 : decode cX1_becomes 119 = .ok (.iastore, 1) := by decide +kernel
theorem dX1_becomes_120 : decode cX1_becomes 120 = .ok (.iinc 2 1, 3) := by decide +kernel
theorem dX1_becomes_123 : decode cX1_becomes 123 = .ok (.goto (-81), 3) := by decide +kernel
theorem dX1_becomes_126 : decode cX1_becomes 126 = .ok (.aload_n 1, 1) := by decide +kernel
theorem dX1_becomes_127 : decode cX1_becomes 127 = .ok (.getfield 40, 3) := by decide +kernel
theorem dX1_becomes_130 : decode cX1_becomes 130 = .ok (.iconst 0, 1) := by decide +kernel
theorem dX1_becomes_131 : decode cX1_becomes 131 = .ok (.aload_n 0, 1) := by decide +kernel
theorem dX1_becomes_132 : decode cX1_becomes 132 = .ok (.getfield 40, 3) := by decide +kernel
theorem dX1_becomes_135 : decode cX1_becomes 135 = .ok (.iconst 0, 1) := by decide +kernel
theorem dX1_becomes_136 : decode cX1_becomes 136 = .ok (.aload_n 0, 1) := by decide +kernel
theorem dX1_becomes_137 : decode cX1_becomes 137 = .ok (.getfield 40, 3) := by decide +kernel
theorem dX1_becomes_140 : decode cX1_becomes 140 = .ok (.arraylength, 1) := by decide +kernel
theorem dX1_becomes_141 : decode cX1_becomes 141 = .ok (.invokestatic 74, 3) := by decide +kernel
theorem dX1_becomes_144 : decode cX1_becomes 144 = .ok (.return_, 1) := by decide +kernel
set_option maxRecDepth 20000 in
theorem ggX1_becomesTold_X5_becomes : GoodIn wsX1_becomesTold wsX5_becomes := goodIn_s _ [(8, 11), (36, 2)] rfl (by decide +kernel)
set_option maxRecDepth 20000 in
theorem gX1_becomesTold_X5_becomes : GoodIn wsX1_becomesTold (wsV RX1 80 RX5 yX5_becomes wsX5_becomes) := goodIn_app (goodIn_of _ (by decide +kernel)) ggX1_becomesTold_X5_becomes
theorem dX1_becomesTold_0 : decode cX1_becomesTold 0 = .ok (.aload_n 0, 1) := by decide +kernel
theorem dX1_becomesTold_1 : decode cX1_becomesTold 1 = .ok (.getfield 58, 3) := by decide +kernel
theorem dX1_becomesTold_4 : decode cX1_becomesTold 4 = .ok (.aload_n 1, 1) := by decide +kernel
theorem dX1_becomesTold_5 : decode cX1_becomesTold 5 = .ok (.getfield 58, 3) := by decide +kernel
theorem dX1_becomesTold_8 : decode cX1_becomesTold 8 = .ok (.invokevirtual 80, 3) := by decide +kernel
theorem dX1_becomesTold_11 : decode cX1_becomesTold 11 = .ok (.aload_n 0, 1) := by decide +kernel
theorem dX1_becomesTold_12 : decode cX1_becomesTold 12 = .ok (.getfield 62, 3) := by decide +kernel
theorem dX1_becomesTold_15 : decode cX1_becomesTold 15 = .ok (.aload_n 1, 1) := by decide +kernel
theorem dX1_becomesTold_16 : decode cX1_becomesTold 16 = .ok (.getfield 62, 3) := by decide +kernel
theorem dX1_becomesTold_19 : decode cX1_becomesTold 19 = .ok (.invokevirtual 80, 3) := by decide +kernel
theorem dX1_becomesTold_22 : decode cX1_becomesTold 22 = .ok (.aload_n 0, 1) := by decide +kernel
theorem dX1_becomesTold_23 : decode cX1_becomesTold 23 = .ok (.getfield 65, 3) := by decide +kernel
theorem dX1_becomesTold_26 : decode cX1_becomesTold 26 = .ok (.aload_n 1, 1) := by decide +kernel
theorem dX1_becomesTold_27 : decode cX1_becomesTold 27 = .ok (.getfield 65, 3) := by decide +kernel
theorem dX1_becomesTold_30 : decode cX1_becomesTold 30 = .ok (.invokevirtual 80, 3) := by decide +kernel
theorem dX1_becomesTold_33 : decode cX1_becomesTold 33 = .ok (.return_, 1) := by decide +kernel
theorem dX1_comes_0 : decode cX1_comes 0 = .ok (.aload_n 1, 1) := by decide +kernel
theorem dX1_comes_1 : decode cX1_comes 1 = .ok (.getfield 84, 3) := by decide +kernel
theorem dX1_comes_4 : decode cX1_comes 4 = .ok (.istore_n 2, 1) := by decide +kernel
theorem dX1_comes_5 : decode cX1_comes 5 = .ok (.aload_n 0, 1) := by decide +kernel
theorem dX1_comes_6 : decode cX1_comes 6 = .ok (.getfield 11, 3) := by decide +kernel
theorem dX1_comes_9 : decode cX1_comes 9 = .ok (.iload_n 2, 1) := by decide +kernel
theorem dX1_comes_10 : decode cX1_comes 10 = .ok (.aload_n 1, 1) := by decide +kernel
theorem dX1_comes_11 : decode cX1_comes 11 = .ok (.aastore, 1) := by decide +kernel
theorem dX1_comes_12 : decode cX1_comes 12 = .ok (.aload_n 0, 1) := by decide +kernel
theorem dX1_comes_13 : decode cX1_comes 13 = .ok (.getfield 31, 3) := by decide +kernel
theorem dX1_comes_16 : decode cX1_comes 16 = .ok (.iload_n 2, 1) := by decide +kernel
theorem dX1_comes_17 : decode cX1_comes 17 = .ok (.bipush 10, 2) := by decide +kernel
theorem dX1_comes_19 : decode cX1_comes 19 = .ok (.iastore, 1) := by decide +kernel
theorem dX1_comes_20 : decode cX1_comes 20 = .ok (.aload_n 0, 1) := by decide +kernel
theorem dX1_comes_21 : decode cX1_comes 21 = .ok (.getfield 21, 3) := by decide +kernel
theorem dX1_comes_24 : decode cX1_comes 24 = .ok (.aload_n 0, 1) := by decide +kernel
theorem dX1_comes_25 : decode cX1_comes 25 = .ok (.getfield 17, 3) := by decide +kernel
theorem dX1_comes_28 : decode cX1_comes 28 = .ok (.iload_n 2, 1) := by decide +kernel
theorem dX1_comes_29 : decode cX1_comes 29 = .ok (.iastore, 1) := by decide +kernel
theorem dX1_comes_30 : decode cX1_comes 30 = .ok (.aload_n 0, 1) := by decide +kernel
theorem dX1_comes_31 : decode cX1_comes 31 = .ok (.dup, 1) := by decide +kernel
theorem dX1_comes_32 : decode cX1_comes 32 = .ok (.getfield 17, 3) := by decide +kernel
theorem dX1_comes_35 : decode cX1_comes 35 = .ok (.iconst 1, 1) := by decide +kernel
theorem dX1_comes_36 : decode cX1_comes 36 = .ok (.iadd, 1) := by decide +kernel
theorem dX1_comes_37 : decode cX1_comes 37 = .ok (.putfield 17, 3) := by decide +kernel
theorem dX1_comes_40 : decode cX1_comes 40 = .ok (.aload_n 0, 1) := by decide +kernel
theorem dX1_comes_41 : decode cX1_comes 41 = .ok (.aload_n 0, 1) := by decide +kernel
theorem dX1_comes_42 : decode cX1_comes 42 = .ok (.getfield 17, 3) := by decide +kernel
theorem dX1_comes_45 : decode cX1_comes 45 = .ok (.putfield 25, 3) := by decide +kernel
theorem dX1_comes_48 : decode cX1_comes 48 = .ok (.iload_n 2, 1) := by decide +kernel
theorem dX1_comes_49 : decode cX1_comes 49 = .ok (.ireturn, 1) := by decide +kernel
set_option maxRecDepth 20000 in
theorem ggX1_moves_X1_placeOf : GoodIn wsX1_moves wsX1_placeOf := goodIn_s _ [(6, 2), (1, 1), (8, 17)] rfl (by decide +kernel)
set_option maxRecDepth 20000 in
theorem gX1_moves_X1_placeOf : GoodIn wsX1_moves (wsV RX1 87 RX1 yX1_placeOf wsX1_placeOf) := goodIn_app (goodIn_of _ (by decide +kernel)) ggX1_moves_X1_placeOf
theorem dX1_moves_0 : decode cX1_moves 0 = .ok (.aload_n 0, 1) := by decide +kernel
theorem dX1_moves_1 : decode cX1_moves 1 = .ok (.iload_n 1, 1) := by decide +kernel
theorem dX1_moves_2 : decode cX1_moves 2 = .ok (.invokevirtual 87, 3) := by decide +kernel
theorem dX1_moves_5 : decode cX1_moves 5 = .ok (.istore_n 3, 1) := by decide +kernel
theorem dX1_moves_6 : decode cX1_moves 6 = .ok (.iload_n 3, 1) := by decide +kernel
theorem dX1_moves_7 : decode cX1_moves 7 = .ok (.istore 4, 2) := by decide +kernel
theorem dX1_moves_9 : decode cX1_moves 9 = .ok (.iload 4, 2) := by decide +kernel
theorem dX1_moves_11 : decode cX1_moves 11 = .ok (.iload_n 2, 1) := by decide +kernel
theorem dX1_moves_12 : decode cX1_moves 12 = .ok (.if_icmp .le 25, 3) := by decide +kernel
theorem dX1_moves_15 : decode cX1_moves 15 = .ok (.aload_n 0, 1) := by decide +kernel
theorem dX1_moves_16 : decode cX1_moves 16 = .ok (.getfield 21, 3) := by decide +kernel
theorem dX1_moves_19 : decode cX1_moves 19 = .ok (.iload 4, 2) := by decide +kernel
theorem dX1_moves_21 : decode cX1_moves 21 = .ok (.aload_n 0, 1) := by decide +kernel
theorem dX1_moves_22 : decode cX1_moves 22 = .ok (.getfield 21, 3) := by decide +kernel
theorem dX1_moves_25 : decode cX1_moves 25 = .ok (.iload 4, 2) := by decide +kernel
theorem dX1_moves_27 : decode cX1_moves 27 = .ok (.iconst 1, 1) := by decide +kernel
theorem dX1_moves_28 : decode cX1_moves 28 = .ok (.isub, 1) := by decide +kernel
theorem dX1_moves_29 : decode cX1_moves 29 = .ok (.iaload, 1) := by decide +kernel
theorem dX1_moves_30 : decode cX1_moves 30 = .ok (.iastore, 1) := by decide +kernel
theorem dX1_moves_31 : decode cX1_moves 31 = .ok (.iinc 4 (-1), 3) := by decide +kernel
theorem dX1_moves_34 : decode cX1_moves 34 = .ok (.goto (-25), 3) := by decide +kernel
theorem dX1_moves_37 : decode cX1_moves 37 = .ok (.iload_n 3, 1) := by decide +kernel
theorem dX1_moves_38 : decode cX1_moves 38 = .ok (.istore 4, 2) := by decide +kernel
theorem dX1_moves_40 : decode cX1_moves 40 = .ok (.iload 4, 2) := by decide +kernel
theorem dX1_moves_42 : decode cX1_moves 42 = .ok (.iload_n 2, 1) := by decide +kernel
theorem dX1_moves_43 : decode cX1_moves 43 = .ok (.if_icmp .ge 25, 3) := by decide +kernel
theorem dX1_moves_46 : decode cX1_moves 46 = .ok (.aload_n 0, 1) := by decide +kernel
theorem dX1_moves_47 : decode cX1_moves 47 = .ok (.getfield 21, 3) := by decide +kernel
theorem dX1_moves_50 : decode cX1_moves 50 = .ok (.iload 4, 2) := by decide +kernel
theorem dX1_moves_52 : decode cX1_moves 52 = .ok (.aload_n 0, 1) := by decide +kernel
theorem dX1_moves_53 : decode cX1_moves 53 = .ok (.getfield 21, 3) := by decide +kernel
theorem dX1_moves_56 : decode cX1_moves 56 = .ok (.iload 4, 2) := by decide +kernel
theorem dX1_moves_58 : decode cX1_moves 58 = .ok (.iconst 1, 1) := by decide +kernel
theorem dX1_moves_59 : decode cX1_moves 59 = .ok (.iadd, 1) := by decide +kernel
theorem dX1_moves_60 : decode cX1_moves 60 = .ok (.iaload, 1) := by decide +kernel
theorem dX1_moves_61 : decode cX1_moves 61 = .ok (.iastore, 1) := by decide +kernel
theorem dX1_moves_62 : decode cX1_moves 62 = .ok (.iinc 4 1, 3) := by decide +kernel
theorem dX1_moves_65 : decode cX1_moves 65 = .ok (.goto (-25), 3) := by decide +kernel
theorem dX1_moves_68 : decode cX1_moves 68 = .ok (.aload_n 0, 1) := by decide +kernel
theorem dX1_moves_69 : decode cX1_moves 69 = .ok (.getfield 21, 3) := by decide +kernel
theorem dX1_moves_72 : decode cX1_moves 72 = .ok (.iload_n 2, 1) := by decide +kernel
theorem dX1_moves_73 : decode cX1_moves 73 = .ok (.iload_n 1, 1) := by decide +kernel
theorem dX1_moves_74 : decode cX1_moves 74 = .ok (.iastore, 1) := by decide +kernel
theorem dX1_moves_75 : decode cX1_moves 75 = .ok (.iload_n 3, 1) := by decide +kernel
theorem dX1_moves_76 : decode cX1_moves 76 = .ok (.ireturn, 1) := by decide +kernel
theorem dX1_placeOf_0 : decode cX1_placeOf 0 = .ok (.iconst 0, 1) := by decide +kernel
theorem dX1_placeOf_1 : decode cX1_placeOf 1 = .ok (.istore_n 2, 1) := by decide +kernel
theorem dX1_placeOf_2 : decode cX1_placeOf 2 = .ok (.iload_n 2, 1) := by decide +kernel
theorem dX1_placeOf_3 : decode cX1_placeOf 3 = .ok (.aload_n 0, 1) := by decide +kernel
theorem dX1_placeOf_4 : decode cX1_placeOf 4 = .ok (.getfield 25, 3) := by decide +kernel
theorem dX1_placeOf_7 : decode cX1_placeOf 7 = .ok (.iconst 1, 1) := by decide +kernel
theorem dX1_placeOf_8 : decode cX1_placeOf 8 = .ok (.isub, 1) := by decide +kernel
theorem dX1_placeOf_9 : decode cX1_placeOf 9 = .ok (.if_icmp .ge 19, 3) := by decide +kernel
theorem dX1_placeOf_12 : decode cX1_placeOf 12 = .ok (.aload_n 0, 1) := by decide +kernel
theorem dX1_placeOf_13 : decode cX1_placeOf 13 = .ok (.getfield 21, 3) := by decide +kernel
theorem dX1_placeOf_16 : decode cX1_placeOf 16 = .ok (.iload_n 2, 1) := by decide +kernel
theorem dX1_placeOf_17 : decode cX1_placeOf 17 = .ok (.iaload, 1) := by decide +kernel
theorem dX1_placeOf_18 : decode cX1_placeOf 18 = .ok (.iload_n 1, 1) := by decide +kernel
theorem dX1_placeOf_19 : decode cX1_placeOf 19 = .ok (.if_icmp .eq 9, 3) := by decide +kernel
theorem dX1_placeOf_22 : decode cX1_placeOf 22 = .ok (.iinc 2 1, 3) := by decide +kernel
theorem dX1_placeOf_25 : decode cX1_placeOf 25 = .ok (.goto (-23), 3) := by decide +kernel
theorem dX1_placeOf_28 : decode cX1_placeOf 28 = .ok (.iload_n 2, 1) := by decide +kernel
theorem dX1_placeOf_29 : decode cX1_placeOf 29 = .ok (.ireturn, 1) := by decide +kernel
theorem dX1_numbersOf_0 : decode cX1_numbersOf 0 = .ok (.iload_n 1, 1) := by decide +kernel
theorem dX1_numbersOf_1 : decode cX1_numbersOf 1 = .ok (.tableswitch 42 0 2 #[27, 32, 37], 27) := by decide +kernel
theorem dX1_numbersOf_28 : decode cX1_numbersOf 28 = .ok (.aload_n 0, 1) := by decide +kernel
theorem dX1_numbersOf_29 : decode cX1_numbersOf 29 = .ok (.getfield 28, 3) := by decide +kernel
theorem dX1_numbersOf_32 : decode cX1_numbersOf 32 = .ok (.areturn, 1) := by decide +kernel
theorem dX1_numbersOf_33 : decode cX1_numbersOf 33 = .ok (.aload_n 0, 1) := by decide +kernel
theorem dX1_numbersOf_34 : decode cX1_numbersOf 34 = .ok (.getfield 31, 3) := by decide +kernel
theorem dX1_numbersOf_37 : decode cX1_numbersOf 37 = .ok (.areturn, 1) := by decide +kernel
theorem dX1_numbersOf_38 : decode cX1_numbersOf 38 = .ok (.aload_n 0, 1) := by decide +kernel
theorem dX1_numbersOf_39 : decode cX1_numbersOf 39 = .ok (.getfield 34, 3) := by decide +kernel
theorem dX1_numbersOf_42 : decode cX1_numbersOf 42 = .ok (.areturn, 1) := by decide +kernel
theorem dX1_numbersOf_43 : decode cX1_numbersOf 43 = .ok (.aload_n 0, 1) := by decide +kernel
theorem dX1_numbersOf_44 : decode cX1_numbersOf 44 = .ok (.getfield 37, 3) := by decide +kernel
theorem dX1_numbersOf_47 : decode cX1_numbersOf 47 = .ok (.areturn, 1) := by decide +kernel
theorem dX1_gap_0 : decode cX1_gap 0 = .ok (.aload_n 0, 1) := by decide +kernel
theorem dX1_gap_1 : decode cX1_gap 1 = .ok (.getfield 50, 3) := by decide +kernel
theorem dX1_gap_4 : decode cX1_gap 4 = .ok (.ifCond .lt 10, 3) := by decide +kernel
theorem dX1_gap_7 : decode cX1_gap 7 = .ok (.aload_n 0, 1) := by decide +kernel
theorem dX1_gap_8 : decode cX1_gap 8 = .ok (.getfield 50, 3) := by decide +kernel
theorem dX1_gap_11 : decode cX1_gap 11 = .ok (.goto 10, 3) := by decide +kernel
theorem dX1_gap_14 : decode cX1_gap 14 = .ok (.aload_n 0, 1) := by decide +kernel
theorem dX1_gap_15 : decode cX1_gap 15 = .ok (.getfield 46, 3) := by decide +kernel
theorem dX1_gap_18 : decode cX1_gap 18 = .ok (.getfield 91, 3) := by decide +kernel
theorem dX1_gap_21 : decode cX1_gap 21 = .ok (.ireturn, 1) := by decide +kernel
set_option maxRecDepth 20000 in
theorem ggX1_paceAt_X2_paceOf : GoodIn wsX1_paceAt wsX2_paceOf := goodIn_s _ [(13, 8), (12, 1), (21, 3), (62, 12)] rfl (by decide +kernel)
set_option maxRecDepth 20000 in
theorem gX1_paceAt_X2_paceOf : GoodIn wsX1_paceAt (wsV RX1 99 RX2 yX2_paceOf wsX2_paceOf) := goodIn_app (goodIn_of _ (by decide +kernel)) ggX1_paceAt_X2_paceOf
theorem dX1_paceAt_0 : decode cX1_paceAt 0 = .ok (.aload_n 0, 1) := by decide +kernel
theorem dX1_paceAt_1 : decode cX1_paceAt 1 = .ok (.getfield 21, 3) := by decide +kernel
theorem dX1_paceAt_4 : decode cX1_paceAt 4 = .ok (.iload_n 1, 1) := by decide +kernel
theorem dX1_paceAt_5 : decode cX1_paceAt 5 = .ok (.iaload, 1) := by decide +kernel
theorem dX1_paceAt_6 : decode cX1_paceAt 6 = .ok (.istore_n 2, 1) := by decide +kernel
theorem dX1_paceAt_7 : decode cX1_paceAt 7 = .ok (.aload_n 0, 1) := by decide +kernel
theorem dX1_paceAt_8 : decode cX1_paceAt 8 = .ok (.getfield 71, 3) := by decide +kernel
theorem dX1_paceAt_11 : decode cX1_paceAt 11 = .ok (.iconst 0, 1) := by decide +kernel
theorem dX1_paceAt_12 : decode cX1_paceAt 12 = .ok (.iload_n 2, 1) := by decide +kernel
theorem dX1_paceAt_13 : decode cX1_paceAt 13 = .ok (.iastore, 1) := by decide +kernel
theorem dX1_paceAt_14 : decode cX1_paceAt 14 = .ok (.aload_n 0, 1) := by decide +kernel
theorem dX1_paceAt_15 : decode cX1_paceAt 15 = .ok (.getfield 71, 3) := by decide +kernel
theorem dX1_paceAt_18 : decode cX1_paceAt 18 = .ok (.iconst 1, 1) := by decide +kernel
theorem dX1_paceAt_19 : decode cX1_paceAt 19 = .ok (.aload_n 0, 1) := by decide +kernel
theorem dX1_paceAt_20 : decode cX1_paceAt 20 = .ok (.getfield 11, 3) := by decide +kernel
theorem dX1_paceAt_23 : decode cX1_paceAt 23 = .ok (.iload_n 2, 1) := by decide +kernel
theorem dX1_paceAt_24 : decode cX1_paceAt 24 = .ok (.aaload, 1) := by decide +kernel
theorem dX1_paceAt_25 : decode cX1_paceAt 25 = .ok (.getfield 96, 3) := by decide +kernel
theorem dX1_paceAt_28 : decode cX1_paceAt 28 = .ok (.iastore, 1) := by decide +kernel
theorem dX1_paceAt_29 : decode cX1_paceAt 29 = .ok (.aload_n 0, 1) := by decide +kernel
theorem dX1_paceAt_30 : decode cX1_paceAt 30 = .ok (.getfield 71, 3) := by decide +kernel
theorem dX1_paceAt_33 : decode cX1_paceAt 33 = .ok (.iconst 2, 1) := by decide +kernel
theorem dX1_paceAt_34 : decode cX1_paceAt 34 = .ok (.iload_n 1, 1) := by decide +kernel
theorem dX1_paceAt_35 : decode cX1_paceAt 35 = .ok (.iastore, 1) := by decide +kernel
theorem dX1_paceAt_36 : decode cX1_paceAt 36 = .ok (.aload_n 0, 1) := by decide +kernel
theorem dX1_paceAt_37 : decode cX1_paceAt 37 = .ok (.getfield 71, 3) := by decide +kernel
theorem dX1_paceAt_40 : decode cX1_paceAt 40 = .ok (.iconst 3, 1) := by decide +kernel
theorem dX1_paceAt_41 : decode cX1_paceAt 41 = .ok (.aload_n 0, 1) := by decide +kernel
theorem dX1_paceAt_42 : decode cX1_paceAt 42 = .ok (.getfield 31, 3) := by decide +kernel
theorem dX1_paceAt_45 : decode cX1_paceAt 45 = .ok (.iload_n 2, 1) := by decide +kernel
theorem dX1_paceAt_46 : decode cX1_paceAt 46 = .ok (.iaload, 1) := by decide +kernel
theorem dX1_paceAt_47 : decode cX1_paceAt 47 = .ok (.iastore, 1) := by decide +kernel
theorem dX1_paceAt_48 : decode cX1_paceAt 48 = .ok (.aload_n 0, 1) := by decide +kernel
theorem dX1_paceAt_49 : decode cX1_paceAt 49 = .ok (.getfield 71, 3) := by decide +kernel
theorem dX1_paceAt_52 : decode cX1_paceAt 52 = .ok (.iconst 4, 1) := by decide +kernel
theorem dX1_paceAt_53 : decode cX1_paceAt 53 = .ok (.aload_n 0, 1) := by decide +kernel
theorem dX1_paceAt_54 : decode cX1_paceAt 54 = .ok (.getfield 34, 3) := by decide +kernel
theorem dX1_paceAt_57 : decode cX1_paceAt 57 = .ok (.iload_n 2, 1) := by decide +kernel
theorem dX1_paceAt_58 : decode cX1_paceAt 58 = .ok (.iaload, 1) := by decide +kernel
theorem dX1_paceAt_59 : decode cX1_paceAt 59 = .ok (.bipush 10, 2) := by decide +kernel
theorem dX1_paceAt_61 : decode cX1_paceAt 61 = .ok (.idiv, 1) := by decide +kernel
theorem dX1_paceAt_62 : decode cX1_paceAt 62 = .ok (.iastore, 1) := by decide +kernel
theorem dX1_paceAt_63 : decode cX1_paceAt 63 = .ok (.aload_n 0, 1) := by decide +kernel
theorem dX1_paceAt_64 : decode cX1_paceAt 64 = .ok (.getfield 71, 3) := by decide +kernel
theorem dX1_paceAt_67 : decode cX1_paceAt 67 = .ok (.iconst 5, 1) := by decide +kernel
theorem dX1_paceAt_68 : decode cX1_paceAt 68 = .ok (.aload_n 0, 1) := by decide +kernel
theorem dX1_paceAt_69 : decode cX1_paceAt 69 = .ok (.getfield 43, 3) := by decide +kernel
theorem dX1_paceAt_72 : decode cX1_paceAt 72 = .ok (.bipush 10, 2) := by decide +kernel
theorem dX1_paceAt_74 : decode cX1_paceAt 74 = .ok (.irem, 1) := by decide +kernel
theorem dX1_paceAt_75 : decode cX1_paceAt 75 = .ok (.iastore, 1) := by decide +kernel
theorem dX1_paceAt_76 : decode cX1_paceAt 76 = .ok (.aload_n 0, 1) := by decide +kernel
theorem dX1_paceAt_77 : decode cX1_paceAt 77 = .ok (.getfield 46, 3) := by decide +kernel
theorem dX1_paceAt_80 : decode cX1_paceAt 80 = .ok (.aload_n 0, 1) := by decide +kernel
theorem dX1_paceAt_81 : decode cX1_paceAt 81 = .ok (.getfield 71, 3) := by decide +kernel
theorem dX1_paceAt_84 : decode cX1_paceAt 84 = .ok (.invokevirtual 99, 3) := by decide +kernel
theorem dX1_paceAt_87 : decode cX1_paceAt 87 = .ok (.ireturn, 1) := by decide +kernel
set_option maxRecDepth 20000 in
theorem ggX1_strideAt_X1_paceAt : GoodIn wsX1_strideAt wsX1_paceAt := goodIn_s _ [(8, 1), (1, 1), (9, 1), (2, 1), (10, 1), (3, 1), (11, 18), (99, 50)] rfl (by decide +kernel)
set_option maxRecDepth 20000 in
theorem gX1_strideAt_X1_paceAt : GoodIn wsX1_strideAt (wsV RX1 103 RX1 yX1_paceAt wsX1_paceAt) := goodIn_app (goodIn_of _ (by decide +kernel)) ggX1_strideAt_X1_paceAt
set_option maxRecDepth 20000 in
theorem ggX1_strideAt_X0_strides : GoodIn wsX1_strideAt wsX0_strides := goodIn_s _ [(35, 2), (30, 1), (37, 6), (99, 38)] rfl (by decide +kernel)
set_option maxRecDepth 20000 in
theorem gX1_strideAt_X0_strides_u106X0 : GoodIn wsX1_strideAt (va_wsO RX1 106 RX0 "NineMowers$Mower" ⟨"NineMowers$Mower", "strides", "(ILNineMowers$Course;I)I"⟩ yX0_strides wsX0_strides) := goodIn_app (goodIn_of _ (by decide +kernel)) ggX1_strideAt_X0_strides
set_option maxRecDepth 20000 in
theorem ggX1_strideAt_X3_strides : GoodIn wsX1_strideAt wsX3_strides := goodIn_s _ [(46, 7), (30, 1), (53, 1), (38, 5), (99, 38)] rfl (by decide +kernel)
set_option maxRecDepth 20000 in
theorem gX1_strideAt_X3_strides_u106X3 : GoodIn wsX1_strideAt (va_wsO RX1 106 RX3 "NineMowers$Mower" ⟨"NineMowers$Mower", "strides", "(ILNineMowers$Course;I)I"⟩ yX3_strides wsX3_strides) := goodIn_app (goodIn_of _ (by decide +kernel)) ggX1_strideAt_X3_strides
set_option maxRecDepth 20000 in
theorem ggX1_strideAt_X4_strides : GoodIn wsX1_strideAt wsX4_strides := goodIn_s _ [(40, 3), (99, 38)] rfl (by decide +kernel)
set_option maxRecDepth 20000 in
theorem gX1_strideAt_X4_strides : GoodIn wsX1_strideAt (wsV RX1 106 RX4 yX4_strides wsX4_strides) := goodIn_app (goodIn_of _ (by decide +kernel)) ggX1_strideAt_X4_strides
set_option maxRecDepth 20000 in
theorem ggX1_strideAt_X6_strides : GoodIn wsX1_strideAt wsX6_strides := goodIn_s _ [(59, 9), (116, 21)] rfl (by decide +kernel)
set_option maxRecDepth 20000 in
theorem gX1_strideAt_X6_strides_u106X6 : GoodIn wsX1_strideAt (va_wsO RX1 106 RX6 "NineMowers$Mower" ⟨"NineMowers$Mower", "strides", "(ILNineMowers$Course;I)I"⟩ yX6_strides wsX6_strides) := goodIn_app (goodIn_of _ (by decide +kernel)) ggX1_strideAt_X6_strides
set_option maxRecDepth 20000 in
theorem ggX1_strideAt_X7_strides : GoodIn wsX1_strideAt wsX7_strides := goodIn_s _ [(71, 4), (44, 9), (30, 1), (53, 1), (38, 5), (75, 3), (7, 1), (78, 3), (1, 1), (81, 5), (13, 1), (86, 1), (99, 50)] rfl (by decide +kernel)
set_option maxRecDepth 20000 in
theorem gX1_strideAt_X7_strides_u106X7 : GoodIn wsX1_strideAt (va_wsO RX1 106 RX7 "NineMowers$Mower" ⟨"NineMowers$Mower", "strides", "(ILNineMowers$Course;I)I"⟩ yX7_strides wsX7_strides) := goodIn_app (goodIn_of _ (by decide +kernel)) ggX1_strideAt_X7_strides
set_option maxRecDepth 20000 in
theorem ggX1_strideAt_X8_strides : GoodIn wsX1_strideAt wsX8_strides := goodIn_s _ [(67, 1)] rfl (by decide +kernel)
set_option maxRecDepth 20000 in
theorem gX1_strideAt_X8_strides_u106X8 : GoodIn wsX1_strideAt (va_wsO RX1 106 RX8 "NineMowers$Mower" ⟨"NineMowers$Mower", "strides", "(ILNineMowers$Course;I)I"⟩ yX8_strides wsX8_strides) := goodIn_app (goodIn_of _ (by decide +kernel)) ggX1_strideAt_X8_strides
set_option maxRecDepth 20000 in
theorem ggX1_strideAt_X10_strides : GoodIn wsX1_strideAt wsX10_strides := goodIn_s _ [(91, 8), (33, 4), (30, 1), (37, 6), (99, 38)] rfl (by decide +kernel)
set_option maxRecDepth 20000 in
theorem gX1_strideAt_X10_strides_u106X10 : GoodIn wsX1_strideAt (va_wsO RX1 106 RX10 "NineMowers$Mower" ⟨"NineMowers$Mower", "strides", "(ILNineMowers$Course;I)I"⟩ yX10_strides wsX10_strides) := goodIn_app (goodIn_of _ (by decide +kernel)) ggX1_strideAt_X10_strides
theorem dX1_strideAt_0 : decode cX1_strideAt 0 = .ok (.aload_n 0, 1) := by decide +kernel
theorem dX1_strideAt_1 : decode cX1_strideAt 1 = .ok (.getfield 21, 3) := by decide +kernel
theorem dX1_strideAt_4 : decode cX1_strideAt 4 = .ok (.iload_n 1, 1) := by decide +kernel
theorem dX1_strideAt_5 : decode cX1_strideAt 5 = .ok (.iaload, 1) := by decide +kernel
theorem dX1_strideAt_6 : decode cX1_strideAt 6 = .ok (.istore_n 2, 1) := by decide +kernel
theorem dX1_strideAt_7 : decode cX1_strideAt 7 = .ok (.aload_n 0, 1) := by decide +kernel
theorem dX1_strideAt_8 : decode cX1_strideAt 8 = .ok (.getfield 11, 3) := by decide +kernel
theorem dX1_strideAt_11 : decode cX1_strideAt 11 = .ok (.iload_n 2, 1) := by decide +kernel
theorem dX1_strideAt_12 : decode cX1_strideAt 12 = .ok (.aaload, 1) := by decide +kernel
theorem dX1_strideAt_13 : decode cX1_strideAt 13 = .ok (.aload_n 0, 1) := by decide +kernel
theorem dX1_strideAt_14 : decode cX1_strideAt 14 = .ok (.iload_n 1, 1) := by decide +kernel
theorem dX1_strideAt_15 : decode cX1_strideAt 15 = .ok (.invokevirtual 103, 3) := by decide +kernel
theorem dX1_strideAt_18 : decode cX1_strideAt 18 = .ok (.aload_n 0, 1) := by decide +kernel
theorem dX1_strideAt_19 : decode cX1_strideAt 19 = .ok (.iload_n 1, 1) := by decide +kernel
theorem dX1_strideAt_20 : decode cX1_strideAt 20 = .ok (.invokevirtual 106, 3) := by decide +kernel
theorem dX1_strideAt_23 : decode cX1_strideAt 23 = .ok (.istore_n 3, 1) := by decide +kernel
theorem dX1_strideAt_24 : decode cX1_strideAt 24 = .ok (.aload_n 0, 1) := by decide +kernel
theorem dX1_strideAt_25 : decode cX1_strideAt 25 = .ok (.getfield 31, 3) := by decide +kernel
theorem dX1_strideAt_28 : decode cX1_strideAt 28 = .ok (.iload_n 2, 1) := by decide +kernel
theorem dX1_strideAt_29 : decode cX1_strideAt 29 = .ok (.iaload, 1) := by decide +kernel
theorem dX1_strideAt_30 : decode cX1_strideAt 30 = .ok (.ifCond .ne 9, 3) := by decide +kernel
theorem dX1_strideAt_33 : decode cX1_strideAt 33 = .ok (.iload_n 3, 1) := by decide +kernel
theorem dX1_strideAt_34 : decode cX1_strideAt 34 = .ok (.iconst 2, 1) := by decide +kernel
theorem dX1_strideAt_35 : decode cX1_strideAt 35 = .ok (.idiv, 1) := by decide +kernel
theorem dX1_strideAt_36 : decode cX1_strideAt 36 = .ok (.goto 4, 3) := by decide +kernel
theorem dX1_strideAt_39 : decode cX1_strideAt 39 = .ok (.iload_n 3, 1) := by decide +kernel
theorem dX1_strideAt_40 : decode cX1_strideAt 40 = .ok (.ireturn, 1) := by decide +kernel
set_option maxRecDepth 20000 in
theorem ggX1_isPressedAt_X1_gap : GoodIn wsX1_isPressedAt wsX1_gap := goodIn_s _ [(8, 33)] rfl (by decide +kernel)
set_option maxRecDepth 20000 in
theorem gX1_isPressedAt_X1_gap : GoodIn wsX1_isPressedAt (wsV RX1 109 RX1 yX1_gap wsX1_gap) := goodIn_app (goodIn_of _ (by decide +kernel)) ggX1_isPressedAt_X1_gap
theorem dX1_isPressedAt_0 : decode cX1_isPressedAt 0 = .ok (.iload_n 1, 1) := by decide +kernel
theorem dX1_isPressedAt_1 : decode cX1_isPressedAt 1 = .ok (.iconst 1, 1) := by decide +kernel
theorem dX1_isPressedAt_2 : decode cX1_isPressedAt 2 = .ok (.iadd, 1) := by decide +kernel
theorem dX1_isPressedAt_3 : decode cX1_isPressedAt 3 = .ok (.aload_n 0, 1) := by decide +kernel
theorem dX1_isPressedAt_4 : decode cX1_isPressedAt 4 = .ok (.getfield 25, 3) := by decide +kernel
theorem dX1_isPressedAt_7 : decode cX1_isPressedAt 7 = .ok (.if_icmp .ge 41, 3) := by decide +kernel
theorem dX1_isPressedAt_10 : decode cX1_isPressedAt 10 = .ok (.aload_n 0, 1) := by decide +kernel
theorem dX1_isPressedAt_11 : decode cX1_isPressedAt 11 = .ok (.getfield 28, 3) := by decide +kernel
theorem dX1_isPressedAt_14 : decode cX1_isPressedAt 14 = .ok (.aload_n 0, 1) := by decide +kernel
theorem dX1_isPressedAt_15 : decode cX1_isPressedAt 15 = .ok (.getfield 21, 3) := by decide +kernel
theorem dX1_isPressedAt_18 : decode cX1_isPressedAt 18 = .ok (.iload_n 1, 1) := by decide +kernel
theorem dX1_isPressedAt_19 : decode cX1_isPressedAt 19 = .ok (.iaload, 1) := by decide +kernel
theorem dX1_isPressedAt_20 : decode cX1_isPressedAt 20 = .ok (.iaload, 1) := by decide +kernel
theorem dX1_isPressedAt_21 : decode cX1_isPressedAt 21 = .ok (.aload_n 0, 1) := by decide +kernel
theorem dX1_isPressedAt_22 : decode cX1_isPressedAt 22 = .ok (.getfield 28, 3) := by decide +kernel
theorem dX1_isPressedAt_25 : decode cX1_isPressedAt 25 = .ok (.aload_n 0, 1) := by decide +kernel
theorem dX1_isPressedAt_26 : decode cX1_isPressedAt 26 = .ok (.getfield 21, 3) := by decide +kernel
theorem dX1_isPressedAt_29 : decode cX1_isPressedAt 29 = .ok (.iload_n 1, 1) := by decide +kernel
theorem dX1_isPressedAt_30 : decode cX1_isPressedAt 30 = .ok (.iconst 1, 1) := by decide +kernel
theorem dX1_isPressedAt_31 : decode cX1_isPressedAt 31 = .ok (.iadd, 1) := by decide +kernel
theorem dX1_isPressedAt_32 : decode cX1_isPressedAt 32 = .ok (.iaload, 1) := by decide +kernel
theorem dX1_isPressedAt_33 : decode cX1_isPressedAt 33 = .ok (.iaload, 1) := by decide +kernel
theorem dX1_isPressedAt_34 : decode cX1_isPressedAt 34 = .ok (.isub, 1) := by decide +kernel
theorem dX1_isPressedAt_35 : decode cX1_isPressedAt 35 = .ok (.aload_n 0, 1) := by decide +kernel
theorem dX1_isPressedAt_36 : decode cX1_isPressedAt 36 = .ok (.invokevirtual 109, 3) := by decide +kernel
theorem dX1_isPressedAt_39 : decode cX1_isPressedAt 39 = .ok (.iconst 3, 1) := by decide +kernel
theorem dX1_isPressedAt_40 : decode cX1_isPressedAt 40 = .ok (.iadd, 1) := by decide +kernel
theorem dX1_isPressedAt_41 : decode cX1_isPressedAt 41 = .ok (.if_icmp .ge 7, 3) := by decide +kernel
theorem dX1_isPressedAt_44 : decode cX1_isPressedAt 44 = .ok (.iconst 1, 1) := by decide +kernel
theorem dX1_isPressedAt_45 : decode cX1_isPressedAt 45 = .ok (.goto 4, 3) := by decide +kernel
theorem dX1_isPressedAt_48 : decode cX1_isPressedAt 48 = .ok (.iconst 0, 1) := by decide +kernel
theorem dX1_isPressedAt_49 : decode cX1_isPressedAt 49 = .ok (.ireturn, 1) := by decide +kernel
set_option maxRecDepth 20000 in
theorem ggX1_goes_X1_goesMinute : GoodIn wsX1_goes wsX1_goesMinute := goodIn_s _ [(5, 10), (4, 1), (15, 160)] rfl (by decide +kernel)
set_option maxRecDepth 20000 in
theorem gX1_goes_X1_goesMinute : GoodIn wsX1_goes (wsV RX1 112 RX1 yX1_goesMinute wsX1_goesMinute) := goodIn_app (goodIn_of _ (by decide +kernel)) ggX1_goes_X1_goesMinute
theorem dX1_goes_0 : decode cX1_goes 0 = .ok (.iconst 0, 1) := by decide +kernel
theorem dX1_goes_1 : decode cX1_goes 1 = .ok (.istore_n 2, 1) := by decide +kernel
theorem dX1_goes_2 : decode cX1_goes 2 = .ok (.iload_n 2, 1) := by decide +kernel
theorem dX1_goes_3 : decode cX1_goes 3 = .ok (.iload_n 1, 1) := by decide +kernel
theorem dX1_goes_4 : decode cX1_goes 4 = .ok (.if_icmp .ge 14, 3) := by decide +kernel
theorem dX1_goes_7 : decode cX1_goes 7 = .ok (.aload_n 0, 1) := by decide +kernel
theorem dX1_goes_8 : decode cX1_goes 8 = .ok (.invokevirtual 112, 3) := by decide +kernel
theorem dX1_goes_11 : decode cX1_goes 11 = .ok (.pop, 1) := by decide +kernel
theorem dX1_goes_12 : decode cX1_goes 12 = .ok (.iinc 2 1, 3) := by decide +kernel
theorem dX1_goes_15 : decode cX1_goes 15 = .ok (.goto (-13), 3) := by decide +kernel
theorem dX1_goes_18 : decode cX1_goes 18 = .ok (.return_, 1) := by decide +kernel
set_option maxRecDepth 20000 in
theorem ggX1_goesMinute_X1_strideAt : GoodIn wsX1_goesMinute wsX1_strideAt := goodIn_s _ [(11, 1), (3, 1), (12, 5), (10, 1), (17, 4), (6, 1), (21, 66), (1, 1), (5, 1), (87, 18), (121, 50)] rfl (by decide +kernel)
set_option maxRecDepth 20000 in
theorem gX1_goesMinute_X1_strideAt : GoodIn wsX1_goesMinute (wsV RX1 115 RX1 yX1_strideAt wsX1_strideAt) := goodIn_app (goodIn_of _ (by decide +kernel)) ggX1_goesMinute_X1_strideAt
set_option maxRecDepth 20000 in
theorem ggX1_goesMinute_X1_roomAt : GoodIn wsX1_goesMinute wsX1_roomAt := goodIn_s _ [(108, 1), (3, 1), (5, 1), (2, 1), (109, 7), (87, 3), (10, 1), (90, 2), (21, 1), (92, 1), (121, 17), (159, 12)] rfl (by decide +kernel)
set_option maxRecDepth 20000 in
theorem gX1_goesMinute_X1_roomAt : GoodIn wsX1_goesMinute (wsV RX1 118 RX1 yX1_roomAt wsX1_roomAt) := goodIn_app (goodIn_of _ (by decide +kernel)) ggX1_goesMinute_X1_roomAt
set_option maxRecDepth 20000 in
theorem ggX1_goesMinute_X1_wears : GoodIn wsX1_goesMinute wsX1_wears := goodIn_s _ [(119, 1), (13, 1), (113, 2), (111, 1), (115, 1), (20, 2), (120, 1), (109, 2), (112, 1), (121, 17), (159, 12)] rfl (by decide +kernel)
set_option maxRecDepth 20000 in
theorem gX1_goesMinute_X1_wears : GoodIn wsX1_goesMinute (wsV RX1 121 RX1 yX1_wears wsX1_wears) := goodIn_app (goodIn_of _ (by decide +kernel)) ggX1_goesMinute_X1_wears
theorem dX1_goesMinute_0 : decode cX1_goesMinute 0 = .ok (.iconst 0, 1) := by decide +kernel
theorem dX1_goesMinute_1 : decode cX1_goesMinute 1 = .ok (.istore_n 1, 1) := by decide +kernel
theorem dX1_goesMinute_2 : decode cX1_goesMinute 2 = .ok (.iload_n 1, 1) := by decide +kernel
theorem dX1_goesMinute_3 : decode cX1_goesMinute 3 = .ok (.aload_n 0, 1) := by decide +kernel
theorem dX1_goesMinute_4 : decode cX1_goesMinute 4 = .ok (.getfield 25, 3) := by decide +kernel
theorem dX1_goesMinute_7 : decode cX1_goesMinute 7 = .ok (.if_icmp .ge 20, 3) := by decide +kernel
theorem dX1_goesMinute_10 : decode cX1_goesMinute 10 = .ok (.aload_n 0, 1) := by decide +kernel
theorem dX1_goesMinute_11 : decode cX1_goesMinute 11 = .ok (.getfield 68, 3) := by decide +kernel
theorem dX1_goesMinute_14 : decode cX1_goesMinute 14 = .ok (.iload_n 1, 1) := by decide +kernel
theorem dX1_goesMinute_15 : decode cX1_goesMinute 15 = .ok (.aload_n 0, 1) := by decide +kernel
theorem dX1_goesMinute_16 : decode cX1_goesMinute 16 = .ok (.iload_n 1, 1) := by decide +kernel
theorem dX1_goesMinute_17 : decode cX1_goesMinute 17 = .ok (.invokevirtual 115, 3) := by decide +kernel
theorem dX1_goesMinute_20 : decode cX1_goesMinute 20 = .ok (.iastore, 1) := by decide +kernel
theorem dX1_goesMinute_21 : decode cX1_goesMinute 21 = .ok (.iinc 1 1, 3) := by decide +kernel
theorem dX1_goesMinute_24 : decode cX1_goesMinute 24 = .ok (.goto (-22), 3) := by decide +kernel
theorem dX1_goesMinute_27 : decode cX1_goesMinute 27 = .ok (.iconst 0, 1) := by decide +kernel
theorem dX1_goesMinute_28 : decode cX1_goesMinute 28 = .ok (.istore_n 1, 1) := by decide +kernel
theorem dX1_goesMinute_29 : decode cX1_goesMinute 29 = .ok (.iconst 0, 1) := by decide +kernel
theorem dX1_goesMinute_30 : decode cX1_goesMinute 30 = .ok (.istore_n 2, 1) := by decide +kernel
theorem dX1_goesMinute_31 : decode cX1_goesMinute 31 = .ok (.iload_n 2, 1) := by decide +kernel
theorem dX1_goesMinute_32 : decode cX1_goesMinute 32 = .ok (.aload_n 0, 1) := by decide +kernel
theorem dX1_goesMinute_33 : decode cX1_goesMinute 33 = .ok (.getfield 25, 3) := by decide +kernel
theorem dX1_goesMinute_36 : decode cX1_goesMinute 36 = .ok (.if_icmp .ge 91, 3) := by decide +kernel
theorem dX1_goesMinute_39 : decode cX1_goesMinute 39 = .ok (.aload_n 0, 1) := by decide +kernel
theorem dX1_goesMinute_40 : decode cX1_goesMinute 40 = .ok (.getfield 21, 3) := by decide +kernel
theorem dX1_goesMinute_43 : decode cX1_goesMinute 43 = .ok (.iload_n 2, 1) := by decide +kernel
theorem dX1_goesMinute_44 : decode cX1_goesMinute 44 = .ok (.iaload, 1) := by decide +kernel
theorem dX1_goesMinute_45 : decode cX1_goesMinute 45 = .ok (.istore_n 3, 1) := by decide +kernel
theorem dX1_goesMinute_46 : decode cX1_goesMinute 46 = .ok (.iconst 0, 1) := by decide +kernel
theorem dX1_goesMinute_47 : decode cX1_goesMinute 47 = .ok (.istore 4, 2) := by decide +kernel
theorem dX1_goesMinute_49 : decode cX1_goesMinute 49 = .ok (.aload_n 0, 1) := by decide +kernel
theorem dX1_goesMinute_50 : decode cX1_goesMinute 50 = .ok (.getfield 37, 3) := by decide +kernel
theorem dX1_goesMinute_53 : decode cX1_goesMinute 53 = .ok (.iload_n 3, 1) := by decide +kernel
theorem dX1_goesMinute_54 : decode cX1_goesMinute 54 = .ok (.iaload, 1) := by decide +kernel
theorem dX1_goesMinute_55 : decode cX1_goesMinute 55 = .ok (.ifCond .le 16, 3) := by decide +kernel
theorem dX1_goesMinute_58 : decode cX1_goesMinute 58 = .ok (.aload_n 0, 1) := by decide +kernel
theorem dX1_goesMinute_59 : decode cX1_goesMinute 59 = .ok (.getfield 37, 3) := by decide +kernel
theorem dX1_goesMinute_62 : decode cX1_goesMinute 62 = .ok (.iload_n 3, 1) := by decide +kernel
theorem dX1_goesMinute_63 : decode cX1_goesMinute 63 = .ok (.dup2, 1) := by decide +kernel
theorem dX1_goesMinute_64 : decode cX1_goesMinute 64 = .ok (.iaload, 1) := by decide +kernel
theorem dX1_goesMinute_65 : decode cX1_goesMinute 65 = .ok (.iconst 1, 1) := by decide +kernel
theorem dX1_goesMinute_66 : decode cX1_goesMinute 66 = .ok (.isub, 1) := by decide +kernel
theorem dX1_goesMinute_67 : decode cX1_goesMinute 67 = .ok (.iastore, 1) := by decide +kernel
theorem dX1_goesMinute_68 : decode cX1_goesMinute 68 = .ok (.goto 27, 3) := by decide +kernel
theorem dX1_goesMinute_71 : decode cX1_goesMinute 71 = .ok (.aload_n 0, 1) := by decide +kernel
theorem dX1_goesMinute_72 : decode cX1_goesMinute 72 = .ok (.iload_n 2, 1) := by decide +kernel
theorem dX1_goesMinute_73 : decode cX1_goesMinute 73 = .ok (.invokevirtual 118, 3) := by decide +kernel
theorem dX1_goesMinute_76 : decode cX1_goesMinute 76 = .ok (.istore 4, 2) := by decide +kernel
theorem dX1_goesMinute_78 : decode cX1_goesMinute 78 = .ok (.iload 4, 2) := by decide +kernel
theorem dX1_goesMinute_80 : decode cX1_goesMinute 80 = .ok (.aload_n 0, 1) := by decide +kernel
theorem dX1_goesMinute_81 : decode cX1_goesMinute 81 = .ok (.getfield 68, 3) := by decide +kernel
theorem dX1_goesMinute_84 : decode cX1_goesMinute 84 = .ok (.iload_n 2, 1) := by decide +kernel
theorem dX1_goesMinute_85 : decode cX1_goesMinute 85 = .ok (.iaload, 1) := by decide +kernel
theorem dX1_goesMinute_86 : decode cX1_goesMinute 86 = .ok (.if_icmp .ge 9, 3) := by decide +kernel
theorem dX1_goesMinute_89 : decode cX1_goesMinute 89 = .ok (.iload_n 1, 1) := by decide +kernel
theorem dX1_goesMinute_90 : decode cX1_goesMinute 90 = .ok (.iconst 1, 1) := by decide +kernel
theorem dX1_goesMinute_91 : decode cX1_goesMinute 91 = .ok (.iload_n 3, 1) := by decide +kernel
theorem dX1_goesMinute_92 : decode cX1_goesMinute 92 = .ok (.ishl, 1) := by decide +kernel
theorem dX1_goesMinute_93 : decode cX1_goesMinute 93 = .ok (.ior, 1) := by decide +kernel
theorem dX1_goesMinute_94 : decode cX1_goesMinute 94 = .ok (.istore_n 1, 1) := by decide +kernel
theorem dX1_goesMinute_95 : decode cX1_goesMinute 95 = .ok (.aload_n 0, 1) := by decide +kernel
theorem dX1_goesMinute_96 : decode cX1_goesMinute 96 = .ok (.getfield 28, 3) := by decide +kernel
theorem dX1_goesMinute_99 : decode cX1_goesMinute 99 = .ok (.iload_n 3, 1) := by decide +kernel
theorem dX1_goesMinute_100 : decode cX1_goesMinute 100 = .ok (.dup2, 1) := by decide +kernel
theorem dX1_goesMinute_101 : decode cX1_goesMinute 101 = .ok (.iaload, 1) := by decide +kernel
theorem dX1_goesMinute_102 : decode cX1_goesMinute 102 = .ok (.iload 4, 2) := by decide +kernel
theorem dX1_goesMinute_104 : decode cX1_goesMinute 104 = .ok (.iadd, 1) := by decide +kernel
theorem dX1_goesMinute_105 : decode cX1_goesMinute 105 = .ok (.iastore, 1) := by decide +kernel
theorem dX1_goesMinute_106 : decode cX1_goesMinute 106 = .ok (.aload_n 0, 1) := by decide +kernel
theorem dX1_goesMinute_107 : decode cX1_goesMinute 107 = .ok (.iload_n 3, 1) := by decide +kernel
theorem dX1_goesMinute_108 : decode cX1_goesMinute 108 = .ok (.iload 4, 2) := by decide +kernel
theorem dX1_goesMinute_110 : decode cX1_goesMinute 110 = .ok (.ifCond .le 7, 3) := by decide +kernel
theorem dX1_goesMinute_113 : decode cX1_goesMinute 113 = .ok (.iconst 1, 1) := by decide +kernel
theorem dX1_goesMinute_114 : decode cX1_goesMinute 114 = .ok (.goto 4, 3) := by decide +kernel
theorem dX1_goesMinute_117 : decode cX1_goesMinute 117 = .ok (.iconst 0, 1) := by decide +kernel
theorem dX1_goesMinute_118 : decode cX1_goesMinute 118 = .ok (.invokevirtual 121, 3) := by decide +kernel
theorem dX1_goesMinute_121 : decode cX1_goesMinute 121 = .ok (.iinc 2 1, 3) := by decide +kernel
theorem dX1_goesMinute_124 : decode cX1_goesMinute 124 = .ok (.goto (-93), 3) := by decide +kernel
theorem dX1_goesMinute_127 : decode cX1_goesMinute 127 = .ok (.aload_n 0, 1) := by decide +kernel
theorem dX1_goesMinute_128 : decode cX1_goesMinute 128 = .ok (.dup, 1) := by decide +kernel
theorem dX1_goesMinute_129 : decode cX1_goesMinute 129 = .ok (.getfield 43, 3) := by decide +kernel
theorem dX1_goesMinute_132 : decode cX1_goesMinute 132 = .ok (.iconst 1, 1) := by decide +kernel
theorem dX1_goesMinute_133 : decode cX1_goesMinute 133 = .ok (.iadd, 1) := by decide +kernel
theorem dX1_goesMinute_134 : decode cX1_goesMinute 134 = .ok (.putfield 43, 3) := by decide +kernel
theorem dX1_goesMinute_137 : decode cX1_goesMinute 137 = .ok (.iload_n 1, 1) := by decide +kernel
theorem dX1_goesMinute_138 : decode cX1_goesMinute 138 = .ok (.ireturn, 1) := by decide +kernel
set_option maxRecDepth 20000 in
theorem ggX1_roomAt_X1_gap : GoodIn wsX1_roomAt wsX1_gap := goodIn_s _ [(15, 33)] rfl (by decide +kernel)
set_option maxRecDepth 20000 in
theorem gX1_roomAt_X1_gap : GoodIn wsX1_roomAt (wsV RX1 109 RX1 yX1_gap wsX1_gap) := goodIn_app (goodIn_of _ (by decide +kernel)) ggX1_roomAt_X1_gap
theorem dX1_roomAt_0 : decode cX1_roomAt 0 = .ok (.aload_n 0, 1) := by decide +kernel
theorem dX1_roomAt_1 : decode cX1_roomAt 1 = .ok (.getfield 21, 3) := by decide +kernel
theorem dX1_roomAt_4 : decode cX1_roomAt 4 = .ok (.iload_n 1, 1) := by decide +kernel
theorem dX1_roomAt_5 : decode cX1_roomAt 5 = .ok (.iaload, 1) := by decide +kernel
theorem dX1_roomAt_6 : decode cX1_roomAt 6 = .ok (.istore_n 2, 1) := by decide +kernel
theorem dX1_roomAt_7 : decode cX1_roomAt 7 = .ok (.aload_n 0, 1) := by decide +kernel
theorem dX1_roomAt_8 : decode cX1_roomAt 8 = .ok (.getfield 28, 3) := by decide +kernel
theorem dX1_roomAt_11 : decode cX1_roomAt 11 = .ok (.iload_n 2, 1) := by decide +kernel
theorem dX1_roomAt_12 : decode cX1_roomAt 12 = .ok (.iaload, 1) := by decide +kernel
theorem dX1_roomAt_13 : decode cX1_roomAt 13 = .ok (.aload_n 0, 1) := by decide +kernel
theorem dX1_roomAt_14 : decode cX1_roomAt 14 = .ok (.getfield 68, 3) := by decide +kernel
theorem dX1_roomAt_17 : decode cX1_roomAt 17 = .ok (.iload_n 1, 1) := by decide +kernel
theorem dX1_roomAt_18 : decode cX1_roomAt 18 = .ok (.iaload, 1) := by decide +kernel
theorem dX1_roomAt_19 : decode cX1_roomAt 19 = .ok (.iadd, 1) := by decide +kernel
theorem dX1_roomAt_20 : decode cX1_roomAt 20 = .ok (.sipush 9999, 3) := by decide +kernel
theorem dX1_roomAt_23 : decode cX1_roomAt 23 = .ok (.invokestatic 125, 3) := by decide +kernel
theorem dX1_roomAt_26 : decode cX1_roomAt 26 = .ok (.istore_n 3, 1) := by decide +kernel
theorem dX1_roomAt_27 : decode cX1_roomAt 27 = .ok (.iload_n 1, 1) := by decide +kernel
theorem dX1_roomAt_28 : decode cX1_roomAt 28 = .ok (.ifCond .le 26, 3) := by decide +kernel
theorem dX1_roomAt_31 : decode cX1_roomAt 31 = .ok (.iload_n 3, 1) := by decide +kernel
theorem dX1_roomAt_32 : decode cX1_roomAt 32 = .ok (.aload_n 0, 1) := by decide +kernel
theorem dX1_roomAt_33 : decode cX1_roomAt 33 = .ok (.getfield 28, 3) := by decide +kernel
theorem dX1_roomAt_36 : decode cX1_roomAt 36 = .ok (.aload_n 0, 1) := by decide +kernel
theorem dX1_roomAt_37 : decode cX1_roomAt 37 = .ok (.getfield 21, 3) := by decide +kernel
theorem dX1_roomAt_40 : decode cX1_roomAt 40 = .ok (.iload_n 1, 1) := by decide +kernel
theorem dX1_roomAt_41 : decode cX1_roomAt 41 = .ok (.iconst 1, 1) := by decide +kernel
theorem dX1_roomAt_42 : decode cX1_roomAt 42 = .ok (.isub, 1) := by decide +kernel
theorem dX1_roomAt_43 : decode cX1_roomAt 43 = .ok (.iaload, 1) := by decide +kernel
theorem dX1_roomAt_44 : decode cX1_roomAt 44 = .ok (.iaload, 1) := by decide +kernel
theorem dX1_roomAt_45 : decode cX1_roomAt 45 = .ok (.aload_n 0, 1) := by decide +kernel
theorem dX1_roomAt_46 : decode cX1_roomAt 46 = .ok (.invokevirtual 109, 3) := by decide +kernel
theorem dX1_roomAt_49 : decode cX1_roomAt 49 = .ok (.isub, 1) := by decide +kernel
theorem dX1_roomAt_50 : decode cX1_roomAt 50 = .ok (.invokestatic 125, 3) := by decide +kernel
theorem dX1_roomAt_53 : decode cX1_roomAt 53 = .ok (.istore_n 3, 1) := by decide +kernel
theorem dX1_roomAt_54 : decode cX1_roomAt 54 = .ok (.iconst 0, 1) := by decide +kernel
theorem dX1_roomAt_55 : decode cX1_roomAt 55 = .ok (.iload_n 3, 1) := by decide +kernel
theorem dX1_roomAt_56 : decode cX1_roomAt 56 = .ok (.aload_n 0, 1) := by decide +kernel
theorem dX1_roomAt_57 : decode cX1_roomAt 57 = .ok (.getfield 28, 3) := by decide +kernel
theorem dX1_roomAt_60 : decode cX1_roomAt 60 = .ok (.iload_n 2, 1) := by decide +kernel
theorem dX1_roomAt_61 : decode cX1_roomAt 61 = .ok (.iaload, 1) := by decide +kernel
theorem dX1_roomAt_62 : decode cX1_roomAt 62 = .ok (.isub, 1) := by decide +kernel
theorem dX1_roomAt_63 : decode cX1_roomAt 63 = .ok (.invokestatic 131, 3) := by decide +kernel
theorem dX1_roomAt_66 : decode cX1_roomAt 66 = .ok (.ireturn, 1) := by decide +kernel
theorem dX1_wears_0 : decode cX1_wears 0 = .ok (.iload_n 2, 1) := by decide +kernel
theorem dX1_wears_1 : decode cX1_wears 1 = .ok (.ifCond .eq 49, 3) := by decide +kernel
theorem dX1_wears_4 : decode cX1_wears 4 = .ok (.aload_n 0, 1) := by decide +kernel
theorem dX1_wears_5 : decode cX1_wears 5 = .ok (.getfield 31, 3) := by decide +kernel
theorem dX1_wears_8 : decode cX1_wears 8 = .ok (.iload_n 1, 1) := by decide +kernel
theorem dX1_wears_9 : decode cX1_wears 9 = .ok (.iconst 0, 1) := by decide +kernel
theorem dX1_wears_10 : decode cX1_wears 10 = .ok (.aload_n 0, 1) := by decide +kernel
theorem dX1_wears_11 : decode cX1_wears 11 = .ok (.getfield 31, 3) := by decide +kernel
theorem dX1_wears_14 : decode cX1_wears 14 = .ok (.iload_n 1, 1) := by decide +kernel
theorem dX1_wears_15 : decode cX1_wears 15 = .ok (.iaload, 1) := by decide +kernel
theorem dX1_wears_16 : decode cX1_wears 16 = .ok (.iconst 1, 1) := by decide +kernel
theorem dX1_wears_17 : decode cX1_wears 17 = .ok (.isub, 1) := by decide +kernel
theorem dX1_wears_18 : decode cX1_wears 18 = .ok (.invokestatic 131, 3) := by decide +kernel
theorem dX1_wears_21 : decode cX1_wears 21 = .ok (.iastore, 1) := by decide +kernel
theorem dX1_wears_22 : decode cX1_wears 22 = .ok (.aload_n 0, 1) := by decide +kernel
theorem dX1_wears_23 : decode cX1_wears 23 = .ok (.getfield 34, 3) := by decide +kernel
theorem dX1_wears_26 : decode cX1_wears 26 = .ok (.iload_n 1, 1) := by decide +kernel
theorem dX1_wears_27 : decode cX1_wears 27 = .ok (.bipush 99, 2) := by decide +kernel
theorem dX1_wears_29 : decode cX1_wears 29 = .ok (.aload_n 0, 1) := by decide +kernel
theorem dX1_wears_30 : decode cX1_wears 30 = .ok (.getfield 34, 3) := by decide +kernel
theorem dX1_wears_33 : decode cX1_wears 33 = .ok (.iload_n 1, 1) := by decide +kernel
theorem dX1_wears_34 : decode cX1_wears 34 = .ok (.iaload, 1) := by decide +kernel
theorem dX1_wears_35 : decode cX1_wears 35 = .ok (.aload_n 0, 1) := by decide +kernel
theorem dX1_wears_36 : decode cX1_wears 36 = .ok (.getfield 46, 3) := by decide +kernel
theorem dX1_wears_39 : decode cX1_wears 39 = .ok (.getfield 134, 3) := by decide +kernel
theorem dX1_wears_42 : decode cX1_wears 42 = .ok (.iadd, 1) := by decide +kernel
theorem dX1_wears_43 : decode cX1_wears 43 = .ok (.invokestatic 125, 3) := by decide +kernel
theorem dX1_wears_46 : decode cX1_wears 46 = .ok (.iastore, 1) := by decide +kernel
theorem dX1_wears_47 : decode cX1_wears 47 = .ok (.goto 21, 3) := by decide +kernel
theorem dX1_wears_50 : decode cX1_wears 50 = .ok (.aload_n 0, 1) := by decide +kernel
theorem dX1_wears_51 : decode cX1_wears 51 = .ok (.getfield 34, 3) := by decide +kernel
theorem dX1_wears_54 : decode cX1_wears 54 = .ok (.iload_n 1, 1) := by decide +kernel
theorem dX1_wears_55 : decode cX1_wears 55 = .ok (.iconst 0, 1) := by decide +kernel
theorem dX1_wears_56 : decode cX1_wears 56 = .ok (.aload_n 0, 1) := by decide +kernel
theorem dX1_wears_57 : decode cX1_wears 57 = .ok (.getfield 34, 3) := by decide +kernel
theorem dX1_wears_60 : decode cX1_wears 60 = .ok (.iload_n 1, 1) := by decide +kernel
theorem dX1_wears_61 : decode cX1_wears 61 = .ok (.iaload, 1) := by decide +kernel
theorem dX1_wears_62 : decode cX1_wears 62 = .ok (.iconst 2, 1) := by decide +kernel
theorem dX1_wears_63 : decode cX1_wears 63 = .ok (.isub, 1) := by decide +kernel
theorem dX1_wears_64 : decode cX1_wears 64 = .ok (.invokestatic 131, 3) := by decide +kernel
theorem dX1_wears_67 : decode cX1_wears 67 = .ok (.iastore, 1) := by decide +kernel
theorem dX1_wears_68 : decode cX1_wears 68 = .ok (.return_, 1) := by decide +kernel
set_option maxRecDepth 20000 in
theorem ggX1_whetsAll_X1_passes : GoodIn wsX1_whetsAll wsX1_passes := goodIn_s _ [(7, 1), (1, 1), (8, 24)] rfl (by decide +kernel)
set_option maxRecDepth 20000 in
theorem gX1_whetsAll_X1_passes : GoodIn wsX1_whetsAll (wsV RX1 137 RX1 yX1_passes wsX1_passes) := goodIn_app (goodIn_of _ (by decide +kernel)) ggX1_whetsAll_X1_passes
theorem dX1_whetsAll_0 : decode cX1_whetsAll 0 = .ok (.iconst 0, 1) := by decide +kernel
theorem dX1_whetsAll_1 : decode cX1_whetsAll 1 = .ok (.istore_n 1, 1) := by decide +kernel
theorem dX1_whetsAll_2 : decode cX1_whetsAll 2 = .ok (.iload_n 1, 1) := by decide +kernel
theorem dX1_whetsAll_3 : decode cX1_whetsAll 3 = .ok (.aload_n 0, 1) := by decide +kernel
theorem dX1_whetsAll_4 : decode cX1_whetsAll 4 = .ok (.getfield 17, 3) := by decide +kernel
theorem dX1_whetsAll_7 : decode cX1_whetsAll 7 = .ok (.if_icmp .ge 17, 3) := by decide +kernel
theorem dX1_whetsAll_10 : decode cX1_whetsAll 10 = .ok (.aload_n 0, 1) := by decide +kernel
theorem dX1_whetsAll_11 : decode cX1_whetsAll 11 = .ok (.getfield 31, 3) := by decide +kernel
theorem dX1_whetsAll_14 : decode cX1_whetsAll 14 = .ok (.iload_n 1, 1) := by decide +kernel
theorem dX1_whetsAll_15 : decode cX1_whetsAll 15 = .ok (.bipush 10, 2) := by decide +kernel
theorem dX1_whetsAll_17 : decode cX1_whetsAll 17 = .ok (.iastore, 1) := by decide +kernel
theorem dX1_whetsAll_18 : decode cX1_whetsAll 18 = .ok (.iinc 1 1, 3) := by decide +kernel
theorem dX1_whetsAll_21 : decode cX1_whetsAll 21 = .ok (.goto (-19), 3) := by decide +kernel
theorem dX1_whetsAll_24 : decode cX1_whetsAll 24 = .ok (.aload_n 0, 1) := by decide +kernel
theorem dX1_whetsAll_25 : decode cX1_whetsAll 25 = .ok (.iconst 1, 1) := by decide +kernel
theorem dX1_whetsAll_26 : decode cX1_whetsAll 26 = .ok (.iconst 1, 1) := by decide +kernel
theorem dX1_whetsAll_27 : decode cX1_whetsAll 27 = .ok (.invokevirtual 137, 3) := by decide +kernel
theorem dX1_whetsAll_30 : decode cX1_whetsAll 30 = .ok (.return_, 1) := by decide +kernel
set_option maxRecDepth 20000 in
theorem ggX1_rests_X1_passes : GoodIn wsX1_rests wsX1_passes := goodIn_s _ [(5, 26)] rfl (by decide +kernel)
set_option maxRecDepth 20000 in
theorem gX1_rests_X1_passes : GoodIn wsX1_rests (wsV RX1 137 RX1 yX1_passes wsX1_passes) := goodIn_app (goodIn_of _ (by decide +kernel)) ggX1_rests_X1_passes
theorem dX1_rests_0 : decode cX1_rests 0 = .ok (.aload_n 0, 1) := by decide +kernel
theorem dX1_rests_1 : decode cX1_rests 1 = .ok (.iload_n 1, 1) := by decide +kernel
theorem dX1_rests_2 : decode cX1_rests 2 = .ok (.iconst 3, 1) := by decide +kernel
theorem dX1_rests_3 : decode cX1_rests 3 = .ok (.iload_n 1, 1) := by decide +kernel
theorem dX1_rests_4 : decode cX1_rests 4 = .ok (.imul, 1) := by decide +kernel
theorem dX1_rests_5 : decode cX1_rests 5 = .ok (.invokevirtual 137, 3) := by decide +kernel
theorem dX1_rests_8 : decode cX1_rests 8 = .ok (.return_, 1) := by decide +kernel
theorem dX1_passes_0 : decode cX1_passes 0 = .ok (.iconst 0, 1) := by decide +kernel
theorem dX1_passes_1 : decode cX1_passes 1 = .ok (.istore_n 3, 1) := by decide +kernel
theorem dX1_passes_2 : decode cX1_passes 2 = .ok (.iload_n 3, 1) := by decide +kernel
theorem dX1_passes_3 : decode cX1_passes 3 = .ok (.aload_n 0, 1) := by decide +kernel
theorem dX1_passes_4 : decode cX1_passes 4 = .ok (.getfield 17, 3) := by decide +kernel
theorem dX1_passes_7 : decode cX1_passes 7 = .ok (.if_icmp .ge 45, 3) := by decide +kernel
theorem dX1_passes_10 : decode cX1_passes 10 = .ok (.aload_n 0, 1) := by decide +kernel
theorem dX1_passes_11 : decode cX1_passes 11 = .ok (.getfield 34, 3) := by decide +kernel
theorem dX1_passes_14 : decode cX1_passes 14 = .ok (.iload_n 3, 1) := by decide +kernel
theorem dX1_passes_15 : decode cX1_passes 15 = .ok (.iconst 0, 1) := by decide +kernel
theorem dX1_passes_16 : decode cX1_passes 16 = .ok (.aload_n 0, 1) := by decide +kernel
theorem dX1_passes_17 : decode cX1_passes 17 = .ok (.getfield 34, 3) := by decide +kernel
theorem dX1_passes_20 : decode cX1_passes 20 = .ok (.iload_n 3, 1) := by decide +kernel
theorem dX1_passes_21 : decode cX1_passes 21 = .ok (.iaload, 1) := by decide +kernel
theorem dX1_passes_22 : decode cX1_passes 22 = .ok (.iload_n 2, 1) := by decide +kernel
theorem dX1_passes_23 : decode cX1_passes 23 = .ok (.isub, 1) := by decide +kernel
theorem dX1_passes_24 : decode cX1_passes 24 = .ok (.invokestatic 131, 3) := by decide +kernel
theorem dX1_passes_27 : decode cX1_passes 27 = .ok (.iastore, 1) := by decide +kernel
theorem dX1_passes_28 : decode cX1_passes 28 = .ok (.aload_n 0, 1) := by decide +kernel
theorem dX1_passes_29 : decode cX1_passes 29 = .ok (.getfield 37, 3) := by decide +kernel
theorem dX1_passes_32 : decode cX1_passes 32 = .ok (.iload_n 3, 1) := by decide +kernel
theorem dX1_passes_33 : decode cX1_passes 33 = .ok (.iconst 0, 1) := by decide +kernel
theorem dX1_passes_34 : decode cX1_passes 34 = .ok (.aload_n 0, 1) := by decide +kernel
theorem dX1_passes_35 : decode cX1_passes 35 = .ok (.getfield 37, 3) := by decide +kernel
theorem dX1_passes_38 : decode cX1_passes 38 = .ok (.iload_n 3, 1) := by decide +kernel
theorem dX1_passes_39 : decode cX1_passes 39 = .ok (.iaload, 1) := by decide +kernel
theorem dX1_passes_40 : decode cX1_passes 40 = .ok (.iload_n 1, 1) := by decide +kernel
theorem dX1_passes_41 : decode cX1_passes 41 = .ok (.isub, 1) := by decide +kernel
theorem dX1_passes_42 : decode cX1_passes 42 = .ok (.invokestatic 131, 3) := by decide +kernel
theorem dX1_passes_45 : decode cX1_passes 45 = .ok (.iastore, 1) := by decide +kernel
theorem dX1_passes_46 : decode cX1_passes 46 = .ok (.iinc 3 1, 3) := by decide +kernel
theorem dX1_passes_49 : decode cX1_passes 49 = .ok (.goto (-47), 3) := by decide +kernel
theorem dX1_passes_52 : decode cX1_passes 52 = .ok (.aload_n 0, 1) := by decide +kernel
theorem dX1_passes_53 : decode cX1_passes 53 = .ok (.dup, 1) := by decide +kernel
theorem dX1_passes_54 : decode cX1_passes 54 = .ok (.getfield 43, 3) := by decide +kernel
theorem dX1_passes_57 : decode cX1_passes 57 = .ok (.iload_n 1, 1) := by decide +kernel
theorem dX1_passes_58 : decode cX1_passes 58 = .ok (.iadd, 1) := by decide +kernel
theorem dX1_passes_59 : decode cX1_passes 59 = .ok (.putfield 43, 3) := by decide +kernel
theorem dX1_passes_62 : decode cX1_passes 62 = .ok (.return_, 1) := by decide +kernel
theorem dX1_allAt_0 : decode cX1_allAt 0 = .ok (.iconst 0, 1) := by decide +kernel
theorem dX1_allAt_1 : decode cX1_allAt 1 = .ok (.istore_n 1, 1) := by decide +kernel
theorem dX1_allAt_2 : decode cX1_allAt 2 = .ok (.iconst 0, 1) := by decide +kernel
theorem dX1_allAt_3 : decode cX1_allAt 3 = .ok (.istore_n 2, 1) := by decide +kernel
theorem dX1_allAt_4 : decode cX1_allAt 4 = .ok (.iload_n 2, 1) := by decide +kernel
theorem dX1_allAt_5 : decode cX1_allAt 5 = .ok (.aload_n 0, 1) := by decide +kernel
theorem dX1_allAt_6 : decode cX1_allAt 6 = .ok (.getfield 17, 3) := by decide +kernel
theorem dX1_allAt_9 : decode cX1_allAt 9 = .ok (.if_icmp .ge 18, 3) := by decide +kernel
theorem dX1_allAt_12 : decode cX1_allAt 12 = .ok (.iload_n 1, 1) := by decide +kernel
theorem dX1_allAt_13 : decode cX1_allAt 13 = .ok (.aload_n 0, 1) := by decide +kernel
theorem dX1_allAt_14 : decode cX1_allAt 14 = .ok (.getfield 28, 3) := by decide +kernel
theorem dX1_allAt_17 : decode cX1_allAt 17 = .ok (.iload_n 2, 1) := by decide +kernel
theorem dX1_allAt_18 : decode cX1_allAt 18 = .ok (.iaload, 1) := by decide +kernel
theorem dX1_allAt_19 : decode cX1_allAt 19 = .ok (.iadd, 1) := by decide +kernel
theorem dX1_allAt_20 : decode cX1_allAt 20 = .ok (.istore_n 1, 1) := by decide +kernel
theorem dX1_allAt_21 : decode cX1_allAt 21 = .ok (.iinc 2 1, 3) := by decide +kernel
theorem dX1_allAt_24 : decode cX1_allAt 24 = .ok (.goto (-20), 3) := by decide +kernel
theorem dX1_allAt_27 : decode cX1_allAt 27 = .ok (.iload_n 1, 1) := by decide +kernel
theorem dX1_allAt_28 : decode cX1_allAt 28 = .ok (.ireturn, 1) := by decide +kernel
theorem dX1_isDone_0 : decode cX1_isDone 0 = .ok (.iconst 0, 1) := by decide +kernel
theorem dX1_isDone_1 : decode cX1_isDone 1 = .ok (.istore_n 1, 1) := by decide +kernel
theorem dX1_isDone_2 : decode cX1_isDone 2 = .ok (.iload_n 1, 1) := by decide +kernel
theorem dX1_isDone_3 : decode cX1_isDone 3 = .ok (.aload_n 0, 1) := by decide +kernel
theorem dX1_isDone_4 : decode cX1_isDone 4 = .ok (.getfield 17, 3) := by decide +kernel
theorem dX1_isDone_7 : decode cX1_isDone 7 = .ok (.if_icmp .ge 27, 3) := by decide +kernel
theorem dX1_isDone_10 : decode cX1_isDone 10 = .ok (.aload_n 0, 1) := by decide +kernel
theorem dX1_isDone_11 : decode cX1_isDone 11 = .ok (.getfield 28, 3) := by decide +kernel
theorem dX1_isDone_14 : decode cX1_isDone 14 = .ok (.iload_n 1, 1) := by decide +kernel
theorem dX1_isDone_15 : decode cX1_isDone 15 = .ok (.iaload, 1) := by decide +kernel
theorem dX1_isDone_16 : decode cX1_isDone 16 = .ok (.aload_n 0, 1) := by decide +kernel
theorem dX1_isDone_17 : decode cX1_isDone 17 = .ok (.getfield 46, 3) := by decide +kernel
theorem dX1_isDone_20 : decode cX1_isDone 20 = .ok (.getfield 141, 3) := by decide +kernel
theorem dX1_isDone_23 : decode cX1_isDone 23 = .ok (.if_icmp .ge 5, 3) := by decide +kernel
theorem dX1_isDone_26 : decode cX1_isDone 26 = .ok (.iconst 0, 1) := by decide +kernel
theorem dX1_isDone_27 : decode cX1_isDone 27 = .ok (.ireturn, 1) := by decide +kernel
theorem dX1_isDone_28 : decode cX1_isDone 28 = .ok (.iinc 1 1, 3) := by decide +kernel
theorem dX1_isDone_31 : decode cX1_isDone 31 = .ok (.goto (-29), 3) := by decide +kernel
theorem dX1_isDone_34 : decode cX1_isDone 34 = .ok (.iconst 1, 1) := by decide +kernel
theorem dX1_isDone_35 : decode cX1_isDone 35 = .ok (.ireturn, 1) := by decide +kernel
theorem dX2_init_0 : decode cX2_init 0 = .ok (.aload_n 0, 1) := by decide +kernel
theorem dX2_init_1 : decode cX2_init 1 = .ok (.invokespecial 3, 3) := by decide +kernel
theorem dX2_init_4 : decode cX2_init 4 = .ok (.aload_n 0, 1) := by decide +kernel
theorem dX2_init_5 : decode cX2_init 5 = .ok (.iconst 2, 1) := by decide +kernel
theorem dX2_init_6 : decode cX2_init 6 = .ok (.putfield 9, 3) := by decide +kernel
theorem dX2_init_9 : decode cX2_init 9 = .ok (.aload_n 0, 1) := by decide +kernel
theorem dX2_init_10 : decode cX2_init 10 = .ok (.iconst 1, 1) := by decide +kernel
theorem dX2_init_11 : decode cX2_init 11 = .ok (.putfield 15, 3) := by decide +kernel
theorem dX2_init_14 : decode cX2_init 14 = .ok (.aload_n 0, 1) := by decide +kernel
theorem dX2_init_15 : decode cX2_init 15 = .ok (.bipush 60, 2) := by decide +kernel
theorem dX2_init_17 : decode cX2_init 17 = .ok (.putfield 18, 3) := by decide +kernel
theorem dX2_init_20 : decode cX2_init 20 = .ok (.aload_n 0, 1) := by decide +kernel
theorem dX2_init_21 : decode cX2_init 21 = .ok (.bipush 100, 2) := by decide +kernel
theorem dX2_init_23 : decode cX2_init 23 = .ok (.newarray .int, 2) := by decide +kernel
theorem dX2_init_25 : decode cX2_init 25 = .ok (.putfield 21, 3) := by decide +kernel
theorem dX2_init_28 : decode cX2_init 28 = .ok (.aload_n 0, 1) := by decide +kernel
theorem dX2_init_29 : decode cX2_init 29 = .ok (.iconst 0, 1) := by decide +kernel
theorem dX2_init_30 : decode cX2_init 30 = .ok (.putfield 25, 3) := by decide +kernel
theorem dX2_init_33 : decode cX2_init 33 = .ok (.aload_n 0, 1) := by decide +kernel
theorem dX2_init_34 : decode cX2_init 34 = .ok (.bipush 10, 2) := by decide +kernel
theorem dX2_init_36 : decode cX2_init 36 = .ok (.newarray .int, 2) := by decide +kernel
theorem dX2_init_38 : decode cX2_init 38 = .ok (.putfield 28, 3) := by decide +kernel
theorem dX2_init_41 : decode cX2_init 41 = .ok (.aload_n 0, 1) := by decide +kernel
theorem dX2_init_42 : decode cX2_init 42 = .ok (.bipush 10, 2) := by decide +kernel
theorem dX2_init_44 : decode cX2_init 44 = .ok (.newarray .int, 2) := by decide +kernel
theorem dX2_init_46 : decode cX2_init 46 = .ok (.putfield 31, 3) := by decide +kernel
theorem dX2_init_49 : decode cX2_init 49 = .ok (.aload_n 0, 1) := by decide +kernel
theorem dX2_init_50 : decode cX2_init 50 = .ok (.bipush 10, 2) := by decide +kernel
theorem dX2_init_52 : decode cX2_init 52 = .ok (.newarray .int, 2) := by decide +kernel
theorem dX2_init_54 : decode cX2_init 54 = .ok (.putfield 34, 3) := by decide +kernel
theorem dX2_init_57 : decode cX2_init 57 = .ok (.aload_n 0, 1) := by decide +kernel
theorem dX2_init_58 : decode cX2_init 58 = .ok (.iconst 0, 1) := by decide +kernel
theorem dX2_init_59 : decode cX2_init 59 = .ok (.putfield 37, 3) := by decide +kernel
theorem dX2_init_62 : decode cX2_init 62 = .ok (.aload_n 0, 1) := by decide +kernel
theorem dX2_init_63 : decode cX2_init 63 = .ok (.aconst_null, 1) := by decide +kernel
theorem dX2_init_64 : decode cX2_init 64 = .ok (.putfield 40, 3) := by decide +kernel
theorem dX2_init_67 : decode cX2_init 67 = .ok (.aload_n 0, 1) := by decide +kernel
theorem dX2_init_68 : decode cX2_init 68 = .ok (.iconst 0, 1) := by decide +kernel
theorem dX2_init_69 : decode cX2_init 69 = .ok (.putfield 44, 3) := by decide +kernel
theorem dX2_init_72 : decode cX2_init 72 = .ok (.aload_n 0, 1) := by decide +kernel
theorem dX2_init_73 : decode cX2_init 73 = .ok (.iconst 0, 1) := by decide +kernel
theorem dX2_init_74 : decode cX2_init 74 = .ok (.putfield 47, 3) := by decide +kernel
theorem dX2_init_77 : decode cX2_init 77 = .ok (.return_, 1) := by decide +kernel
set_option maxRecDepth 20000 in
theorem ggX2_reads_X2_readsClause : GoodIn wsX2_reads wsX2_readsClause := goodIn_s _ [(17, 4), (16, 1), (21, 5), (6, 1), (12, 1), (11, 1), (26, 30), (9, 1), (56, 2), (8, 1), (10, 1), (58, 105), (4, 1), (163, 14), (1, 2), (177, 1), (3, 1), (5, 1), (178, 15)] rfl (by decide +kernel)
set_option maxRecDepth 20000 in
theorem gX2_reads_X2_readsClause : GoodIn wsX2_reads (wsV RX2 56 RX2 yX2_readsClause wsX2_readsClause) := goodIn_app (goodIn_of _ (by decide +kernel)) ggX2_reads_X2_readsClause
set_option maxRecDepth 20000 in
theorem ggX2_reads_X2_takes : GoodIn wsX2_reads wsX2_takes := goodIn_s _ [(143, 1), (12, 1), (22, 3), (16, 1), (25, 1), (6, 1), (11, 1), (181, 12)] rfl (by decide +kernel)
set_option maxRecDepth 20000 in
theorem gX2_reads_X2_takes : GoodIn wsX2_reads (wsV RX2 60 RX2 yX2_takes wsX2_takes) := goodIn_app (goodIn_of _ (by decide +kernel)) ggX2_reads_X2_takes
theorem dX2_reads_0 : decode cX2_reads 0 = .ok (.aload_n 0, 1) := by decide +kernel
theorem dX2_reads_1 : decode cX2_reads 1 = .ok (.iconst 2, 1) := by decide +kernel
theorem dX2_reads_2 : decode cX2_reads 2 = .ok (.putfield 9, 3) := by decide +kernel
theorem dX2_reads_5 : decode cX2_reads 5 = .ok (.aload_n 0, 1) := by decide +kernel
theorem dX2_reads_6 : decode cX2_reads 6 = .ok (.iconst 1, 1) := by decide +kernel
theorem dX2_reads_7 : decode cX2_reads 7 = .ok (.putfield 15, 3) := by decide +kernel
theorem dX2_reads_10 : decode cX2_reads 10 = .ok (.aload_n 0, 1) := by decide +kernel
theorem dX2_reads_11 : decode cX2_reads 11 = .ok (.bipush 60, 2) := by decide +kernel
theorem dX2_reads_13 : decode cX2_reads 13 = .ok (.putfield 18, 3) := by decide +kernel
theorem dX2_reads_16 : decode cX2_reads 16 = .ok (.aload_n 0, 1) := by decide +kernel
theorem dX2_reads_17 : decode cX2_reads 17 = .ok (.iconst 0, 1) := by decide +kernel
theorem dX2_reads_18 : decode cX2_reads 18 = .ok (.putfield 25, 3) := by decide +kernel
theorem dX2_reads_21 : decode cX2_reads 21 = .ok (.aload_n 0, 1) := by decide +kernel
theorem dX2_reads_22 : decode cX2_reads 22 = .ok (.iconst 0, 1) := by decide +kernel
theorem dX2_reads_23 : decode cX2_reads 23 = .ok (.putfield 37, 3) := by decide +kernel
theorem dX2_reads_26 : decode cX2_reads 26 = .ok (.aload_n 0, 1) := by decide +kernel
theorem dX2_reads_27 : decode cX2_reads 27 = .ok (.aload_n 1, 1) := by decide +kernel
theorem dX2_reads_28 : decode cX2_reads 28 = .ok (.putfield 40, 3) := by decide +kernel
theorem dX2_reads_31 : decode cX2_reads 31 = .ok (.aload_n 0, 1) := by decide +kernel
theorem dX2_reads_32 : decode cX2_reads 32 = .ok (.iload_n 2, 1) := by decide +kernel
theorem dX2_reads_33 : decode cX2_reads 33 = .ok (.aload_n 1, 1) := by decide +kernel
theorem dX2_reads_34 : decode cX2_reads 34 = .ok (.arraylength, 1) := by decide +kernel
theorem dX2_reads_35 : decode cX2_reads 35 = .ok (.invokestatic 50, 3) := by decide +kernel
theorem dX2_reads_38 : decode cX2_reads 38 = .ok (.putfield 44, 3) := by decide +kernel
theorem dX2_reads_41 : decode cX2_reads 41 = .ok (.aload_n 0, 1) := by decide +kernel
theorem dX2_reads_42 : decode cX2_reads 42 = .ok (.iconst 0, 1) := by decide +kernel
theorem dX2_reads_43 : decode cX2_reads 43 = .ok (.putfield 47, 3) := by decide +kernel
theorem dX2_reads_46 : decode cX2_reads 46 = .ok (.iconst 1, 1) := by decide +kernel
theorem dX2_reads_47 : decode cX2_reads 47 = .ok (.istore_n 3, 1) := by decide +kernel
theorem dX2_reads_48 : decode cX2_reads 48 = .ok (.iload_n 3, 1) := by decide +kernel
theorem dX2_reads_49 : decode cX2_reads 49 = .ok (.bipush 10, 2) := by decide +kernel
theorem dX2_reads_51 : decode cX2_reads 51 = .ok (.if_icmp .ge 44, 3) := by decide +kernel
theorem dX2_reads_54 : decode cX2_reads 54 = .ok (.aload_n 0, 1) := by decide +kernel
theorem dX2_reads_55 : decode cX2_reads 55 = .ok (.invokevirtual 56, 3) := by decide +kernel
theorem dX2_reads_58 : decode cX2_reads 58 = .ok (.ifCond .ne 5, 3) := by decide +kernel
theorem dX2_reads_61 : decode cX2_reads 61 = .ok (.iconst 0, 1) := by decide +kernel
theorem dX2_reads_62 : decode cX2_reads 62 = .ok (.ireturn, 1) := by decide +kernel
theorem dX2_reads_63 : decode cX2_reads 63 = .ok (.aload_n 0, 1) := by decide +kernel
theorem dX2_reads_64 : decode cX2_reads 64 = .ok (.bipush 59, 2) := by decide +kernel
theorem dX2_reads_66 : decode cX2_reads 66 = .ok (.invokevirtual 60, 3) := by decide +kernel
theorem dX2_reads_69 : decode cX2_reads 69 = .ok (.ifCond .ne 20, 3) := by decide +kernel
theorem dX2_reads_72 : decode cX2_reads 72 = .ok (.aload_n 0, 1) := by decide +kernel
theorem dX2_reads_73 : decode cX2_reads 73 = .ok (.getfield 47, 3) := by decide +kernel
theorem dX2_reads_76 : decode cX2_reads 76 = .ok (.aload_n 0, 1) := by decide +kernel
theorem dX2_reads_77 : decode cX2_reads 77 = .ok (.getfield 44, 3) := by decide +kernel
theorem dX2_reads_80 : decode cX2_reads 80 = .ok (.if_icmp .ne 7, 3) := by decide +kernel
theorem dX2_reads_83 : decode cX2_reads 83 = .ok (.iconst 1, 1) := by decide +kernel
theorem dX2_reads_84 : decode cX2_reads 84 = .ok (.goto 4, 3) := by decide +kernel
theorem dX2_reads_87 : decode cX2_reads 87 = .ok (.iconst 0, 1) := by decide +kernel
theorem dX2_reads_88 : decode cX2_reads 88 = .ok (.ireturn, 1) := by decide +kernel
theorem dX2_reads_89 : decode cX2_reads 89 = .ok (.iinc 3 1, 3) := by decide +kernel
theorem dX2_reads_92 : decode cX2_reads 92 = .ok (.goto (-44), 3) := by decide +kernel
theorem dX2_reads_95 : decode cX2_reads 95 = .ok (.aload_n 0, 1) := by decide +kernel
theorem dX2_reads_96 : decode cX2_reads 96 = .ok (.invokevirtual 56, 3) := by decide +kernel
theorem dX2_reads_99 : decode cX2_reads 99 = .ok (.ifCond .eq 18, 3) := by decide +kernel
theorem dX2_reads_102 : decode cX2_reads 102 = .ok (.aload_n 0, 1) := by decide +kernel
theorem dX2_reads_103 : decode cX2_reads 103 = .ok (.getfield 47, 3) := by decide +kernel
theorem dX2_reads_106 : decode cX2_reads 106 = .ok (.aload_n 0, 1) := by decide +kernel
theorem dX2_reads_107 : decode cX2_reads 107 = .ok (.getfield 44, 3) := by decide +kernel
theorem dX2_reads_110 : decode cX2_reads 110 = .ok (.if_icmp .ne 7, 3) := by decide +kernel
theorem dX2_reads_113 : decode cX2_reads 113 = .ok (.iconst 1, 1) := by decide +kernel
theorem dX2_reads_114 : decode cX2_reads 114 = .ok (.goto 4, 3) := by decide +kernel
theorem dX2_reads_117 : decode cX2_reads 117 = .ok (.iconst 0, 1) := by decide +kernel
theorem dX2_reads_118 : decode cX2_reads 118 = .ok (.ireturn, 1) := by decide +kernel
theorem dX2_fault_0 : decode cX2_fault 0 = .ok (.aload_n 0, 1) := by decide +kernel
theorem dX2_fault_1 : decode cX2_fault 1 = .ok (.getfield 47, 3) := by decide +kernel
theorem dX2_fault_4 : decode cX2_fault 4 = .ok (.ireturn, 1) := by decide +kernel
set_option maxRecDepth 20000 in
theorem ggX2_readsClause_X2_signAmong : GoodIn wsX2_readsClause wsX2_signAmong := goodIn_s _ [(5, 4), (4, 1), (9, 93), (176, 12)] rfl (by decide +kernel)
set_option maxRecDepth 20000 in
theorem gX2_readsClause_X2_signAmong : GoodIn wsX2_readsClause (wsV RX2 66 RX2 yX2_signAmong wsX2_signAmong) := goodIn_app (goodIn_of _ (by decide +kernel)) ggX2_readsClause_X2_signAmong
set_option maxRecDepth 20000 in
theorem ggX2_readsClause_X2_readsWord : GoodIn wsX2_readsClause wsX2_readsWord := goodIn_s _ [(105, 3), (4, 1), (108, 2), (30, 2), (16, 1), (32, 1), (22, 1), (33, 4), (27, 2), (110, 4), (23, 4), (114, 2), (39, 1), (116, 4), (73, 1), (120, 2), (76, 1), (122, 3), (56, 1), (125, 4), (67, 3), (129, 1), (81, 6), (130, 4), (11, 1), (6, 5), (12, 1), (176, 12)] rfl (by decide +kernel)
set_option maxRecDepth 20000 in
theorem gX2_readsClause_X2_readsWord : GoodIn wsX2_readsClause (wsV RX2 70 RX2 yX2_readsWord wsX2_readsWord) := goodIn_app (goodIn_of _ (by decide +kernel)) ggX2_readsClause_X2_readsWord
set_option maxRecDepth 20000 in
theorem ggX2_readsClause_X2_readsNumber : GoodIn wsX2_readsClause wsX2_readsNumber := goodIn_s _ [(137, 1), (11, 1), (138, 3), (4, 1), (141, 1), (6, 5), (12, 1), (176, 12)] rfl (by decide +kernel)
set_option maxRecDepth 20000 in
theorem gX2_readsClause_X2_readsNumber : GoodIn wsX2_readsClause (wsV RX2 74 RX2 yX2_readsNumber wsX2_readsNumber) := goodIn_app (goodIn_of _ (by decide +kernel)) ggX2_readsClause_X2_readsNumber
set_option maxRecDepth 20000 in
theorem ggX2_readsClause_X2_takes : GoodIn wsX2_readsClause wsX2_takes := goodIn_s _ [(133, 1), (11, 1), (6, 3), (4, 1), (9, 2), (12, 1), (176, 12)] rfl (by decide +kernel)
set_option maxRecDepth 20000 in
theorem gX2_readsClause_X2_takes : GoodIn wsX2_readsClause (wsV RX2 60 RX2 yX2_takes wsX2_takes) := goodIn_app (goodIn_of _ (by decide +kernel)) ggX2_readsClause_X2_takes
set_option maxRecDepth 20000 in
theorem ggX2_readsClause_X2_readsEither : GoodIn wsX2_readsClause wsX2_readsEither := goodIn_s _ [(145, 4), (4, 1), (130, 4), (11, 1), (6, 5), (12, 1), (149, 11), (142, 3), (160, 4), (1, 3), (5, 1), (13, 89), (134, 8), (176, 12)] rfl (by decide +kernel)
set_option maxRecDepth 20000 in
theorem gX2_readsClause_X2_readsEither : GoodIn wsX2_readsClause (wsV RX2 78 RX2 yX2_readsEither wsX2_readsEither) := goodIn_app (goodIn_of _ (by decide +kernel)) ggX2_readsClause_X2_readsEither
set_option maxRecDepth 20000 in
theorem ggX2_readsClause_X2_keeps : GoodIn wsX2_readsClause wsX2_keeps := goodIn_s _ [(167, 4), (42, 3), (171, 5), (153, 1), (176, 12)] rfl (by decide +kernel)
set_option maxRecDepth 20000 in
theorem gX2_readsClause_X2_keeps : GoodIn wsX2_readsClause (wsV RX2 81 RX2 yX2_keeps wsX2_keeps) := goodIn_app (goodIn_of _ (by decide +kernel)) ggX2_readsClause_X2_keeps
theorem dX2_readsClause_0 : decode cX2_readsClause 0 = .ok (.aload_n 0, 1) := by decide +kernel
theorem dX2_readsClause_1 : decode cX2_readsClause 1 = .ok (.ldc 64, 2) := by decide +kernel
theorem dX2_readsClause_3 : decode cX2_readsClause 3 = .ok (.invokevirtual 66, 3) := by decide +kernel
theorem dX2_readsClause_6 : decode cX2_readsClause 6 = .ok (.istore_n 1, 1) := by decide +kernel
theorem dX2_readsClause_7 : decode cX2_readsClause 7 = .ok (.iload_n 1, 1) := by decide +kernel
theorem dX2_readsClause_8 : decode cX2_readsClause 8 = .ok (.ifCond .lt 11, 3) := by decide +kernel
theorem dX2_readsClause_11 : decode cX2_readsClause 11 = .ok (.aload_n 0, 1) := by decide +kernel
theorem dX2_readsClause_12 : decode cX2_readsClause 12 = .ok (.iload_n 1, 1) := by decide +kernel
theorem dX2_readsClause_13 : decode cX2_readsClause 13 = .ok (.invokevirtual 70, 3) := by decide +kernel
theorem dX2_readsClause_16 : decode cX2_readsClause 16 = .ok (.ifCond .ne 5, 3) := by decide +kernel
theorem dX2_readsClause_19 : decode cX2_readsClause 19 = .ok (.iconst 0, 1) := by decide +kernel
theorem dX2_readsClause_20 : decode cX2_readsClause 20 = .ok (.ireturn, 1) := by decide +kernel
theorem dX2_readsClause_21 : decode cX2_readsClause 21 = .ok (.aload_n 0, 1) := by decide +kernel
theorem dX2_readsClause_22 : decode cX2_readsClause 22 = .ok (.invokevirtual 74, 3) := by decide +kernel
theorem dX2_readsClause_25 : decode cX2_readsClause 25 = .ok (.istore_n 2, 1) := by decide +kernel
theorem dX2_readsClause_26 : decode cX2_readsClause 26 = .ok (.iload_n 2, 1) := by decide +kernel
theorem dX2_readsClause_27 : decode cX2_readsClause 27 = .ok (.ifCond .ge 5, 3) := by decide +kernel
theorem dX2_readsClause_30 : decode cX2_readsClause 30 = .ok (.iconst 0, 1) := by decide +kernel
theorem dX2_readsClause_31 : decode cX2_readsClause 31 = .ok (.ireturn, 1) := by decide +kernel
theorem dX2_readsClause_32 : decode cX2_readsClause 32 = .ok (.iload_n 1, 1) := by decide +kernel
theorem dX2_readsClause_33 : decode cX2_readsClause 33 = .ok (.iconst 1, 1) := by decide +kernel
theorem dX2_readsClause_34 : decode cX2_readsClause 34 = .ok (.if_icmp .gt 22, 3) := by decide +kernel
theorem dX2_readsClause_37 : decode cX2_readsClause 37 = .ok (.aload_n 0, 1) := by decide +kernel
theorem dX2_readsClause_38 : decode cX2_readsClause 38 = .ok (.bipush 32, 2) := by decide +kernel
theorem dX2_readsClause_40 : decode cX2_readsClause 40 = .ok (.invokevirtual 60, 3) := by decide +kernel
theorem dX2_readsClause_43 : decode cX2_readsClause 43 = .ok (.ifCond .eq 11, 3) := by decide +kernel
theorem dX2_readsClause_46 : decode cX2_readsClause 46 = .ok (.aload_n 0, 1) := by decide +kernel
theorem dX2_readsClause_47 : decode cX2_readsClause 47 = .ok (.iconst 0, 1) := by decide +kernel
theorem dX2_readsClause_48 : decode cX2_readsClause 48 = .ok (.invokevirtual 78, 3) := by decide +kernel
theorem dX2_readsClause_51 : decode cX2_readsClause 51 = .ok (.ifCond .ne 5, 3) := by decide +kernel
theorem dX2_readsClause_54 : decode cX2_readsClause 54 = .ok (.iconst 0, 1) := by decide +kernel
theorem dX2_readsClause_55 : decode cX2_readsClause 55 = .ok (.ireturn, 1) := by decide +kernel
theorem dX2_readsClause_56 : decode cX2_readsClause 56 = .ok (.aload_n 0, 1) := by decide +kernel
theorem dX2_readsClause_57 : decode cX2_readsClause 57 = .ok (.iload_n 1, 1) := by decide +kernel
theorem dX2_readsClause_58 : decode cX2_readsClause 58 = .ok (.iload_n 2, 1) := by decide +kernel
theorem dX2_readsClause_59 : decode cX2_readsClause 59 = .ok (.invokevirtual 81, 3) := by decide +kernel
theorem dX2_readsClause_62 : decode cX2_readsClause 62 = .ok (.iconst 1, 1) := by decide +kernel
theorem dX2_readsClause_63 : decode cX2_readsClause 63 = .ok (.ireturn, 1) := by decide +kernel
set_option maxRecDepth 20000 in
theorem ggX2_readsWord_X2_wordOf : GoodIn wsX2_readsWord wsX2_wordOf := goodIn_s _ [(4, 1)] rfl (by decide +kernel)
set_option maxRecDepth 20000 in
theorem gX2_readsWord_X2_wordOf : GoodIn wsX2_readsWord (va_wsS RX2 85 yX2_wordOf wsX2_wordOf) := goodIn_app (goodIn_of _ (by decide +kernel)) ggX2_readsWord_X2_wordOf
set_option maxRecDepth 20000 in
theorem ggX2_readsWord_J0_length_8abf5 : GoodIn wsX2_readsWord wsJ0_length_8abf5 := goodIn_s _ [(9, 5), (8, 1), (14, 3)] rfl (by decide +kernel)
set_option maxRecDepth 20000 in
theorem gX2_readsWord_J0_length_8abf5 : GoodIn wsX2_readsWord (wsV RX2 89 RJ0 yJ0_length_8abf5 wsJ0_length_8abf5) := goodIn_app (goodIn_of _ (by decide +kernel)) ggX2_readsWord_J0_length_8abf5
set_option maxRecDepth 20000 in
theorem ggX2_readsWord_J0_charAt_5068e : GoodIn wsX2_readsWord wsJ0_charAt_5068e := goodIn_s _ [(20, 1), (10, 1), (21, 3), (8, 1), (24, 1), (15, 2), (25, 29)] rfl (by decide +kernel)
set_option maxRecDepth 20000 in
theorem gX2_readsWord_J0_charAt_5068e : GoodIn wsX2_readsWord (wsV RX2 93 RJ0 yJ0_charAt_5068e wsJ0_charAt_5068e) := goodIn_app (goodIn_of _ (by decide +kernel)) ggX2_readsWord_J0_charAt_5068e
set_option maxRecDepth 20000 in
theorem ggX2_readsWord_X2_takes : GoodIn wsX2_readsWord wsX2_takes := goodIn_s _ [(57, 5), (3, 1), (62, 15)] rfl (by decide +kernel)
set_option maxRecDepth 20000 in
theorem gX2_readsWord_X2_takes : GoodIn wsX2_readsWord (wsV RX2 60 RX2 yX2_takes wsX2_takes) := goodIn_app (goodIn_of _ (by decide +kernel)) ggX2_readsWord_X2_takes
theorem dX2_readsWord_0 : decode cX2_readsWord 0 = .ok (.iload_n 1, 1) := by decide +kernel
theorem dX2_readsWord_1 : decode cX2_readsWord 1 = .ok (.invokestatic 85, 3) := by decide +kernel
theorem dX2_readsWord_4 : decode cX2_readsWord 4 = .ok (.astore_n 2, 1) := by decide +kernel
theorem dX2_readsWord_5 : decode cX2_readsWord 5 = .ok (.iconst 0, 1) := by decide +kernel
theorem dX2_readsWord_6 : decode cX2_readsWord 6 = .ok (.istore_n 3, 1) := by decide +kernel
theorem dX2_readsWord_7 : decode cX2_readsWord 7 = .ok (.iload_n 3, 1) := by decide +kernel
theorem dX2_readsWord_8 : decode cX2_readsWord 8 = .ok (.aload_n 2, 1) := by decide +kernel
theorem dX2_readsWord_9 : decode cX2_readsWord 9 = .ok (.invokevirtual 89, 3) := by decide +kernel
theorem dX2_readsWord_12 : decode cX2_readsWord 12 = .ok (.if_icmp .ge 23, 3) := by decide +kernel
theorem dX2_readsWord_15 : decode cX2_readsWord 15 = .ok (.aload_n 0, 1) := by decide +kernel
theorem dX2_readsWord_16 : decode cX2_readsWord 16 = .ok (.aload_n 2, 1) := by decide +kernel
theorem dX2_readsWord_17 : decode cX2_readsWord 17 = .ok (.iload_n 3, 1) := by decide +kernel
theorem dX2_readsWord_18 : decode cX2_readsWord 18 = .ok (.invokevirtual 93, 3) := by decide +kernel
theorem dX2_readsWord_21 : decode cX2_readsWord 21 = .ok (.invokevirtual 60, 3) := by decide +kernel
theorem dX2_readsWord_24 : decode cX2_readsWord 24 = .ok (.ifCond .ne 5, 3) := by decide +kernel
theorem dX2_readsWord_27 : decode cX2_readsWord 27 = .ok (.iconst 0, 1) := by decide +kernel
theorem dX2_readsWord_28 : decode cX2_readsWord 28 = .ok (.ireturn, 1) := by decide +kernel
theorem dX2_readsWord_29 : decode cX2_readsWord 29 = .ok (.iinc 3 1, 3) := by decide +kernel
theorem dX2_readsWord_32 : decode cX2_readsWord 32 = .ok (.goto (-25), 3) := by decide +kernel
theorem dX2_readsWord_35 : decode cX2_readsWord 35 = .ok (.iconst 1, 1) := by decide +kernel
theorem dX2_readsWord_36 : decode cX2_readsWord 36 = .ok (.ireturn, 1) := by decide +kernel
theorem dX2_wordOf_0 : decode cX2_wordOf 0 = .ok (.iload_n 0, 1) := by decide +kernel
theorem dX2_wordOf_1 : decode cX2_wordOf 1 = .ok (.tableswitch 43 0 3 #[31, 34, 37, 40], 31) := by decide +kernel
theorem dX2_wordOf_32 : decode cX2_wordOf 32 = .ok (.ldc 97, 2) := by decide +kernel
theorem dX2_wordOf_34 : decode cX2_wordOf 34 = .ok (.areturn, 1) := by decide +kernel
theorem dX2_wordOf_35 : decode cX2_wordOf 35 = .ok (.ldc 99, 2) := by decide +kernel
theorem dX2_wordOf_37 : decode cX2_wordOf 37 = .ok (.areturn, 1) := by decide +kernel
theorem dX2_wordOf_38 : decode cX2_wordOf 38 = .ok (.ldc 101, 2) := by decide +kernel
theorem dX2_wordOf_40 : decode cX2_wordOf 40 = .ok (.areturn, 1) := by decide +kernel
theorem dX2_wordOf_41 : decode cX2_wordOf 41 = .ok (.ldc 103, 2) := by decide +kernel
theorem dX2_wordOf_43 : decode cX2_wordOf 43 = .ok (.areturn, 1) := by decide +kernel
theorem dX2_wordOf_44 : decode cX2_wordOf 44 = .ok (.ldc 105, 2) := by decide +kernel
theorem dX2_wordOf_46 : decode cX2_wordOf 46 = .ok (.areturn, 1) := by decide +kernel
theorem dX2_keeps_0 : decode cX2_keeps 0 = .ok (.iload_n 1, 1) := by decide +kernel
theorem dX2_keeps_1 : decode cX2_keeps 1 = .ok (.iconst 2, 1) := by decide +kernel
theorem dX2_keeps_2 : decode cX2_keeps 2 = .ok (.if_icmp .ne 11, 3) := by decide +kernel
theorem dX2_keeps_5 : decode cX2_keeps 5 = .ok (.aload_n 0, 1) := by decide +kernel
theorem dX2_keeps_6 : decode cX2_keeps 6 = .ok (.iload_n 2, 1) := by decide +kernel
theorem dX2_keeps_7 : decode cX2_keeps 7 = .ok (.putfield 9, 3) := by decide +kernel
theorem dX2_keeps_10 : decode cX2_keeps 10 = .ok (.goto 30, 3) := by decide +kernel
theorem dX2_keeps_13 : decode cX2_keeps 13 = .ok (.iload_n 1, 1) := by decide +kernel
theorem dX2_keeps_14 : decode cX2_keeps 14 = .ok (.iconst 3, 1) := by decide +kernel
theorem dX2_keeps_15 : decode cX2_keeps 15 = .ok (.if_icmp .ne 11, 3) := by decide +kernel
theorem dX2_keeps_18 : decode cX2_keeps 18 = .ok (.aload_n 0, 1) := by decide +kernel
theorem dX2_keeps_19 : decode cX2_keeps 19 = .ok (.iload_n 2, 1) := by decide +kernel
theorem dX2_keeps_20 : decode cX2_keeps 20 = .ok (.putfield 15, 3) := by decide +kernel
theorem dX2_keeps_23 : decode cX2_keeps 23 = .ok (.goto 17, 3) := by decide +kernel
theorem dX2_keeps_26 : decode cX2_keeps 26 = .ok (.iload_n 1, 1) := by decide +kernel
theorem dX2_keeps_27 : decode cX2_keeps 27 = .ok (.iconst 3, 1) := by decide +kernel
theorem dX2_keeps_28 : decode cX2_keeps 28 = .ok (.if_icmp .le 12, 3) := by decide +kernel
theorem dX2_keeps_31 : decode cX2_keeps 31 = .ok (.aload_n 0, 1) := by decide +kernel
theorem dX2_keeps_32 : decode cX2_keeps 32 = .ok (.iconst 1, 1) := by decide +kernel
theorem dX2_keeps_33 : decode cX2_keeps 33 = .ok (.iload_n 2, 1) := by decide +kernel
theorem dX2_keeps_34 : decode cX2_keeps 34 = .ok (.invokestatic 107, 3) := by decide +kernel
theorem dX2_keeps_37 : decode cX2_keeps 37 = .ok (.putfield 18, 3) := by decide +kernel
theorem dX2_keeps_40 : decode cX2_keeps 40 = .ok (.aload_n 0, 1) := by decide +kernel
theorem dX2_keeps_41 : decode cX2_keeps 41 = .ok (.getfield 37, 3) := by decide +kernel
theorem dX2_keeps_44 : decode cX2_keeps 44 = .ok (.bipush 10, 2) := by decide +kernel
theorem dX2_keeps_46 : decode cX2_keeps 46 = .ok (.if_icmp .ge 46, 3) := by decide +kernel
theorem dX2_keeps_49 : decode cX2_keeps 49 = .ok (.aload_n 0, 1) := by decide +kernel
theorem dX2_keeps_50 : decode cX2_keeps 50 = .ok (.getfield 28, 3) := by decide +kernel
theorem dX2_keeps_53 : decode cX2_keeps 53 = .ok (.aload_n 0, 1) := by decide +kernel
theorem dX2_keeps_54 : decode cX2_keeps 54 = .ok (.getfield 37, 3) := by decide +kernel
theorem dX2_keeps_57 : decode cX2_keeps 57 = .ok (.iload_n 1, 1) := by decide +kernel
theorem dX2_keeps_58 : decode cX2_keeps 58 = .ok (.iastore, 1) := by decide +kernel
theorem dX2_keeps_59 : decode cX2_keeps 59 = .ok (.aload_n 0, 1) := by decide +kernel
theorem dX2_keeps_60 : decode cX2_keeps 60 = .ok (.getfield 31, 3) := by decide +kernel
theorem dX2_keeps_63 : decode cX2_keeps 63 = .ok (.aload_n 0, 1) := by decide +kernel
theorem dX2_keeps_64 : decode cX2_keeps 64 = .ok (.getfield 37, 3) := by decide +kernel
theorem dX2_keeps_67 : decode cX2_keeps 67 = .ok (.iload_n 2, 1) := by decide +kernel
theorem dX2_keeps_68 : decode cX2_keeps 68 = .ok (.iastore, 1) := by decide +kernel
theorem dX2_keeps_69 : decode cX2_keeps 69 = .ok (.aload_n 0, 1) := by decide +kernel
theorem dX2_keeps_70 : decode cX2_keeps 70 = .ok (.getfield 34, 3) := by decide +kernel
theorem dX2_keeps_73 : decode cX2_keeps 73 = .ok (.aload_n 0, 1) := by decide +kernel
theorem dX2_keeps_74 : decode cX2_keeps 74 = .ok (.getfield 37, 3) := by decide +kernel
theorem dX2_keeps_77 : decode cX2_keeps 77 = .ok (.aload_n 0, 1) := by decide +kernel
theorem dX2_keeps_78 : decode cX2_keeps 78 = .ok (.getfield 25, 3) := by decide +kernel
theorem dX2_keeps_81 : decode cX2_keeps 81 = .ok (.iastore, 1) := by decide +kernel
theorem dX2_keeps_82 : decode cX2_keeps 82 = .ok (.aload_n 0, 1) := by decide +kernel
theorem dX2_keeps_83 : decode cX2_keeps 83 = .ok (.dup, 1) := by decide +kernel
theorem dX2_keeps_84 : decode cX2_keeps 84 = .ok (.getfield 37, 3) := by decide +kernel
theorem dX2_keeps_87 : decode cX2_keeps 87 = .ok (.iconst 1, 1) := by decide +kernel
theorem dX2_keeps_88 : decode cX2_keeps 88 = .ok (.iadd, 1) := by decide +kernel
theorem dX2_keeps_89 : decode cX2_keeps 89 = .ok (.putfield 37, 3) := by decide +kernel
theorem dX2_keeps_92 : decode cX2_keeps 92 = .ok (.return_, 1) := by decide +kernel
set_option maxRecDepth 20000 in
theorem ggX2_readsEither_X2_readsBoth : GoodIn wsX2_readsEither wsX2_readsBoth := goodIn_s _ [(22, 4), (4, 18), (0, 4), (26, 121)] rfl (by decide +kernel)
set_option maxRecDepth 20000 in
theorem gX2_readsEither_X2_readsBoth : GoodIn wsX2_readsEither (wsV RX2 110 RX2 yX2_readsBoth wsX2_readsBoth) := goodIn_app (goodIn_of _ (by decide +kernel)) ggX2_readsEither_X2_readsBoth
set_option maxRecDepth 20000 in
theorem ggX2_readsEither_X2_takes : GoodIn wsX2_readsEither wsX2_takes := goodIn_s _ [(8, 5), (4, 1), (13, 3), (135, 12)] rfl (by decide +kernel)
set_option maxRecDepth 20000 in
theorem gX2_readsEither_X2_takes : GoodIn wsX2_readsEither (wsV RX2 60 RX2 yX2_takes wsX2_takes) := goodIn_app (goodIn_of _ (by decide +kernel)) ggX2_readsEither_X2_takes
set_option maxRecDepth 20000 in
theorem ggX2_readsEither_X2_writes : GoodIn wsX2_readsEither wsX2_writes := goodIn_s _ [(19, 3), (135, 12)] rfl (by decide +kernel)
set_option maxRecDepth 20000 in
theorem gX2_readsEither_X2_writes : GoodIn wsX2_readsEither (wsV RX2 113 RX2 yX2_writes wsX2_writes) := goodIn_app (goodIn_of _ (by decide +kernel)) ggX2_readsEither_X2_writes
theorem dX2_readsEither_0 : decode cX2_readsEither 0 = .ok (.aload_n 0, 1) := by decide +kernel
theorem dX2_readsEither_1 : decode cX2_readsEither 1 = .ok (.iload_n 1, 1) := by decide +kernel
theorem dX2_readsEither_2 : decode cX2_readsEither 2 = .ok (.invokevirtual 110, 3) := by decide +kernel
theorem dX2_readsEither_5 : decode cX2_readsEither 5 = .ok (.ifCond .ne 5, 3) := by decide +kernel
theorem dX2_readsEither_8 : decode cX2_readsEither 8 = .ok (.iconst 0, 1) := by decide +kernel
theorem dX2_readsEither_9 : decode cX2_readsEither 9 = .ok (.ireturn, 1) := by decide +kernel
theorem dX2_readsEither_10 : decode cX2_readsEither 10 = .ok (.iconst 0, 1) := by decide +kernel
theorem dX2_readsEither_11 : decode cX2_readsEither 11 = .ok (.istore_n 2, 1) := by decide +kernel
theorem dX2_readsEither_12 : decode cX2_readsEither 12 = .ok (.iload_n 2, 1) := by decide +kernel
theorem dX2_readsEither_13 : decode cX2_readsEither 13 = .ok (.bipush 100, 2) := by decide +kernel
theorem dX2_readsEither_15 : decode cX2_readsEither 15 = .ok (.if_icmp .ge 34, 3) := by decide +kernel
theorem dX2_readsEither_18 : decode cX2_readsEither 18 = .ok (.aload_n 0, 1) := by decide +kernel
theorem dX2_readsEither_19 : decode cX2_readsEither 19 = .ok (.bipush 124, 2) := by decide +kernel
theorem dX2_readsEither_21 : decode cX2_readsEither 21 = .ok (.invokevirtual 60, 3) := by decide +kernel
theorem dX2_readsEither_24 : decode cX2_readsEither 24 = .ok (.ifCond .eq 25, 3) := by decide +kernel
theorem dX2_readsEither_27 : decode cX2_readsEither 27 = .ok (.aload_n 0, 1) := by decide +kernel
theorem dX2_readsEither_28 : decode cX2_readsEither 28 = .ok (.iload_n 1, 1) := by decide +kernel
theorem dX2_readsEither_29 : decode cX2_readsEither 29 = .ok (.invokevirtual 110, 3) := by decide +kernel
theorem dX2_readsEither_32 : decode cX2_readsEither 32 = .ok (.ifCond .ne 5, 3) := by decide +kernel
theorem dX2_readsEither_35 : decode cX2_readsEither 35 = .ok (.iconst 0, 1) := by decide +kernel
theorem dX2_readsEither_36 : decode cX2_readsEither 36 = .ok (.ireturn, 1) := by decide +kernel
theorem dX2_readsEither_37 : decode cX2_readsEither 37 = .ok (.aload_n 0, 1) := by decide +kernel
theorem dX2_readsEither_38 : decode cX2_readsEither 38 = .ok (.bipush (-3), 2) := by decide +kernel
theorem dX2_readsEither_40 : decode cX2_readsEither 40 = .ok (.invokevirtual 113, 3) := by decide +kernel
theorem dX2_readsEither_43 : decode cX2_readsEither 43 = .ok (.iinc 2 1, 3) := by decide +kernel
theorem dX2_readsEither_46 : decode cX2_readsEither 46 = .ok (.goto (-34), 3) := by decide +kernel
theorem dX2_readsEither_49 : decode cX2_readsEither 49 = .ok (.iconst 1, 1) := by decide +kernel
theorem dX2_readsEither_50 : decode cX2_readsEither 50 = .ok (.ireturn, 1) := by decide +kernel
set_option maxRecDepth 20000 in
theorem ggX2_readsBoth_X2_readsPart : GoodIn wsX2_readsBoth wsX2_readsPart := goodIn_s _ [(26, 1), (5, 3), (4, 1), (8, 8), (1, 3), (16, 6), (27, 108), (0, 1), (22, 4), (135, 12)] rfl (by decide +kernel)
set_option maxRecDepth 20000 in
theorem gX2_readsBoth_X2_readsPart : GoodIn wsX2_readsBoth (wsV RX2 117 RX2 yX2_readsPart wsX2_readsPart) := goodIn_app (goodIn_of _ (by decide +kernel)) ggX2_readsBoth_X2_readsPart
set_option maxRecDepth 20000 in
theorem ggX2_readsBoth_X2_takes : GoodIn wsX2_readsBoth wsX2_takes := goodIn_s _ [(8, 5), (4, 1), (13, 3), (135, 12)] rfl (by decide +kernel)
set_option maxRecDepth 20000 in
theorem gX2_readsBoth_X2_takes : GoodIn wsX2_readsBoth (wsV RX2 60 RX2 yX2_takes wsX2_takes) := goodIn_app (goodIn_of _ (by decide +kernel)) ggX2_readsBoth_X2_takes
set_option maxRecDepth 20000 in
theorem ggX2_readsBoth_X2_writes : GoodIn wsX2_readsBoth wsX2_writes := goodIn_s _ [(19, 3), (135, 12)] rfl (by decide +kernel)
set_option maxRecDepth 20000 in
theorem gX2_readsBoth_X2_writes : GoodIn wsX2_readsBoth (wsV RX2 113 RX2 yX2_writes wsX2_writes) := goodIn_app (goodIn_of _ (by decide +kernel)) ggX2_readsBoth_X2_writes
theorem dX2_readsBoth_0 : decode cX2_readsBoth 0 = .ok (.aload_n 0, 1) := by decide +kernel
theorem dX2_readsBoth_1 : decode cX2_readsBoth 1 = .ok (.iload_n 1, 1) := by decide +kernel
theorem dX2_readsBoth_2 : decode cX2_readsBoth 2 = .ok (.invokevirtual 117, 3) := by decide +kernel
theorem dX2_readsBoth_5 : decode cX2_readsBoth 5 = .ok (.ifCond .ne 5, 3) := by decide +kernel
theorem dX2_readsBoth_8 : decode cX2_readsBoth 8 = .ok (.iconst 0, 1) := by decide +kernel
theorem dX2_readsBoth_9 : decode cX2_readsBoth 9 = .ok (.ireturn, 1) := by decide +kernel
theorem dX2_readsBoth_10 : decode cX2_readsBoth 10 = .ok (.iconst 0, 1) := by decide +kernel
theorem dX2_readsBoth_11 : decode cX2_readsBoth 11 = .ok (.istore_n 2, 1) := by decide +kernel
theorem dX2_readsBoth_12 : decode cX2_readsBoth 12 = .ok (.iload_n 2, 1) := by decide +kernel
theorem dX2_readsBoth_13 : decode cX2_readsBoth 13 = .ok (.bipush 100, 2) := by decide +kernel
theorem dX2_readsBoth_15 : decode cX2_readsBoth 15 = .ok (.if_icmp .ge 34, 3) := by decide +kernel
theorem dX2_readsBoth_18 : decode cX2_readsBoth 18 = .ok (.aload_n 0, 1) := by decide +kernel
theorem dX2_readsBoth_19 : decode cX2_readsBoth 19 = .ok (.bipush 38, 2) := by decide +kernel
theorem dX2_readsBoth_21 : decode cX2_readsBoth 21 = .ok (.invokevirtual 60, 3) := by decide +kernel
theorem dX2_readsBoth_24 : decode cX2_readsBoth 24 = .ok (.ifCond .eq 25, 3) := by decide +kernel
theorem dX2_readsBoth_27 : decode cX2_readsBoth 27 = .ok (.aload_n 0, 1) := by decide +kernel
theorem dX2_readsBoth_28 : decode cX2_readsBoth 28 = .ok (.iload_n 1, 1) := by decide +kernel
theorem dX2_readsBoth_29 : decode cX2_readsBoth 29 = .ok (.invokevirtual 117, 3) := by decide +kernel
theorem dX2_readsBoth_32 : decode cX2_readsBoth 32 = .ok (.ifCond .ne 5, 3) := by decide +kernel
theorem dX2_readsBoth_35 : decode cX2_readsBoth 35 = .ok (.iconst 0, 1) := by decide +kernel
theorem dX2_readsBoth_36 : decode cX2_readsBoth 36 = .ok (.ireturn, 1) := by decide +kernel
theorem dX2_readsBoth_37 : decode cX2_readsBoth 37 = .ok (.aload_n 0, 1) := by decide +kernel
theorem dX2_readsBoth_38 : decode cX2_readsBoth 38 = .ok (.bipush (-2), 2) := by decide +kernel
theorem dX2_readsBoth_40 : decode cX2_readsBoth 40 = .ok (.invokevirtual 113, 3) := by decide +kernel
theorem dX2_readsBoth_43 : decode cX2_readsBoth 43 = .ok (.iinc 2 1, 3) := by decide +kernel
theorem dX2_readsBoth_46 : decode cX2_readsBoth 46 = .ok (.goto (-34), 3) := by decide +kernel
theorem dX2_readsBoth_49 : decode cX2_readsBoth 49 = .ok (.iconst 1, 1) := by decide +kernel
theorem dX2_readsBoth_50 : decode cX2_readsBoth 50 = .ok (.ireturn, 1) := by decide +kernel
set_option maxRecDepth 20000 in
theorem ggX2_readsPart_X2_takes : GoodIn wsX2_readsPart wsX2_takes := goodIn_s _ [(5, 5), (4, 1), (10, 3), (135, 12)] rfl (by decide +kernel)
set_option maxRecDepth 20000 in
theorem gX2_readsPart_X2_takes : GoodIn wsX2_readsPart (wsV RX2 60 RX2 yX2_takes wsX2_takes) := goodIn_app (goodIn_of _ (by decide +kernel)) ggX2_readsPart_X2_takes
set_option maxRecDepth 20000 in
theorem ggX2_readsPart_X2_readsPart : GoodIn wsX2_readsPart wsX2_readsPart := goodIn_s _ [(0, 147)] rfl (by decide +kernel)
set_option maxRecDepth 20000 in
theorem gX2_readsPart_X2_readsPart : GoodIn wsX2_readsPart (wsV RX2 117 RX2 yX2_readsPart wsX2_readsPart) := goodIn_app (goodIn_of _ (by decide +kernel)) ggX2_readsPart_X2_readsPart
set_option maxRecDepth 20000 in
theorem ggX2_readsPart_X2_writes : GoodIn wsX2_readsPart wsX2_writes := goodIn_s _ [(19, 3), (135, 12)] rfl (by decide +kernel)
set_option maxRecDepth 20000 in
theorem gX2_readsPart_X2_writes : GoodIn wsX2_readsPart (wsV RX2 113 RX2 yX2_writes wsX2_writes) := goodIn_app (goodIn_of _ (by decide +kernel)) ggX2_readsPart_X2_writes
set_option maxRecDepth 20000 in
theorem ggX2_readsPart_X2_readsEither : GoodIn wsX2_readsPart wsX2_readsEither := goodIn_s _ [(131, 4), (4, 1), (1, 3), (5, 8), (16, 6), (130, 1), (13, 3), (0, 1), (22, 108), (135, 12)] rfl (by decide +kernel)
set_option maxRecDepth 20000 in
theorem gX2_readsPart_X2_readsEither : GoodIn wsX2_readsPart (wsV RX2 78 RX2 yX2_readsEither wsX2_readsEither) := goodIn_app (goodIn_of _ (by decide +kernel)) ggX2_readsPart_X2_readsEither
set_option maxRecDepth 20000 in
theorem ggX2_readsPart_X2_readsTest : GoodIn wsX2_readsPart wsX2_readsTest := goodIn_s _ [(28, 1), (6, 1), (29, 3), (4, 1), (32, 1), (7, 6), (33, 97), (16, 6), (135, 12)] rfl (by decide +kernel)
set_option maxRecDepth 20000 in
theorem gX2_readsPart_X2_readsTest : GoodIn wsX2_readsPart (wsV RX2 120 RX2 yX2_readsTest wsX2_readsTest) := goodIn_app (goodIn_of _ (by decide +kernel)) ggX2_readsPart_X2_readsTest
theorem dX2_readsPart_0 : decode cX2_readsPart 0 = .ok (.iload_n 1, 1) := by decide +kernel
theorem dX2_readsPart_1 : decode cX2_readsPart 1 = .ok (.iconst 4, 1) := by decide +kernel
theorem dX2_readsPart_2 : decode cX2_readsPart 2 = .ok (.if_icmp .ge 31, 3) := by decide +kernel
theorem dX2_readsPart_5 : decode cX2_readsPart 5 = .ok (.aload_n 0, 1) := by decide +kernel
theorem dX2_readsPart_6 : decode cX2_readsPart 6 = .ok (.bipush 33, 2) := by decide +kernel
theorem dX2_readsPart_8 : decode cX2_readsPart 8 = .ok (.invokevirtual 60, 3) := by decide +kernel
theorem dX2_readsPart_11 : decode cX2_readsPart 11 = .ok (.ifCond .eq 22, 3) := by decide +kernel
theorem dX2_readsPart_14 : decode cX2_readsPart 14 = .ok (.aload_n 0, 1) := by decide +kernel
theorem dX2_readsPart_15 : decode cX2_readsPart 15 = .ok (.iload_n 1, 1) := by decide +kernel
theorem dX2_readsPart_16 : decode cX2_readsPart 16 = .ok (.iconst 1, 1) := by decide +kernel
theorem dX2_readsPart_17 : decode cX2_readsPart 17 = .ok (.iadd, 1) := by decide +kernel
theorem dX2_readsPart_18 : decode cX2_readsPart 18 = .ok (.invokevirtual 117, 3) := by decide +kernel
theorem dX2_readsPart_21 : decode cX2_readsPart 21 = .ok (.ifCond .ne 5, 3) := by decide +kernel
theorem dX2_readsPart_24 : decode cX2_readsPart 24 = .ok (.iconst 0, 1) := by decide +kernel
theorem dX2_readsPart_25 : decode cX2_readsPart 25 = .ok (.ireturn, 1) := by decide +kernel
theorem dX2_readsPart_26 : decode cX2_readsPart 26 = .ok (.aload_n 0, 1) := by decide +kernel
theorem dX2_readsPart_27 : decode cX2_readsPart 27 = .ok (.iconst (-1), 1) := by decide +kernel
theorem dX2_readsPart_28 : decode cX2_readsPart 28 = .ok (.invokevirtual 113, 3) := by decide +kernel
theorem dX2_readsPart_31 : decode cX2_readsPart 31 = .ok (.iconst 1, 1) := by decide +kernel
theorem dX2_readsPart_32 : decode cX2_readsPart 32 = .ok (.ireturn, 1) := by decide +kernel
theorem dX2_readsPart_33 : decode cX2_readsPart 33 = .ok (.iload_n 1, 1) := by decide +kernel
theorem dX2_readsPart_34 : decode cX2_readsPart 34 = .ok (.iconst 4, 1) := by decide +kernel
theorem dX2_readsPart_35 : decode cX2_readsPart 35 = .ok (.if_icmp .ge 37, 3) := by decide +kernel
theorem dX2_readsPart_38 : decode cX2_readsPart 38 = .ok (.aload_n 0, 1) := by decide +kernel
theorem dX2_readsPart_39 : decode cX2_readsPart 39 = .ok (.bipush 40, 2) := by decide +kernel
theorem dX2_readsPart_41 : decode cX2_readsPart 41 = .ok (.invokevirtual 60, 3) := by decide +kernel
theorem dX2_readsPart_44 : decode cX2_readsPart 44 = .ok (.ifCond .eq 28, 3) := by decide +kernel
theorem dX2_readsPart_47 : decode cX2_readsPart 47 = .ok (.aload_n 0, 1) := by decide +kernel
theorem dX2_readsPart_48 : decode cX2_readsPart 48 = .ok (.iload_n 1, 1) := by decide +kernel
theorem dX2_readsPart_49 : decode cX2_readsPart 49 = .ok (.iconst 1, 1) := by decide +kernel
theorem dX2_readsPart_50 : decode cX2_readsPart 50 = .ok (.iadd, 1) := by decide +kernel
theorem dX2_readsPart_51 : decode cX2_readsPart 51 = .ok (.invokevirtual 78, 3) := by decide +kernel
theorem dX2_readsPart_54 : decode cX2_readsPart 54 = .ok (.ifCond .eq 16, 3) := by decide +kernel
theorem dX2_readsPart_57 : decode cX2_readsPart 57 = .ok (.aload_n 0, 1) := by decide +kernel
theorem dX2_readsPart_58 : decode cX2_readsPart 58 = .ok (.bipush 41, 2) := by decide +kernel
theorem dX2_readsPart_60 : decode cX2_readsPart 60 = .ok (.invokevirtual 60, 3) := by decide +kernel
theorem dX2_readsPart_63 : decode cX2_readsPart 63 = .ok (.ifCond .eq 7, 3) := by decide +kernel
theorem dX2_readsPart_66 : decode cX2_readsPart 66 = .ok (.iconst 1, 1) := by decide +kernel
theorem dX2_readsPart_67 : decode cX2_readsPart 67 = .ok (.goto 4, 3) := by decide +kernel
theorem dX2_readsPart_70 : decode cX2_readsPart 70 = .ok (.iconst 0, 1) := by decide +kernel
theorem dX2_readsPart_71 : decode cX2_readsPart 71 = .ok (.ireturn, 1) := by decide +kernel
theorem dX2_readsPart_72 : decode cX2_readsPart 72 = .ok (.aload_n 0, 1) := by decide +kernel
theorem dX2_readsPart_73 : decode cX2_readsPart 73 = .ok (.invokevirtual 120, 3) := by decide +kernel
theorem dX2_readsPart_76 : decode cX2_readsPart 76 = .ok (.ireturn, 1) := by decide +kernel
set_option maxRecDepth 20000 in
theorem ggX2_readsTest_X2_signAmong : GoodIn wsX2_readsTest wsX2_signAmong := goodIn_s _ [(6, 4), (5, 1), (10, 2), (1, 1), (12, 90), (116, 12)] rfl (by decide +kernel)
set_option maxRecDepth 20000 in
theorem gX2_readsTest_X2_signAmong : GoodIn wsX2_readsTest (wsV RX2 66 RX2 yX2_signAmong wsX2_signAmong) := goodIn_app (goodIn_of _ (by decide +kernel)) ggX2_readsTest_X2_signAmong
set_option maxRecDepth 20000 in
theorem ggX2_readsTest_X2_readsNumber : GoodIn wsX2_readsTest wsX2_readsNumber := goodIn_s _ [(105, 1), (1, 1), (106, 3), (5, 1), (109, 1), (7, 6), (116, 12)] rfl (by decide +kernel)
set_option maxRecDepth 20000 in
theorem gX2_readsTest_X2_readsNumber : GoodIn wsX2_readsTest (wsV RX2 74 RX2 yX2_readsNumber wsX2_readsNumber) := goodIn_app (goodIn_of _ (by decide +kernel)) ggX2_readsTest_X2_readsNumber
set_option maxRecDepth 20000 in
theorem ggX2_readsTest_X2_writes : GoodIn wsX2_readsTest wsX2_writes := goodIn_s _ [(113, 15)] rfl (by decide +kernel)
set_option maxRecDepth 20000 in
theorem gX2_readsTest_X2_writes : GoodIn wsX2_readsTest (wsV RX2 113 RX2 yX2_writes wsX2_writes) := goodIn_app (goodIn_of _ (by decide +kernel)) ggX2_readsTest_X2_writes
theorem dX2_readsTest_0 : decode cX2_readsTest 0 = .ok (.aload_n 0, 1) := by decide +kernel
theorem dX2_readsTest_1 : decode cX2_readsTest 1 = .ok (.ldc 123, 2) := by decide +kernel
theorem dX2_readsTest_3 : decode cX2_readsTest 3 = .ok (.invokevirtual 66, 3) := by decide +kernel
theorem dX2_readsTest_6 : decode cX2_readsTest 6 = .ok (.istore_n 1, 1) := by decide +kernel
theorem dX2_readsTest_7 : decode cX2_readsTest 7 = .ok (.iload_n 1, 1) := by decide +kernel
theorem dX2_readsTest_8 : decode cX2_readsTest 8 = .ok (.ifCond .ge 5, 3) := by decide +kernel
theorem dX2_readsTest_11 : decode cX2_readsTest 11 = .ok (.iconst 0, 1) := by decide +kernel
theorem dX2_readsTest_12 : decode cX2_readsTest 12 = .ok (.ireturn, 1) := by decide +kernel
theorem dX2_readsTest_13 : decode cX2_readsTest 13 = .ok (.aload_n 0, 1) := by decide +kernel
theorem dX2_readsTest_14 : decode cX2_readsTest 14 = .ok (.dup, 1) := by decide +kernel
theorem dX2_readsTest_15 : decode cX2_readsTest 15 = .ok (.getfield 47, 3) := by decide +kernel
theorem dX2_readsTest_18 : decode cX2_readsTest 18 = .ok (.iconst 1, 1) := by decide +kernel
theorem dX2_readsTest_19 : decode cX2_readsTest 19 = .ok (.iadd, 1) := by decide +kernel
theorem dX2_readsTest_20 : decode cX2_readsTest 20 = .ok (.putfield 47, 3) := by decide +kernel
theorem dX2_readsTest_23 : decode cX2_readsTest 23 = .ok (.aload_n 0, 1) := by decide +kernel
theorem dX2_readsTest_24 : decode cX2_readsTest 24 = .ok (.ldc 125, 2) := by decide +kernel
theorem dX2_readsTest_26 : decode cX2_readsTest 26 = .ok (.invokevirtual 66, 3) := by decide +kernel
theorem dX2_readsTest_29 : decode cX2_readsTest 29 = .ok (.istore_n 2, 1) := by decide +kernel
theorem dX2_readsTest_30 : decode cX2_readsTest 30 = .ok (.iload_n 2, 1) := by decide +kernel
theorem dX2_readsTest_31 : decode cX2_readsTest 31 = .ok (.ifCond .ge 5, 3) := by decide +kernel
theorem dX2_readsTest_34 : decode cX2_readsTest 34 = .ok (.iconst 0, 1) := by decide +kernel
theorem dX2_readsTest_35 : decode cX2_readsTest 35 = .ok (.ireturn, 1) := by decide +kernel
theorem dX2_readsTest_36 : decode cX2_readsTest 36 = .ok (.aload_n 0, 1) := by decide +kernel
theorem dX2_readsTest_37 : decode cX2_readsTest 37 = .ok (.dup, 1) := by decide +kernel
theorem dX2_readsTest_38 : decode cX2_readsTest 38 = .ok (.getfield 47, 3) := by decide +kernel
theorem dX2_readsTest_41 : decode cX2_readsTest 41 = .ok (.iconst 1, 1) := by decide +kernel
theorem dX2_readsTest_42 : decode cX2_readsTest 42 = .ok (.iadd, 1) := by decide +kernel
theorem dX2_readsTest_43 : decode cX2_readsTest 43 = .ok (.putfield 47, 3) := by decide +kernel
theorem dX2_readsTest_46 : decode cX2_readsTest 46 = .ok (.aload_n 0, 1) := by decide +kernel
theorem dX2_readsTest_47 : decode cX2_readsTest 47 = .ok (.invokevirtual 74, 3) := by decide +kernel
theorem dX2_readsTest_50 : decode cX2_readsTest 50 = .ok (.istore_n 3, 1) := by decide +kernel
theorem dX2_readsTest_51 : decode cX2_readsTest 51 = .ok (.iload_n 3, 1) := by decide +kernel
theorem dX2_readsTest_52 : decode cX2_readsTest 52 = .ok (.ifCond .ge 5, 3) := by decide +kernel
theorem dX2_readsTest_55 : decode cX2_readsTest 55 = .ok (.iconst 0, 1) := by decide +kernel
theorem dX2_readsTest_56 : decode cX2_readsTest 56 = .ok (.ireturn, 1) := by decide +kernel
theorem dX2_readsTest_57 : decode cX2_readsTest 57 = .ok (.aload_n 0, 1) := by decide +kernel
theorem dX2_readsTest_58 : decode cX2_readsTest 58 = .ok (.iload_n 1, 1) := by decide +kernel
theorem dX2_readsTest_59 : decode cX2_readsTest 59 = .ok (.sipush 300, 3) := by decide +kernel
theorem dX2_readsTest_62 : decode cX2_readsTest 62 = .ok (.imul, 1) := by decide +kernel
theorem dX2_readsTest_63 : decode cX2_readsTest 63 = .ok (.iload_n 2, 1) := by decide +kernel
theorem dX2_readsTest_64 : decode cX2_readsTest 64 = .ok (.bipush 100, 2) := by decide +kernel
theorem dX2_readsTest_66 : decode cX2_readsTest 66 = .ok (.imul, 1) := by decide +kernel
theorem dX2_readsTest_67 : decode cX2_readsTest 67 = .ok (.iadd, 1) := by decide +kernel
theorem dX2_readsTest_68 : decode cX2_readsTest 68 = .ok (.iload_n 3, 1) := by decide +kernel
theorem dX2_readsTest_69 : decode cX2_readsTest 69 = .ok (.iadd, 1) := by decide +kernel
theorem dX2_readsTest_70 : decode cX2_readsTest 70 = .ok (.invokevirtual 113, 3) := by decide +kernel
theorem dX2_readsTest_73 : decode cX2_readsTest 73 = .ok (.iconst 1, 1) := by decide +kernel
theorem dX2_readsTest_74 : decode cX2_readsTest 74 = .ok (.ireturn, 1) := by decide +kernel
set_option maxRecDepth 20000 in
theorem ggX2_readsNumber_X2_isDigit : GoodIn wsX2_readsNumber wsX2_isDigit := goodIn_s _ [(6, 4), (5, 1), (10, 2), (1, 1), (12, 13)] rfl (by decide +kernel)
set_option maxRecDepth 20000 in
theorem gX2_readsNumber_X2_isDigit : GoodIn wsX2_readsNumber (wsV RX2 127 RX2 yX2_isDigit wsX2_isDigit) := goodIn_app (goodIn_of _ (by decide +kernel)) ggX2_readsNumber_X2_isDigit
set_option maxRecDepth 20000 in
theorem ggX2_readsNumber_X2_sign : GoodIn wsX2_readsNumber wsX2_sign := goodIn_s _ [(10, 2), (1, 1), (12, 13)] rfl (by decide +kernel)
set_option maxRecDepth 20000 in
theorem gX2_readsNumber_X2_sign : GoodIn wsX2_readsNumber (wsV RX2 130 RX2 yX2_sign wsX2_sign) := goodIn_app (goodIn_of _ (by decide +kernel)) ggX2_readsNumber_X2_sign
theorem dX2_readsNumber_0 : decode cX2_readsNumber 0 = .ok (.aload_n 0, 1) := by decide +kernel
theorem dX2_readsNumber_1 : decode cX2_readsNumber 1 = .ok (.invokevirtual 127, 3) := by decide +kernel
theorem dX2_readsNumber_4 : decode cX2_readsNumber 4 = .ok (.ifCond .ne 5, 3) := by decide +kernel
theorem dX2_readsNumber_7 : decode cX2_readsNumber 7 = .ok (.iconst (-1), 1) := by decide +kernel
theorem dX2_readsNumber_8 : decode cX2_readsNumber 8 = .ok (.ireturn, 1) := by decide +kernel
theorem dX2_readsNumber_9 : decode cX2_readsNumber 9 = .ok (.aload_n 0, 1) := by decide +kernel
theorem dX2_readsNumber_10 : decode cX2_readsNumber 10 = .ok (.invokevirtual 130, 3) := by decide +kernel
theorem dX2_readsNumber_13 : decode cX2_readsNumber 13 = .ok (.bipush 48, 2) := by decide +kernel
theorem dX2_readsNumber_15 : decode cX2_readsNumber 15 = .ok (.isub, 1) := by decide +kernel
theorem dX2_readsNumber_16 : decode cX2_readsNumber 16 = .ok (.istore_n 1, 1) := by decide +kernel
theorem dX2_readsNumber_17 : decode cX2_readsNumber 17 = .ok (.aload_n 0, 1) := by decide +kernel
theorem dX2_readsNumber_18 : decode cX2_readsNumber 18 = .ok (.dup, 1) := by decide +kernel
theorem dX2_readsNumber_19 : decode cX2_readsNumber 19 = .ok (.getfield 47, 3) := by decide +kernel
theorem dX2_readsNumber_22 : decode cX2_readsNumber 22 = .ok (.iconst 1, 1) := by decide +kernel
theorem dX2_readsNumber_23 : decode cX2_readsNumber 23 = .ok (.iadd, 1) := by decide +kernel
theorem dX2_readsNumber_24 : decode cX2_readsNumber 24 = .ok (.putfield 47, 3) := by decide +kernel
theorem dX2_readsNumber_27 : decode cX2_readsNumber 27 = .ok (.aload_n 0, 1) := by decide +kernel
theorem dX2_readsNumber_28 : decode cX2_readsNumber 28 = .ok (.invokevirtual 127, 3) := by decide +kernel
theorem dX2_readsNumber_31 : decode cX2_readsNumber 31 = .ok (.ifCond .eq 26, 3) := by decide +kernel
theorem dX2_readsNumber_34 : decode cX2_readsNumber 34 = .ok (.bipush 10, 2) := by decide +kernel
theorem dX2_readsNumber_36 : decode cX2_readsNumber 36 = .ok (.iload_n 1, 1) := by decide +kernel
theorem dX2_readsNumber_37 : decode cX2_readsNumber 37 = .ok (.imul, 1) := by decide +kernel
theorem dX2_readsNumber_38 : decode cX2_readsNumber 38 = .ok (.aload_n 0, 1) := by decide +kernel
theorem dX2_readsNumber_39 : decode cX2_readsNumber 39 = .ok (.invokevirtual 130, 3) := by decide +kernel
theorem dX2_readsNumber_42 : decode cX2_readsNumber 42 = .ok (.iadd, 1) := by decide +kernel
theorem dX2_readsNumber_43 : decode cX2_readsNumber 43 = .ok (.bipush 48, 2) := by decide +kernel
theorem dX2_readsNumber_45 : decode cX2_readsNumber 45 = .ok (.isub, 1) := by decide +kernel
theorem dX2_readsNumber_46 : decode cX2_readsNumber 46 = .ok (.istore_n 1, 1) := by decide +kernel
theorem dX2_readsNumber_47 : decode cX2_readsNumber 47 = .ok (.aload_n 0, 1) := by decide +kernel
theorem dX2_readsNumber_48 : decode cX2_readsNumber 48 = .ok (.dup, 1) := by decide +kernel
theorem dX2_readsNumber_49 : decode cX2_readsNumber 49 = .ok (.getfield 47, 3) := by decide +kernel
theorem dX2_readsNumber_52 : decode cX2_readsNumber 52 = .ok (.iconst 1, 1) := by decide +kernel
theorem dX2_readsNumber_53 : decode cX2_readsNumber 53 = .ok (.iadd, 1) := by decide +kernel
theorem dX2_readsNumber_54 : decode cX2_readsNumber 54 = .ok (.putfield 47, 3) := by decide +kernel
theorem dX2_readsNumber_57 : decode cX2_readsNumber 57 = .ok (.iload_n 1, 1) := by decide +kernel
theorem dX2_readsNumber_58 : decode cX2_readsNumber 58 = .ok (.ireturn, 1) := by decide +kernel
set_option maxRecDepth 20000 in
theorem ggX2_isDigit_X2_sign : GoodIn wsX2_isDigit wsX2_sign := goodIn_s _ [(5, 16)] rfl (by decide +kernel)
set_option maxRecDepth 20000 in
theorem gX2_isDigit_X2_sign : GoodIn wsX2_isDigit (wsV RX2 130 RX2 yX2_sign wsX2_sign) := goodIn_app (goodIn_of _ (by decide +kernel)) ggX2_isDigit_X2_sign
theorem dX2_isDigit_0 : decode cX2_isDigit 0 = .ok (.aload_n 0, 1) := by decide +kernel
theorem dX2_isDigit_1 : decode cX2_isDigit 1 = .ok (.invokevirtual 130, 3) := by decide +kernel
theorem dX2_isDigit_4 : decode cX2_isDigit 4 = .ok (.bipush 48, 2) := by decide +kernel
theorem dX2_isDigit_6 : decode cX2_isDigit 6 = .ok (.if_icmp .lt 16, 3) := by decide +kernel
theorem dX2_isDigit_9 : decode cX2_isDigit 9 = .ok (.aload_n 0, 1) := by decide +kernel
theorem dX2_isDigit_10 : decode cX2_isDigit 10 = .ok (.invokevirtual 130, 3) := by decide +kernel
theorem dX2_isDigit_13 : decode cX2_isDigit 13 = .ok (.bipush 57, 2) := by decide +kernel
theorem dX2_isDigit_15 : decode cX2_isDigit 15 = .ok (.if_icmp .gt 7, 3) := by decide +kernel
theorem dX2_isDigit_18 : decode cX2_isDigit 18 = .ok (.iconst 1, 1) := by decide +kernel
theorem dX2_isDigit_19 : decode cX2_isDigit 19 = .ok (.goto 4, 3) := by decide +kernel
theorem dX2_isDigit_22 : decode cX2_isDigit 22 = .ok (.iconst 0, 1) := by decide +kernel
theorem dX2_isDigit_23 : decode cX2_isDigit 23 = .ok (.ireturn, 1) := by decide +kernel
set_option maxRecDepth 20000 in
theorem ggX2_signAmong_X2_sign : GoodIn wsX2_signAmong wsX2_sign := goodIn_s _ [(5, 4), (98, 12)] rfl (by decide +kernel)
set_option maxRecDepth 20000 in
theorem gX2_signAmong_X2_sign : GoodIn wsX2_signAmong (wsV RX2 130 RX2 yX2_sign wsX2_sign) := goodIn_app (goodIn_of _ (by decide +kernel)) ggX2_signAmong_X2_sign
set_option maxRecDepth 20000 in
theorem ggX2_signAmong_J0_indexOf_0f7a4 : GoodIn wsX2_signAmong wsJ0_indexOf_0f7a4 := goodIn_s _ [(13, 4), (12, 1), (17, 81)] rfl (by decide +kernel)
set_option maxRecDepth 20000 in
theorem gX2_signAmong_J0_indexOf_0f7a4 : GoodIn wsX2_signAmong (wsV RX2 133 RJ0 yJ0_indexOf_0f7a4 wsJ0_indexOf_0f7a4) := goodIn_app (goodIn_of _ (by decide +kernel)) ggX2_signAmong_J0_indexOf_0f7a4
theorem dX2_signAmong_0 : decode cX2_signAmong 0 = .ok (.aload_n 0, 1) := by decide +kernel
theorem dX2_signAmong_1 : decode cX2_signAmong 1 = .ok (.invokevirtual 130, 3) := by decide +kernel
theorem dX2_signAmong_4 : decode cX2_signAmong 4 = .ok (.istore_n 2, 1) := by decide +kernel
theorem dX2_signAmong_5 : decode cX2_signAmong 5 = .ok (.iload_n 2, 1) := by decide +kernel
theorem dX2_signAmong_6 : decode cX2_signAmong 6 = .ok (.ifCond .ge 7, 3) := by decide +kernel
theorem dX2_signAmong_9 : decode cX2_signAmong 9 = .ok (.iconst (-1), 1) := by decide +kernel
theorem dX2_signAmong_10 : decode cX2_signAmong 10 = .ok (.goto 9, 3) := by decide +kernel
theorem dX2_signAmong_13 : decode cX2_signAmong 13 = .ok (.aload_n 1, 1) := by decide +kernel
theorem dX2_signAmong_14 : decode cX2_signAmong 14 = .ok (.iload_n 2, 1) := by decide +kernel
theorem dX2_signAmong_15 : decode cX2_signAmong 15 = .ok (.i2c, 1) := by decide +kernel
theorem dX2_signAmong_16 : decode cX2_signAmong 16 = .ok (.invokevirtual 133, 3) := by decide +kernel
theorem dX2_signAmong_19 : decode cX2_signAmong 19 = .ok (.ireturn, 1) := by decide +kernel
theorem dX2_sign_0 : decode cX2_sign 0 = .ok (.aload_n 0, 1) := by decide +kernel
theorem dX2_sign_1 : decode cX2_sign 1 = .ok (.getfield 40, 3) := by decide +kernel
theorem dX2_sign_4 : decode cX2_sign 4 = .ok (.ifnull 26, 3) := by decide +kernel
theorem dX2_sign_7 : decode cX2_sign 7 = .ok (.aload_n 0, 1) := by decide +kernel
theorem dX2_sign_8 : decode cX2_sign 8 = .ok (.getfield 47, 3) := by decide +kernel
theorem dX2_sign_11 : decode cX2_sign 11 = .ok (.aload_n 0, 1) := by decide +kernel
theorem dX2_sign_12 : decode cX2_sign 12 = .ok (.getfield 44, 3) := by decide +kernel
theorem dX2_sign_15 : decode cX2_sign 15 = .ok (.if_icmp .ge 15, 3) := by decide +kernel
theorem dX2_sign_18 : decode cX2_sign 18 = .ok (.aload_n 0, 1) := by decide +kernel
theorem dX2_sign_19 : decode cX2_sign 19 = .ok (.getfield 40, 3) := by decide +kernel
theorem dX2_sign_22 : decode cX2_sign 22 = .ok (.aload_n 0, 1) := by decide +kernel
theorem dX2_sign_23 : decode cX2_sign 23 = .ok (.getfield 47, 3) := by decide +kernel
theorem dX2_sign_26 : decode cX2_sign 26 = .ok (.baload, 1) := by decide +kernel
theorem dX2_sign_27 : decode cX2_sign 27 = .ok (.goto 4, 3) := by decide +kernel
theorem dX2_sign_30 : decode cX2_sign 30 = .ok (.iconst (-1), 1) := by decide +kernel
theorem dX2_sign_31 : decode cX2_sign 31 = .ok (.ireturn, 1) := by decide +kernel
set_option maxRecDepth 20000 in
theorem ggX2_takes_X2_sign : GoodIn wsX2_takes wsX2_sign := goodIn_s _ [(6, 2), (1, 1), (8, 13)] rfl (by decide +kernel)
set_option maxRecDepth 20000 in
theorem gX2_takes_X2_sign : GoodIn wsX2_takes (wsV RX2 130 RX2 yX2_sign wsX2_sign) := goodIn_app (goodIn_of _ (by decide +kernel)) ggX2_takes_X2_sign
theorem dX2_takes_0 : decode cX2_takes 0 = .ok (.aload_n 0, 1) := by decide +kernel
theorem dX2_takes_1 : decode cX2_takes 1 = .ok (.invokevirtual 130, 3) := by decide +kernel
theorem dX2_takes_4 : decode cX2_takes 4 = .ok (.iload_n 1, 1) := by decide +kernel
theorem dX2_takes_5 : decode cX2_takes 5 = .ok (.if_icmp .eq 5, 3) := by decide +kernel
theorem dX2_takes_8 : decode cX2_takes 8 = .ok (.iconst 0, 1) := by decide +kernel
theorem dX2_takes_9 : decode cX2_takes 9 = .ok (.ireturn, 1) := by decide +kernel
theorem dX2_takes_10 : decode cX2_takes 10 = .ok (.aload_n 0, 1) := by decide +kernel
theorem dX2_takes_11 : decode cX2_takes 11 = .ok (.dup, 1) := by decide +kernel
theorem dX2_takes_12 : decode cX2_takes 12 = .ok (.getfield 47, 3) := by decide +kernel
theorem dX2_takes_15 : decode cX2_takes 15 = .ok (.iconst 1, 1) := by decide +kernel
theorem dX2_takes_16 : decode cX2_takes 16 = .ok (.iadd, 1) := by decide +kernel
theorem dX2_takes_17 : decode cX2_takes 17 = .ok (.putfield 47, 3) := by decide +kernel
theorem dX2_takes_20 : decode cX2_takes 20 = .ok (.iconst 1, 1) := by decide +kernel
theorem dX2_takes_21 : decode cX2_takes 21 = .ok (.ireturn, 1) := by decide +kernel
theorem dX2_writes_0 : decode cX2_writes 0 = .ok (.aload_n 0, 1) := by decide +kernel
theorem dX2_writes_1 : decode cX2_writes 1 = .ok (.getfield 25, 3) := by decide +kernel
theorem dX2_writes_4 : decode cX2_writes 4 = .ok (.aload_n 0, 1) := by decide +kernel
theorem dX2_writes_5 : decode cX2_writes 5 = .ok (.getfield 21, 3) := by decide +kernel
theorem dX2_writes_8 : decode cX2_writes 8 = .ok (.arraylength, 1) := by decide +kernel
theorem dX2_writes_9 : decode cX2_writes 9 = .ok (.if_icmp .ge 23, 3) := by decide +kernel
theorem dX2_writes_12 : decode cX2_writes 12 = .ok (.aload_n 0, 1) := by decide +kernel
theorem dX2_writes_13 : decode cX2_writes 13 = .ok (.getfield 21, 3) := by decide +kernel
theorem dX2_writes_16 : decode cX2_writes 16 = .ok (.aload_n 0, 1) := by decide +kernel
theorem dX2_writes_17 : decode cX2_writes 17 = .ok (.getfield 25, 3) := by decide +kernel
theorem dX2_writes_20 : decode cX2_writes 20 = .ok (.iload_n 1, 1) := by decide +kernel
theorem dX2_writes_21 : decode cX2_writes 21 = .ok (.iastore, 1) := by decide +kernel
theorem dX2_writes_22 : decode cX2_writes 22 = .ok (.aload_n 0, 1) := by decide +kernel
theorem dX2_writes_23 : decode cX2_writes 23 = .ok (.dup, 1) := by decide +kernel
theorem dX2_writes_24 : decode cX2_writes 24 = .ok (.getfield 25, 3) := by decide +kernel
theorem dX2_writes_27 : decode cX2_writes 27 = .ok (.iconst 1, 1) := by decide +kernel
theorem dX2_writes_28 : decode cX2_writes 28 = .ok (.iadd, 1) := by decide +kernel
theorem dX2_writes_29 : decode cX2_writes 29 = .ok (.putfield 25, 3) := by decide +kernel
theorem dX2_writes_32 : decode cX2_writes 32 = .ok (.return_, 1) := by decide +kernel
set_option maxRecDepth 20000 in
theorem ggX2_paceOf_X2_holds : GoodIn wsX2_paceOf wsX2_holds := goodIn_s _ [(9, 15)] rfl (by decide +kernel)
set_option maxRecDepth 20000 in
theorem gX2_paceOf_X2_holds : GoodIn wsX2_paceOf (wsV RX2 137 RX2 yX2_holds wsX2_holds) := goodIn_app (goodIn_of _ (by decide +kernel)) ggX2_paceOf_X2_holds
theorem dX2_paceOf_0 : decode cX2_paceOf 0 = .ok (.bipush 6, 2) := by decide +kernel
theorem dX2_paceOf_2 : decode cX2_paceOf 2 = .ok (.istore_n 2, 1) := by decide +kernel
theorem dX2_paceOf_3 : decode cX2_paceOf 3 = .ok (.iconst 0, 1) := by decide +kernel
theorem dX2_paceOf_4 : decode cX2_paceOf 4 = .ok (.istore_n 3, 1) := by decide +kernel
theorem dX2_paceOf_5 : decode cX2_paceOf 5 = .ok (.iconst 0, 1) := by decide +kernel
theorem dX2_paceOf_6 : decode cX2_paceOf 6 = .ok (.istore 4, 2) := by decide +kernel
theorem dX2_paceOf_8 : decode cX2_paceOf 8 = .ok (.iload 4, 2) := by decide +kernel
theorem dX2_paceOf_10 : decode cX2_paceOf 10 = .ok (.aload_n 0, 1) := by decide +kernel
theorem dX2_paceOf_11 : decode cX2_paceOf 11 = .ok (.getfield 37, 3) := by decide +kernel
theorem dX2_paceOf_14 : decode cX2_paceOf 14 = .ok (.if_icmp .ge 75, 3) := by decide +kernel
theorem dX2_paceOf_17 : decode cX2_paceOf 17 = .ok (.aload_n 0, 1) := by decide +kernel
theorem dX2_paceOf_18 : decode cX2_paceOf 18 = .ok (.getfield 28, 3) := by decide +kernel
theorem dX2_paceOf_21 : decode cX2_paceOf 21 = .ok (.iload 4, 2) := by decide +kernel
theorem dX2_paceOf_23 : decode cX2_paceOf 23 = .ok (.iaload, 1) := by decide +kernel
theorem dX2_paceOf_24 : decode cX2_paceOf 24 = .ok (.iconst 1, 1) := by decide +kernel
theorem dX2_paceOf_25 : decode cX2_paceOf 25 = .ok (.if_icmp .gt 50, 3) := by decide +kernel
theorem dX2_paceOf_28 : decode cX2_paceOf 28 = .ok (.aload_n 0, 1) := by decide +kernel
theorem dX2_paceOf_29 : decode cX2_paceOf 29 = .ok (.iload_n 3, 1) := by decide +kernel
theorem dX2_paceOf_30 : decode cX2_paceOf 30 = .ok (.aload_n 0, 1) := by decide +kernel
theorem dX2_paceOf_31 : decode cX2_paceOf 31 = .ok (.getfield 34, 3) := by decide +kernel
theorem dX2_paceOf_34 : decode cX2_paceOf 34 = .ok (.iload 4, 2) := by decide +kernel
theorem dX2_paceOf_36 : decode cX2_paceOf 36 = .ok (.iaload, 1) := by decide +kernel
theorem dX2_paceOf_37 : decode cX2_paceOf 37 = .ok (.aload_n 1, 1) := by decide +kernel
theorem dX2_paceOf_38 : decode cX2_paceOf 38 = .ok (.invokevirtual 137, 3) := by decide +kernel
theorem dX2_paceOf_41 : decode cX2_paceOf 41 = .ok (.ifCond .eq 34, 3) := by decide +kernel
theorem dX2_paceOf_44 : decode cX2_paceOf 44 = .ok (.iload_n 2, 1) := by decide +kernel
theorem dX2_paceOf_45 : decode cX2_paceOf 45 = .ok (.aload_n 0, 1) := by decide +kernel
theorem dX2_paceOf_46 : decode cX2_paceOf 46 = .ok (.getfield 28, 3) := by decide +kernel
theorem dX2_paceOf_49 : decode cX2_paceOf 49 = .ok (.iload 4, 2) := by decide +kernel
theorem dX2_paceOf_51 : decode cX2_paceOf 51 = .ok (.iaload, 1) := by decide +kernel
theorem dX2_paceOf_52 : decode cX2_paceOf 52 = .ok (.ifCond .ne 13, 3) := by decide +kernel
theorem dX2_paceOf_55 : decode cX2_paceOf 55 = .ok (.aload_n 0, 1) := by decide +kernel
theorem dX2_paceOf_56 : decode cX2_paceOf 56 = .ok (.getfield 31, 3) := by decide +kernel
theorem dX2_paceOf_59 : decode cX2_paceOf 59 = .ok (.iload 4, 2) := by decide +kernel
theorem dX2_paceOf_61 : decode cX2_paceOf 61 = .ok (.iaload, 1) := by decide +kernel
theorem dX2_paceOf_62 : decode cX2_paceOf 62 = .ok (.goto 11, 3) := by decide +kernel
theorem dX2_paceOf_65 : decode cX2_paceOf 65 = .ok (.aload_n 0, 1) := by decide +kernel
theorem dX2_paceOf_66 : decode cX2_paceOf 66 = .ok (.getfield 31, 3) := by decide +kernel
theorem dX2_paceOf_69 : decode cX2_paceOf 69 = .ok (.iload 4, 2) := by decide +kernel
theorem dX2_paceOf_71 : decode cX2_paceOf 71 = .ok (.iaload, 1) := by decide +kernel
theorem dX2_paceOf_72 : decode cX2_paceOf 72 = .ok (.ineg, 1) := by decide +kernel
theorem dX2_paceOf_73 : decode cX2_paceOf 73 = .ok (.iadd, 1) := by decide +kernel
theorem dX2_paceOf_74 : decode cX2_paceOf 74 = .ok (.istore_n 2, 1) := by decide +kernel
theorem dX2_paceOf_75 : decode cX2_paceOf 75 = .ok (.aload_n 0, 1) := by decide +kernel
theorem dX2_paceOf_76 : decode cX2_paceOf 76 = .ok (.getfield 34, 3) := by decide +kernel
theorem dX2_paceOf_79 : decode cX2_paceOf 79 = .ok (.iload 4, 2) := by decide +kernel
theorem dX2_paceOf_81 : decode cX2_paceOf 81 = .ok (.iaload, 1) := by decide +kernel
theorem dX2_paceOf_82 : decode cX2_paceOf 82 = .ok (.istore_n 3, 1) := by decide +kernel
theorem dX2_paceOf_83 : decode cX2_paceOf 83 = .ok (.iinc 4 1, 3) := by decide +kernel
theorem dX2_paceOf_86 : decode cX2_paceOf 86 = .ok (.goto (-78), 3) := by decide +kernel
theorem dX2_paceOf_89 : decode cX2_paceOf 89 = .ok (.iload_n 2, 1) := by decide +kernel
theorem dX2_paceOf_90 : decode cX2_paceOf 90 = .ok (.ifCond .le 7, 3) := by decide +kernel
theorem dX2_paceOf_93 : decode cX2_paceOf 93 = .ok (.iload_n 2, 1) := by decide +kernel
theorem dX2_paceOf_94 : decode cX2_paceOf 94 = .ok (.goto 4, 3) := by decide +kernel
theorem dX2_paceOf_97 : decode cX2_paceOf 97 = .ok (.iconst 0, 1) := by decide +kernel
theorem dX2_paceOf_98 : decode cX2_paceOf 98 = .ok (.ireturn, 1) := by decide +kernel
theorem dX2_holds_0 : decode cX2_holds 0 = .ok (.iconst 0, 1) := by decide +kernel
theorem dX2_holds_1 : decode cX2_holds 1 = .ok (.istore 4, 2) := by decide +kernel
theorem dX2_holds_3 : decode cX2_holds 3 = .ok (.iload_n 1, 1) := by decide +kernel
