theorem dX12_layOrder_1 : decode cX12_layOrder 1 = .ok (.istore_n 2, 1) := by decide +kernel
theorem dX12_layOrder_2 : decode cX12_layOrder 2 = .ok (.iconst 2, 1) := by decide +kernel
theorem dX12_layOrder_3 : decode cX12_layOrder 3 = .ok (.istore_n 3, 1) := by decide +kernel
theorem dX12_layOrder_4 : decode cX12_layOrder 4 = .ok (.iload_n 3, 1) := by decide +kernel
theorem dX12_layOrder_5 : decode cX12_layOrder 5 = .ok (.aload_n 0, 1) := by decide +kernel
theorem dX12_layOrder_6 : decode cX12_layOrder 6 = .ok (.getfield 7, 3) := by decide +kernel
theorem dX12_layOrder_9 : decode cX12_layOrder 9 = .ok (.if_icmp .gt 13, 3) := by decide +kernel
theorem dX12_layOrder_12 : decode cX12_layOrder 12 = .ok (.iload_n 2, 1) := by decide +kernel
theorem dX12_layOrder_13 : decode cX12_layOrder 13 = .ok (.iload_n 3, 1) := by decide +kernel
theorem dX12_layOrder_14 : decode cX12_layOrder 14 = .ok (.imul, 1) := by decide +kernel
theorem dX12_layOrder_15 : decode cX12_layOrder 15 = .ok (.istore_n 2, 1) := by decide +kernel
theorem dX12_layOrder_16 : decode cX12_layOrder 16 = .ok (.iinc 3 1, 3) := by decide +kernel
theorem dX12_layOrder_19 : decode cX12_layOrder 19 = .ok (.goto (-15), 3) := by decide +kernel
theorem dX12_layOrder_22 : decode cX12_layOrder 22 = .ok (.iload_n 1, 1) := by decide +kernel
theorem dX12_layOrder_23 : decode cX12_layOrder 23 = .ok (.iload_n 2, 1) := by decide +kernel
theorem dX12_layOrder_24 : decode cX12_layOrder 24 = .ok (.if_icmp .lt 5, 3) := by decide +kernel
theorem dX12_layOrder_27 : decode cX12_layOrder 27 = .ok (.iconst 0, 1) := by decide +kernel
theorem dX12_layOrder_28 : decode cX12_layOrder 28 = .ok (.ireturn, 1) := by decide +kernel
theorem dX12_layOrder_29 : decode cX12_layOrder 29 = .ok (.iconst 1, 1) := by decide +kernel
theorem dX12_layOrder_30 : decode cX12_layOrder 30 = .ok (.aload_n 0, 1) := by decide +kernel
theorem dX12_layOrder_31 : decode cX12_layOrder 31 = .ok (.getfield 7, 3) := by decide +kernel
theorem dX12_layOrder_34 : decode cX12_layOrder 34 = .ok (.ishl, 1) := by decide +kernel
theorem dX12_layOrder_35 : decode cX12_layOrder 35 = .ok (.iconst 1, 1) := by decide +kernel
theorem dX12_layOrder_36 : decode cX12_layOrder 36 = .ok (.isub, 1) := by decide +kernel
theorem dX12_layOrder_37 : decode cX12_layOrder 37 = .ok (.istore_n 3, 1) := by decide +kernel
theorem dX12_layOrder_38 : decode cX12_layOrder 38 = .ok (.iload_n 1, 1) := by decide +kernel
theorem dX12_layOrder_39 : decode cX12_layOrder 39 = .ok (.istore 4, 2) := by decide +kernel
theorem dX12_layOrder_41 : decode cX12_layOrder 41 = .ok (.iconst 0, 1) := by decide +kernel
theorem dX12_layOrder_42 : decode cX12_layOrder 42 = .ok (.istore 5, 2) := by decide +kernel
theorem dX12_layOrder_44 : decode cX12_layOrder 44 = .ok (.iload 5, 2) := by decide +kernel
theorem dX12_layOrder_46 : decode cX12_layOrder 46 = .ok (.aload_n 0, 1) := by decide +kernel
theorem dX12_layOrder_47 : decode cX12_layOrder 47 = .ok (.getfield 7, 3) := by decide +kernel
theorem dX12_layOrder_50 : decode cX12_layOrder 50 = .ok (.if_icmp .ge 93, 3) := by decide +kernel
theorem dX12_layOrder_53 : decode cX12_layOrder 53 = .ok (.iload_n 2, 1) := by decide +kernel
theorem dX12_layOrder_54 : decode cX12_layOrder 54 = .ok (.aload_n 0, 1) := by decide +kernel
theorem dX12_layOrder_55 : decode cX12_layOrder 55 = .ok (.getfield 7, 3) := by decide +kernel
theorem dX12_layOrder_58 : decode cX12_layOrder 58 = .ok (.iload 5, 2) := by decide +kernel
theorem dX12_layOrder_60 : decode cX12_layOrder 60 = .ok (.isub, 1) := by decide +kernel
theorem dX12_layOrder_61 : decode cX12_layOrder 61 = .ok (.idiv, 1) := by decide +kernel
theorem dX12_layOrder_62 : decode cX12_layOrder 62 = .ok (.istore_n 2, 1) := by decide +kernel
theorem dX12_layOrder_63 : decode cX12_layOrder 63 = .ok (.iload 4, 2) := by decide +kernel
theorem dX12_layOrder_65 : decode cX12_layOrder 65 = .ok (.iload_n 2, 1) := by decide +kernel
theorem dX12_layOrder_66 : decode cX12_layOrder 66 = .ok (.idiv, 1) := by decide +kernel
theorem dX12_layOrder_67 : decode cX12_layOrder 67 = .ok (.istore 6, 2) := by decide +kernel
theorem dX12_layOrder_69 : decode cX12_layOrder 69 = .ok (.iload 4, 2) := by decide +kernel
theorem dX12_layOrder_71 : decode cX12_layOrder 71 = .ok (.iload_n 2, 1) := by decide +kernel
theorem dX12_layOrder_72 : decode cX12_layOrder 72 = .ok (.irem, 1) := by decide +kernel
theorem dX12_layOrder_73 : decode cX12_layOrder 73 = .ok (.istore 4, 2) := by decide +kernel
theorem dX12_layOrder_75 : decode cX12_layOrder 75 = .ok (.iconst 0, 1) := by decide +kernel
theorem dX12_layOrder_76 : decode cX12_layOrder 76 = .ok (.istore 7, 2) := by decide +kernel
theorem dX12_layOrder_78 : decode cX12_layOrder 78 = .ok (.aload_n 0, 1) := by decide +kernel
theorem dX12_layOrder_79 : decode cX12_layOrder 79 = .ok (.iload_n 3, 1) := by decide +kernel
theorem dX12_layOrder_80 : decode cX12_layOrder 80 = .ok (.iload 7, 2) := by decide +kernel
theorem dX12_layOrder_82 : decode cX12_layOrder 82 = .ok (.invokevirtual 368, 3) := by decide +kernel
theorem dX12_layOrder_85 : decode cX12_layOrder 85 = .ok (.ifCond .eq 8, 3) := by decide +kernel
theorem dX12_layOrder_88 : decode cX12_layOrder 88 = .ok (.iload 6, 2) := by decide +kernel
theorem dX12_layOrder_90 : decode cX12_layOrder 90 = .ok (.ifCond .le 29, 3) := by decide +kernel
theorem dX12_layOrder_93 : decode cX12_layOrder 93 = .ok (.iload 6, 2) := by decide +kernel
theorem dX12_layOrder_95 : decode cX12_layOrder 95 = .ok (.aload_n 0, 1) := by decide +kernel
theorem dX12_layOrder_96 : decode cX12_layOrder 96 = .ok (.iload_n 3, 1) := by decide +kernel
theorem dX12_layOrder_97 : decode cX12_layOrder 97 = .ok (.iload 7, 2) := by decide +kernel
theorem dX12_layOrder_99 : decode cX12_layOrder 99 = .ok (.invokevirtual 368, 3) := by decide +kernel
theorem dX12_layOrder_102 : decode cX12_layOrder 102 = .ok (.ifCond .eq 7, 3) := by decide +kernel
theorem dX12_layOrder_105 : decode cX12_layOrder 105 = .ok (.iconst 1, 1) := by decide +kernel
theorem dX12_layOrder_106 : decode cX12_layOrder 106 = .ok (.goto 4, 3) := by decide +kernel
theorem dX12_layOrder_109 : decode cX12_layOrder 109 = .ok (.iconst 0, 1) := by decide +kernel
theorem dX12_layOrder_110 : decode cX12_layOrder 110 = .ok (.isub, 1) := by decide +kernel
theorem dX12_layOrder_111 : decode cX12_layOrder 111 = .ok (.istore 6, 2) := by decide +kernel
theorem dX12_layOrder_113 : decode cX12_layOrder 113 = .ok (.iinc 7 1, 3) := by decide +kernel
theorem dX12_layOrder_116 : decode cX12_layOrder 116 = .ok (.goto (-38), 3) := by decide +kernel
theorem dX12_layOrder_119 : decode cX12_layOrder 119 = .ok (.aload_n 0, 1) := by decide +kernel
theorem dX12_layOrder_120 : decode cX12_layOrder 120 = .ok (.getfield 41, 3) := by decide +kernel
theorem dX12_layOrder_123 : decode cX12_layOrder 123 = .ok (.iload 5, 2) := by decide +kernel
theorem dX12_layOrder_125 : decode cX12_layOrder 125 = .ok (.iload 7, 2) := by decide +kernel
theorem dX12_layOrder_127 : decode cX12_layOrder 127 = .ok (.iastore, 1) := by decide +kernel
theorem dX12_layOrder_128 : decode cX12_layOrder 128 = .ok (.iload_n 3, 1) := by decide +kernel
theorem dX12_layOrder_129 : decode cX12_layOrder 129 = .ok (.iconst 1, 1) := by decide +kernel
theorem dX12_layOrder_130 : decode cX12_layOrder 130 = .ok (.iload 7, 2) := by decide +kernel
theorem dX12_layOrder_132 : decode cX12_layOrder 132 = .ok (.ishl, 1) := by decide +kernel
theorem dX12_layOrder_133 : decode cX12_layOrder 133 = .ok (.iconst (-1), 1) := by decide +kernel
theorem dX12_layOrder_134 : decode cX12_layOrder 134 = .ok (.ixor, 1) := by decide +kernel
theorem dX12_layOrder_135 : decode cX12_layOrder 135 = .ok (.iand, 1) := by decide +kernel
theorem dX12_layOrder_136 : decode cX12_layOrder 136 = .ok (.istore_n 3, 1) := by decide +kernel
theorem dX12_layOrder_137 : decode cX12_layOrder 137 = .ok (.iinc 5 1, 3) := by decide +kernel
theorem dX12_layOrder_140 : decode cX12_layOrder 140 = .ok (.goto (-96), 3) := by decide +kernel
theorem dX12_layOrder_143 : decode cX12_layOrder 143 = .ok (.iconst 1, 1) := by decide +kernel
theorem dX12_layOrder_144 : decode cX12_layOrder 144 = .ok (.ireturn, 1) := by decide +kernel
set_option maxRecDepth 20000 in
theorem ggX12_fromTheStart_X12_save : GoodIn wsX12_fromTheStart wsX12_save := goodIn_s _ [(7, 4), (2, 1), (11, 7), (106, 75)] rfl (by decide +kernel)
set_option maxRecDepth 20000 in
theorem gX12_fromTheStart_X12_save : GoodIn wsX12_fromTheStart (wsV RX12 353 RX12 yX12_save wsX12_save) := goodIn_app (goodIn_of _ (by decide +kernel)) ggX12_fromTheStart_X12_save
set_option maxRecDepth 20000 in
theorem ggX12_fromTheStart_X12_goMinutes : GoodIn wsX12_fromTheStart wsX12_goMinutes := goodIn_s _ [(21, 4), (6, 1), (25, 4), (17, 1), (8, 1), (29, 4), (12, 1), (33, 30), (14, 1), (63, 18), (2, 1), (81, 13), (16, 1), (94, 4), (106, 75)] rfl (by decide +kernel)
set_option maxRecDepth 20000 in
theorem gX12_fromTheStart_X12_goMinutes : GoodIn wsX12_fromTheStart (wsV RX12 356 RX12 yX12_goMinutes wsX12_goMinutes) := goodIn_app (goodIn_of _ (by decide +kernel)) ggX12_fromTheStart_X12_goMinutes
set_option maxRecDepth 20000 in
theorem ggX12_fromTheStart_X12_all : GoodIn wsX12_fromTheStart wsX12_all := goodIn_s _ [(101, 1), (1, 2), (106, 75)] rfl (by decide +kernel)
set_option maxRecDepth 20000 in
theorem gX12_fromTheStart_X12_all : GoodIn wsX12_fromTheStart (wsV RX12 359 RX12 yX12_all wsX12_all) := goodIn_app (goodIn_of _ (by decide +kernel)) ggX12_fromTheStart_X12_all
set_option maxRecDepth 20000 in
theorem ggX12_fromTheStart_X12_putBack : GoodIn wsX12_fromTheStart wsX12_putBack := goodIn_s _ [(105, 1), (9, 1), (8, 1), (2, 1), (10, 1), (12, 1), (11, 1), (14, 1), (13, 1), (16, 1), (15, 1), (106, 75)] rfl (by decide +kernel)
set_option maxRecDepth 20000 in
theorem gX12_fromTheStart_X12_putBack : GoodIn wsX12_fromTheStart (wsV RX12 362 RX12 yX12_putBack wsX12_putBack) := goodIn_app (goodIn_of _ (by decide +kernel)) ggX12_fromTheStart_X12_putBack
theorem dX12_fromTheStart_0 : decode cX12_fromTheStart 0 = .ok (.aload_n 0, 1) := by decide +kernel
theorem dX12_fromTheStart_1 : decode cX12_fromTheStart 1 = .ok (.invokevirtual 353, 3) := by decide +kernel
theorem dX12_fromTheStart_4 : decode cX12_fromTheStart 4 = .ok (.iconst 0, 1) := by decide +kernel
theorem dX12_fromTheStart_5 : decode cX12_fromTheStart 5 = .ok (.istore_n 2, 1) := by decide +kernel
theorem dX12_fromTheStart_6 : decode cX12_fromTheStart 6 = .ok (.iload_n 2, 1) := by decide +kernel
theorem dX12_fromTheStart_7 : decode cX12_fromTheStart 7 = .ok (.aload_n 0, 1) := by decide +kernel
theorem dX12_fromTheStart_8 : decode cX12_fromTheStart 8 = .ok (.getfield 7, 3) := by decide +kernel
theorem dX12_fromTheStart_11 : decode cX12_fromTheStart 11 = .ok (.if_icmp .ge 16, 3) := by decide +kernel
theorem dX12_fromTheStart_14 : decode cX12_fromTheStart 14 = .ok (.aload_n 0, 1) := by decide +kernel
theorem dX12_fromTheStart_15 : decode cX12_fromTheStart 15 = .ok (.getfield 26, 3) := by decide +kernel
theorem dX12_fromTheStart_18 : decode cX12_fromTheStart 18 = .ok (.iload_n 2, 1) := by decide +kernel
theorem dX12_fromTheStart_19 : decode cX12_fromTheStart 19 = .ok (.iconst 0, 1) := by decide +kernel
theorem dX12_fromTheStart_20 : decode cX12_fromTheStart 20 = .ok (.iastore, 1) := by decide +kernel
theorem dX12_fromTheStart_21 : decode cX12_fromTheStart 21 = .ok (.iinc 2 1, 3) := by decide +kernel
theorem dX12_fromTheStart_24 : decode cX12_fromTheStart 24 = .ok (.goto (-18), 3) := by decide +kernel
theorem dX12_fromTheStart_27 : decode cX12_fromTheStart 27 = .ok (.aload_n 0, 1) := by decide +kernel
theorem dX12_fromTheStart_28 : decode cX12_fromTheStart 28 = .ok (.iload_n 1, 1) := by decide +kernel
theorem dX12_fromTheStart_29 : decode cX12_fromTheStart 29 = .ok (.invokevirtual 356, 3) := by decide +kernel
theorem dX12_fromTheStart_32 : decode cX12_fromTheStart 32 = .ok (.aload_n 0, 1) := by decide +kernel
theorem dX12_fromTheStart_33 : decode cX12_fromTheStart 33 = .ok (.invokevirtual 359, 3) := by decide +kernel
theorem dX12_fromTheStart_36 : decode cX12_fromTheStart 36 = .ok (.istore_n 2, 1) := by decide +kernel
theorem dX12_fromTheStart_37 : decode cX12_fromTheStart 37 = .ok (.aload_n 0, 1) := by decide +kernel
theorem dX12_fromTheStart_38 : decode cX12_fromTheStart 38 = .ok (.invokevirtual 362, 3) := by decide +kernel
theorem dX12_fromTheStart_41 : decode cX12_fromTheStart 41 = .ok (.iload_n 2, 1) := by decide +kernel
theorem dX12_fromTheStart_42 : decode cX12_fromTheStart 42 = .ok (.ireturn, 1) := by decide +kernel
set_option maxRecDepth 20000 in
theorem ggX12_order_X12_in : GoodIn wsX12_order wsX12_in := goodIn_s _ [(9, 1)] rfl (by decide +kernel)
set_option maxRecDepth 20000 in
theorem gX12_order_X12_in : GoodIn wsX12_order (wsV RX12 239 RX12 yX12_in wsX12_in) := goodIn_app (goodIn_of _ (by decide +kernel)) ggX12_order_X12_in
set_option maxRecDepth 20000 in
theorem ggX12_order_X12_layOrder : GoodIn wsX12_order wsX12_layOrder := goodIn_s _ [(13, 1), (1, 1), (3, 1), (14, 3), (8, 1), (17, 1), (124, 75)] rfl (by decide +kernel)
set_option maxRecDepth 20000 in
theorem gX12_order_X12_layOrder : GoodIn wsX12_order (wsV RX12 371 RX12 yX12_layOrder wsX12_layOrder) := goodIn_app (goodIn_of _ (by decide +kernel)) ggX12_order_X12_layOrder
set_option maxRecDepth 20000 in
theorem ggX12_order_X12_fromTheStart : GoodIn wsX12_order wsX12_fromTheStart := goodIn_s _ [(21, 1), (1, 1), (22, 4), (8, 1), (26, 21), (3, 1), (47, 152)] rfl (by decide +kernel)
set_option maxRecDepth 20000 in
theorem gX12_order_X12_fromTheStart : GoodIn wsX12_order (wsV RX12 374 RX12 yX12_fromTheStart wsX12_fromTheStart) := goodIn_app (goodIn_of _ (by decide +kernel)) ggX12_order_X12_fromTheStart
theorem dX12_order_0 : decode cX12_order 0 = .ok (.aload_n 0, 1) := by decide +kernel
theorem dX12_order_1 : decode cX12_order 1 = .ok (.iload_n 2, 1) := by decide +kernel
theorem dX12_order_2 : decode cX12_order 2 = .ok (.iconst (-1), 1) := by decide +kernel
theorem dX12_order_3 : decode cX12_order 3 = .ok (.iconst 4, 1) := by decide +kernel
theorem dX12_order_4 : decode cX12_order 4 = .ok (.invokevirtual 239, 3) := by decide +kernel
theorem dX12_order_7 : decode cX12_order 7 = .ok (.ifCond .ne 5, 3) := by decide +kernel
theorem dX12_order_10 : decode cX12_order 10 = .ok (.iconst (-1), 1) := by decide +kernel
theorem dX12_order_11 : decode cX12_order 11 = .ok (.ireturn, 1) := by decide +kernel
theorem dX12_order_12 : decode cX12_order 12 = .ok (.aload_n 0, 1) := by decide +kernel
theorem dX12_order_13 : decode cX12_order 13 = .ok (.iload_n 1, 1) := by decide +kernel
theorem dX12_order_14 : decode cX12_order 14 = .ok (.iconst 1, 1) := by decide +kernel
theorem dX12_order_15 : decode cX12_order 15 = .ok (.bipush 12, 2) := by decide +kernel
theorem dX12_order_17 : decode cX12_order 17 = .ok (.invokevirtual 239, 3) := by decide +kernel
theorem dX12_order_20 : decode cX12_order 20 = .ok (.ifCond .ne 6, 3) := by decide +kernel
theorem dX12_order_23 : decode cX12_order 23 = .ok (.bipush (-2), 2) := by decide +kernel
theorem dX12_order_25 : decode cX12_order 25 = .ok (.ireturn, 1) := by decide +kernel
theorem dX12_order_26 : decode cX12_order 26 = .ok (.aload_n 0, 1) := by decide +kernel
theorem dX12_order_27 : decode cX12_order 27 = .ok (.getfield 7, 3) := by decide +kernel
theorem dX12_order_30 : decode cX12_order 30 = .ok (.iconst 5, 1) := by decide +kernel
theorem dX12_order_31 : decode cX12_order 31 = .ok (.if_icmp .le 6, 3) := by decide +kernel
theorem dX12_order_34 : decode cX12_order 34 = .ok (.bipush (-9), 2) := by decide +kernel
theorem dX12_order_36 : decode cX12_order 36 = .ok (.ireturn, 1) := by decide +kernel
theorem dX12_order_37 : decode cX12_order 37 = .ok (.iconst 0, 1) := by decide +kernel
theorem dX12_order_38 : decode cX12_order 38 = .ok (.istore_n 3, 1) := by decide +kernel
theorem dX12_order_39 : decode cX12_order 39 = .ok (.iload_n 3, 1) := by decide +kernel
theorem dX12_order_40 : decode cX12_order 40 = .ok (.bipush 6, 2) := by decide +kernel
theorem dX12_order_42 : decode cX12_order 42 = .ok (.if_icmp .ge 21, 3) := by decide +kernel
theorem dX12_order_45 : decode cX12_order 45 = .ok (.aload_n 0, 1) := by decide +kernel
theorem dX12_order_46 : decode cX12_order 46 = .ok (.getfield 126, 3) := by decide +kernel
theorem dX12_order_49 : decode cX12_order 49 = .ok (.iload_n 3, 1) := by decide +kernel
theorem dX12_order_50 : decode cX12_order 50 = .ok (.aload_n 0, 1) := by decide +kernel
theorem dX12_order_51 : decode cX12_order 51 = .ok (.getfield 41, 3) := by decide +kernel
theorem dX12_order_54 : decode cX12_order 54 = .ok (.iload_n 3, 1) := by decide +kernel
theorem dX12_order_55 : decode cX12_order 55 = .ok (.iaload, 1) := by decide +kernel
theorem dX12_order_56 : decode cX12_order 56 = .ok (.iastore, 1) := by decide +kernel
theorem dX12_order_57 : decode cX12_order 57 = .ok (.iinc 3 1, 3) := by decide +kernel
theorem dX12_order_60 : decode cX12_order 60 = .ok (.goto (-21), 3) := by decide +kernel
theorem dX12_order_63 : decode cX12_order 63 = .ok (.iconst (-1), 1) := by decide +kernel
theorem dX12_order_64 : decode cX12_order 64 = .ok (.istore_n 3, 1) := by decide +kernel
theorem dX12_order_65 : decode cX12_order 65 = .ok (.iconst 0, 1) := by decide +kernel
theorem dX12_order_66 : decode cX12_order 66 = .ok (.istore 4, 2) := by decide +kernel
theorem dX12_order_68 : decode cX12_order 68 = .ok (.aload_n 0, 1) := by decide +kernel
theorem dX12_order_69 : decode cX12_order 69 = .ok (.iload 4, 2) := by decide +kernel
theorem dX12_order_71 : decode cX12_order 71 = .ok (.invokevirtual 371, 3) := by decide +kernel
theorem dX12_order_74 : decode cX12_order 74 = .ok (.ifCond .eq 58, 3) := by decide +kernel
theorem dX12_order_77 : decode cX12_order 77 = .ok (.aload_n 0, 1) := by decide +kernel
theorem dX12_order_78 : decode cX12_order 78 = .ok (.iload_n 1, 1) := by decide +kernel
theorem dX12_order_79 : decode cX12_order 79 = .ok (.invokevirtual 374, 3) := by decide +kernel
theorem dX12_order_82 : decode cX12_order 82 = .ok (.istore 5, 2) := by decide +kernel
theorem dX12_order_84 : decode cX12_order 84 = .ok (.iload 5, 2) := by decide +kernel
theorem dX12_order_86 : decode cX12_order 86 = .ok (.iload_n 3, 1) := by decide +kernel
theorem dX12_order_87 : decode cX12_order 87 = .ok (.if_icmp .gt 6, 3) := by decide +kernel
theorem dX12_order_90 : decode cX12_order 90 = .ok (.goto 36, 3) := by decide +kernel
theorem dX12_order_93 : decode cX12_order 93 = .ok (.iload 5, 2) := by decide +kernel
theorem dX12_order_95 : decode cX12_order 95 = .ok (.istore_n 3, 1) := by decide +kernel
theorem dX12_order_96 : decode cX12_order 96 = .ok (.iconst 0, 1) := by decide +kernel
theorem dX12_order_97 : decode cX12_order 97 = .ok (.istore 6, 2) := by decide +kernel
theorem dX12_order_99 : decode cX12_order 99 = .ok (.iload 6, 2) := by decide +kernel
theorem dX12_order_101 : decode cX12_order 101 = .ok (.bipush 6, 2) := by decide +kernel
theorem dX12_order_103 : decode cX12_order 103 = .ok (.if_icmp .ge 23, 3) := by decide +kernel
theorem dX12_order_106 : decode cX12_order 106 = .ok (.aload_n 0, 1) := by decide +kernel
theorem dX12_order_107 : decode cX12_order 107 = .ok (.getfield 129, 3) := by decide +kernel
theorem dX12_order_110 : decode cX12_order 110 = .ok (.iload 6, 2) := by decide +kernel
theorem dX12_order_112 : decode cX12_order 112 = .ok (.aload_n 0, 1) := by decide +kernel
theorem dX12_order_113 : decode cX12_order 113 = .ok (.getfield 41, 3) := by decide +kernel
theorem dX12_order_116 : decode cX12_order 116 = .ok (.iload 6, 2) := by decide +kernel
theorem dX12_order_118 : decode cX12_order 118 = .ok (.iaload, 1) := by decide +kernel
theorem dX12_order_119 : decode cX12_order 119 = .ok (.iastore, 1) := by decide +kernel
theorem dX12_order_120 : decode cX12_order 120 = .ok (.iinc 6 1, 3) := by decide +kernel
theorem dX12_order_123 : decode cX12_order 123 = .ok (.goto (-24), 3) := by decide +kernel
theorem dX12_order_126 : decode cX12_order 126 = .ok (.iinc 4 1, 3) := by decide +kernel
theorem dX12_order_129 : decode cX12_order 129 = .ok (.goto (-61), 3) := by decide +kernel
theorem dX12_order_132 : decode cX12_order 132 = .ok (.iconst 0, 1) := by decide +kernel
theorem dX12_order_133 : decode cX12_order 133 = .ok (.istore 4, 2) := by decide +kernel
theorem dX12_order_135 : decode cX12_order 135 = .ok (.iload 4, 2) := by decide +kernel
theorem dX12_order_137 : decode cX12_order 137 = .ok (.bipush 6, 2) := by decide +kernel
theorem dX12_order_139 : decode cX12_order 139 = .ok (.if_icmp .ge 23, 3) := by decide +kernel
theorem dX12_order_142 : decode cX12_order 142 = .ok (.aload_n 0, 1) := by decide +kernel
theorem dX12_order_143 : decode cX12_order 143 = .ok (.getfield 41, 3) := by decide +kernel
theorem dX12_order_146 : decode cX12_order 146 = .ok (.iload 4, 2) := by decide +kernel
theorem dX12_order_148 : decode cX12_order 148 = .ok (.aload_n 0, 1) := by decide +kernel
theorem dX12_order_149 : decode cX12_order 149 = .ok (.getfield 126, 3) := by decide +kernel
theorem dX12_order_152 : decode cX12_order 152 = .ok (.iload 4, 2) := by decide +kernel
theorem dX12_order_154 : decode cX12_order 154 = .ok (.iaload, 1) := by decide +kernel
theorem dX12_order_155 : decode cX12_order 155 = .ok (.iastore, 1) := by decide +kernel
theorem dX12_order_156 : decode cX12_order 156 = .ok (.iinc 4 1, 3) := by decide +kernel
theorem dX12_order_159 : decode cX12_order 159 = .ok (.goto (-24), 3) := by decide +kernel
theorem dX12_order_162 : decode cX12_order 162 = .ok (.iload_n 2, 1) := by decide +kernel
theorem dX12_order_163 : decode cX12_order 163 = .ok (.ifCond .ge 7, 3) := by decide +kernel
theorem dX12_order_166 : decode cX12_order 166 = .ok (.iload_n 3, 1) := by decide +kernel
theorem dX12_order_167 : decode cX12_order 167 = .ok (.goto 22, 3) := by decide +kernel
theorem dX12_order_170 : decode cX12_order 170 = .ok (.iload_n 2, 1) := by decide +kernel
theorem dX12_order_171 : decode cX12_order 171 = .ok (.aload_n 0, 1) := by decide +kernel
theorem dX12_order_172 : decode cX12_order 172 = .ok (.getfield 7, 3) := by decide +kernel
theorem dX12_order_175 : decode cX12_order 175 = .ok (.if_icmp .ge 12, 3) := by decide +kernel
theorem dX12_order_178 : decode cX12_order 178 = .ok (.aload_n 0, 1) := by decide +kernel
theorem dX12_order_179 : decode cX12_order 179 = .ok (.getfield 129, 3) := by decide +kernel
theorem dX12_order_182 : decode cX12_order 182 = .ok (.iload_n 2, 1) := by decide +kernel
theorem dX12_order_183 : decode cX12_order 183 = .ok (.iaload, 1) := by decide +kernel
theorem dX12_order_184 : decode cX12_order 184 = .ok (.goto 5, 3) := by decide +kernel
theorem dX12_order_187 : decode cX12_order 187 = .ok (.bipush (-5), 2) := by decide +kernel
theorem dX12_order_189 : decode cX12_order 189 = .ok (.ireturn, 1) := by decide +kernel
set_option maxRecDepth 20000 in
theorem ggX12_whetted_X12_save : GoodIn wsX12_whetted wsX12_save := goodIn_s _ [(5, 12), (110, 75)] rfl (by decide +kernel)
set_option maxRecDepth 20000 in
theorem gX12_whetted_X12_save : GoodIn wsX12_whetted (wsV RX12 353 RX12 yX12_save wsX12_save) := goodIn_app (goodIn_of _ (by decide +kernel)) ggX12_whetted_X12_save
set_option maxRecDepth 20000 in
theorem ggX12_whetted_X12_goWhet : GoodIn wsX12_whetted wsX12_goWhet := goodIn_s _ [(20, 2), (11, 1), (13, 1), (15, 1), (6, 1), (22, 3), (4, 1), (25, 1), (110, 75)] rfl (by decide +kernel)
set_option maxRecDepth 20000 in
theorem gX12_whetted_X12_goWhet : GoodIn wsX12_whetted (wsV RX12 347 RX12 yX12_goWhet wsX12_goWhet) := goodIn_app (goodIn_of _ (by decide +kernel)) ggX12_whetted_X12_goWhet
set_option maxRecDepth 20000 in
theorem ggX12_whetted_X12_goMinutes : GoodIn wsX12_whetted wsX12_goMinutes := goodIn_s _ [(29, 4), (4, 1), (33, 4), (16, 1), (6, 1), (37, 4), (11, 1), (41, 30), (13, 1), (22, 4), (71, 14), (9, 1), (85, 13), (15, 1), (98, 4), (110, 75)] rfl (by decide +kernel)
set_option maxRecDepth 20000 in
theorem gX12_whetted_X12_goMinutes : GoodIn wsX12_whetted (wsV RX12 356 RX12 yX12_goMinutes wsX12_goMinutes) := goodIn_app (goodIn_of _ (by decide +kernel)) ggX12_whetted_X12_goMinutes
set_option maxRecDepth 20000 in
theorem ggX12_whetted_X12_all : GoodIn wsX12_whetted wsX12_all := goodIn_s _ [(105, 1), (21, 1), (9, 1), (110, 75)] rfl (by decide +kernel)
set_option maxRecDepth 20000 in
theorem gX12_whetted_X12_all : GoodIn wsX12_whetted (wsV RX12 359 RX12 yX12_all wsX12_all) := goodIn_app (goodIn_of _ (by decide +kernel)) ggX12_whetted_X12_all
set_option maxRecDepth 20000 in
theorem ggX12_whetted_X12_putBack : GoodIn wsX12_whetted wsX12_putBack := goodIn_s _ [(109, 1), (7, 1), (6, 1), (9, 1), (8, 1), (11, 1), (10, 1), (13, 1), (12, 1), (15, 1), (14, 1), (110, 75)] rfl (by decide +kernel)
set_option maxRecDepth 20000 in
theorem gX12_whetted_X12_putBack : GoodIn wsX12_whetted (wsV RX12 362 RX12 yX12_putBack wsX12_putBack) := goodIn_app (goodIn_of _ (by decide +kernel)) ggX12_whetted_X12_putBack
theorem dX12_whetted_0 : decode cX12_whetted 0 = .ok (.aload_n 0, 1) := by decide +kernel
theorem dX12_whetted_1 : decode cX12_whetted 1 = .ok (.invokevirtual 353, 3) := by decide +kernel
theorem dX12_whetted_4 : decode cX12_whetted 4 = .ok (.iconst 1, 1) := by decide +kernel
theorem dX12_whetted_5 : decode cX12_whetted 5 = .ok (.istore_n 3, 1) := by decide +kernel
theorem dX12_whetted_6 : decode cX12_whetted 6 = .ok (.iload_n 3, 1) := by decide +kernel
theorem dX12_whetted_7 : decode cX12_whetted 7 = .ok (.iload_n 1, 1) := by decide +kernel
theorem dX12_whetted_8 : decode cX12_whetted 8 = .ok (.if_icmp .gt 33, 3) := by decide +kernel
theorem dX12_whetted_11 : decode cX12_whetted 11 = .ok (.iload_n 2, 1) := by decide +kernel
theorem dX12_whetted_12 : decode cX12_whetted 12 = .ok (.bipush 16, 2) := by decide +kernel
theorem dX12_whetted_14 : decode cX12_whetted 14 = .ok (.if_icmp .ge 16, 3) := by decide +kernel
theorem dX12_whetted_17 : decode cX12_whetted 17 = .ok (.iload_n 3, 1) := by decide +kernel
theorem dX12_whetted_18 : decode cX12_whetted 18 = .ok (.iload_n 2, 1) := by decide +kernel
theorem dX12_whetted_19 : decode cX12_whetted 19 = .ok (.irem, 1) := by decide +kernel
theorem dX12_whetted_20 : decode cX12_whetted 20 = .ok (.ifCond .ne 10, 3) := by decide +kernel
theorem dX12_whetted_23 : decode cX12_whetted 23 = .ok (.aload_n 0, 1) := by decide +kernel
theorem dX12_whetted_24 : decode cX12_whetted 24 = .ok (.invokevirtual 347, 3) := by decide +kernel
theorem dX12_whetted_27 : decode cX12_whetted 27 = .ok (.goto 8, 3) := by decide +kernel
theorem dX12_whetted_30 : decode cX12_whetted 30 = .ok (.aload_n 0, 1) := by decide +kernel
theorem dX12_whetted_31 : decode cX12_whetted 31 = .ok (.iconst 1, 1) := by decide +kernel
theorem dX12_whetted_32 : decode cX12_whetted 32 = .ok (.invokevirtual 356, 3) := by decide +kernel
theorem dX12_whetted_35 : decode cX12_whetted 35 = .ok (.iinc 3 1, 3) := by decide +kernel
theorem dX12_whetted_38 : decode cX12_whetted 38 = .ok (.goto (-32), 3) := by decide +kernel
theorem dX12_whetted_41 : decode cX12_whetted 41 = .ok (.aload_n 0, 1) := by decide +kernel
theorem dX12_whetted_42 : decode cX12_whetted 42 = .ok (.invokevirtual 359, 3) := by decide +kernel
theorem dX12_whetted_45 : decode cX12_whetted 45 = .ok (.istore_n 3, 1) := by decide +kernel
theorem dX12_whetted_46 : decode cX12_whetted 46 = .ok (.aload_n 0, 1) := by decide +kernel
theorem dX12_whetted_47 : decode cX12_whetted 47 = .ok (.invokevirtual 362, 3) := by decide +kernel
theorem dX12_whetted_50 : decode cX12_whetted 50 = .ok (.iload_n 3, 1) := by decide +kernel
theorem dX12_whetted_51 : decode cX12_whetted 51 = .ok (.ireturn, 1) := by decide +kernel
set_option maxRecDepth 20000 in
theorem ggX12_whets_X12_in : GoodIn wsX12_whets wsX12_in := goodIn_s _ [(5, 1)] rfl (by decide +kernel)
set_option maxRecDepth 20000 in
theorem gX12_whets_X12_in : GoodIn wsX12_whets (wsV RX12 239 RX12 yX12_in wsX12_in) := goodIn_app (goodIn_of _ (by decide +kernel)) ggX12_whets_X12_in
set_option maxRecDepth 20000 in
theorem ggX12_whets_X12_whetted : GoodIn wsX12_whets wsX12_whetted := goodIn_s _ [(9, 4), (4, 1), (13, 180)] rfl (by decide +kernel)
set_option maxRecDepth 20000 in
theorem gX12_whets_X12_whetted : GoodIn wsX12_whets (wsV RX12 377 RX12 yX12_whetted wsX12_whetted) := goodIn_app (goodIn_of _ (by decide +kernel)) ggX12_whets_X12_whetted
theorem dX12_whets_0 : decode cX12_whets 0 = .ok (.aload_n 0, 1) := by decide +kernel
theorem dX12_whets_1 : decode cX12_whets 1 = .ok (.iload_n 2, 1) := by decide +kernel
theorem dX12_whets_2 : decode cX12_whets 2 = .ok (.iconst 0, 1) := by decide +kernel
theorem dX12_whets_3 : decode cX12_whets 3 = .ok (.iconst 1, 1) := by decide +kernel
theorem dX12_whets_4 : decode cX12_whets 4 = .ok (.invokevirtual 239, 3) := by decide +kernel
theorem dX12_whets_7 : decode cX12_whets 7 = .ok (.ifCond .ne 5, 3) := by decide +kernel
theorem dX12_whets_10 : decode cX12_whets 10 = .ok (.iconst (-1), 1) := by decide +kernel
theorem dX12_whets_11 : decode cX12_whets 11 = .ok (.ireturn, 1) := by decide +kernel
theorem dX12_whets_12 : decode cX12_whets 12 = .ok (.aload_n 0, 1) := by decide +kernel
theorem dX12_whets_13 : decode cX12_whets 13 = .ok (.iload_n 1, 1) := by decide +kernel
theorem dX12_whets_14 : decode cX12_whets 14 = .ok (.iconst 1, 1) := by decide +kernel
theorem dX12_whets_15 : decode cX12_whets 15 = .ok (.bipush 60, 2) := by decide +kernel
theorem dX12_whets_17 : decode cX12_whets 17 = .ok (.invokevirtual 239, 3) := by decide +kernel
theorem dX12_whets_20 : decode cX12_whets 20 = .ok (.ifCond .ne 6, 3) := by decide +kernel
theorem dX12_whets_23 : decode cX12_whets 23 = .ok (.bipush (-2), 2) := by decide +kernel
theorem dX12_whets_25 : decode cX12_whets 25 = .ok (.ireturn, 1) := by decide +kernel
theorem dX12_whets_26 : decode cX12_whets 26 = .ok (.iconst 0, 1) := by decide +kernel
theorem dX12_whets_27 : decode cX12_whets 27 = .ok (.istore_n 3, 1) := by decide +kernel
theorem dX12_whets_28 : decode cX12_whets 28 = .ok (.iconst (-1), 1) := by decide +kernel
theorem dX12_whets_29 : decode cX12_whets 29 = .ok (.istore 4, 2) := by decide +kernel
theorem dX12_whets_31 : decode cX12_whets 31 = .ok (.iconst 1, 1) := by decide +kernel
theorem dX12_whets_32 : decode cX12_whets 32 = .ok (.istore 5, 2) := by decide +kernel
theorem dX12_whets_34 : decode cX12_whets 34 = .ok (.iload 5, 2) := by decide +kernel
theorem dX12_whets_36 : decode cX12_whets 36 = .ok (.bipush 17, 2) := by decide +kernel
theorem dX12_whets_38 : decode cX12_whets 38 = .ok (.if_icmp .ge 35, 3) := by decide +kernel
theorem dX12_whets_41 : decode cX12_whets 41 = .ok (.aload_n 0, 1) := by decide +kernel
theorem dX12_whets_42 : decode cX12_whets 42 = .ok (.iload_n 1, 1) := by decide +kernel
theorem dX12_whets_43 : decode cX12_whets 43 = .ok (.iload 5, 2) := by decide +kernel
theorem dX12_whets_45 : decode cX12_whets 45 = .ok (.invokevirtual 377, 3) := by decide +kernel
theorem dX12_whets_48 : decode cX12_whets 48 = .ok (.istore 6, 2) := by decide +kernel
theorem dX12_whets_50 : decode cX12_whets 50 = .ok (.iload 6, 2) := by decide +kernel
theorem dX12_whets_52 : decode cX12_whets 52 = .ok (.iload 4, 2) := by decide +kernel
theorem dX12_whets_54 : decode cX12_whets 54 = .ok (.if_icmp .gt 6, 3) := by decide +kernel
theorem dX12_whets_57 : decode cX12_whets 57 = .ok (.goto 10, 3) := by decide +kernel
theorem dX12_whets_60 : decode cX12_whets 60 = .ok (.iload 5, 2) := by decide +kernel
theorem dX12_whets_62 : decode cX12_whets 62 = .ok (.istore_n 3, 1) := by decide +kernel
theorem dX12_whets_63 : decode cX12_whets 63 = .ok (.iload 6, 2) := by decide +kernel
theorem dX12_whets_65 : decode cX12_whets 65 = .ok (.istore 4, 2) := by decide +kernel
theorem dX12_whets_67 : decode cX12_whets 67 = .ok (.iinc 5 1, 3) := by decide +kernel
theorem dX12_whets_70 : decode cX12_whets 70 = .ok (.goto (-36), 3) := by decide +kernel
theorem dX12_whets_73 : decode cX12_whets 73 = .ok (.iload_n 2, 1) := by decide +kernel
theorem dX12_whets_74 : decode cX12_whets 74 = .ok (.ifCond .ne 7, 3) := by decide +kernel
theorem dX12_whets_77 : decode cX12_whets 77 = .ok (.iload_n 3, 1) := by decide +kernel
theorem dX12_whets_78 : decode cX12_whets 78 = .ok (.goto 5, 3) := by decide +kernel
theorem dX12_whets_81 : decode cX12_whets 81 = .ok (.iload 4, 2) := by decide +kernel
theorem dX12_whets_83 : decode cX12_whets 83 = .ok (.ireturn, 1) := by decide +kernel
set_option maxRecDepth 20000 in
theorem ggX12_apart_X12_in : GoodIn wsX12_apart wsX12_in := goodIn_s _ [(6, 1)] rfl (by decide +kernel)
set_option maxRecDepth 20000 in
theorem gX12_apart_X12_in : GoodIn wsX12_apart (wsV RX12 239 RX12 yX12_in wsX12_in) := goodIn_app (goodIn_of _ (by decide +kernel)) ggX12_apart_X12_in
set_option maxRecDepth 20000 in
theorem ggX12_apart_X12_allBehind : GoodIn wsX12_apart wsX12_allBehind := goodIn_s _ [(10, 4), (5, 1), (14, 79), (1, 1), (93, 96)] rfl (by decide +kernel)
set_option maxRecDepth 20000 in
theorem gX12_apart_X12_allBehind : GoodIn wsX12_apart (wsV RX12 380 RX12 yX12_allBehind wsX12_allBehind) := goodIn_app (goodIn_of _ (by decide +kernel)) ggX12_apart_X12_allBehind
theorem dX12_apart_0 : decode cX12_apart 0 = .ok (.aload_n 0, 1) := by decide +kernel
theorem dX12_apart_1 : decode cX12_apart 1 = .ok (.iload_n 2, 1) := by decide +kernel
theorem dX12_apart_2 : decode cX12_apart 2 = .ok (.iconst 0, 1) := by decide +kernel
theorem dX12_apart_3 : decode cX12_apart 3 = .ok (.iconst 1, 1) := by decide +kernel
theorem dX12_apart_4 : decode cX12_apart 4 = .ok (.invokevirtual 239, 3) := by decide +kernel
theorem dX12_apart_7 : decode cX12_apart 7 = .ok (.ifCond .ne 5, 3) := by decide +kernel
theorem dX12_apart_10 : decode cX12_apart 10 = .ok (.iconst (-1), 1) := by decide +kernel
theorem dX12_apart_11 : decode cX12_apart 11 = .ok (.ireturn, 1) := by decide +kernel
theorem dX12_apart_12 : decode cX12_apart 12 = .ok (.aload_n 0, 1) := by decide +kernel
theorem dX12_apart_13 : decode cX12_apart 13 = .ok (.iload_n 1, 1) := by decide +kernel
theorem dX12_apart_14 : decode cX12_apart 14 = .ok (.iconst 1, 1) := by decide +kernel
theorem dX12_apart_15 : decode cX12_apart 15 = .ok (.bipush 60, 2) := by decide +kernel
theorem dX12_apart_17 : decode cX12_apart 17 = .ok (.invokevirtual 239, 3) := by decide +kernel
theorem dX12_apart_20 : decode cX12_apart 20 = .ok (.ifCond .ne 6, 3) := by decide +kernel
theorem dX12_apart_23 : decode cX12_apart 23 = .ok (.bipush (-2), 2) := by decide +kernel
theorem dX12_apart_25 : decode cX12_apart 25 = .ok (.ireturn, 1) := by decide +kernel
theorem dX12_apart_26 : decode cX12_apart 26 = .ok (.iconst 0, 1) := by decide +kernel
theorem dX12_apart_27 : decode cX12_apart 27 = .ok (.istore_n 3, 1) := by decide +kernel
theorem dX12_apart_28 : decode cX12_apart 28 = .ok (.iconst (-1), 1) := by decide +kernel
theorem dX12_apart_29 : decode cX12_apart 29 = .ok (.istore 4, 2) := by decide +kernel
theorem dX12_apart_31 : decode cX12_apart 31 = .ok (.iconst 0, 1) := by decide +kernel
theorem dX12_apart_32 : decode cX12_apart 32 = .ok (.istore 5, 2) := by decide +kernel
theorem dX12_apart_34 : decode cX12_apart 34 = .ok (.iload 5, 2) := by decide +kernel
theorem dX12_apart_36 : decode cX12_apart 36 = .ok (.bipush 10, 2) := by decide +kernel
theorem dX12_apart_38 : decode cX12_apart 38 = .ok (.if_icmp .ge 39, 3) := by decide +kernel
theorem dX12_apart_41 : decode cX12_apart 41 = .ok (.aload_n 0, 1) := by decide +kernel
theorem dX12_apart_42 : decode cX12_apart 42 = .ok (.iload 5, 2) := by decide +kernel
theorem dX12_apart_44 : decode cX12_apart 44 = .ok (.putfield 95, 3) := by decide +kernel
theorem dX12_apart_47 : decode cX12_apart 47 = .ok (.aload_n 0, 1) := by decide +kernel
theorem dX12_apart_48 : decode cX12_apart 48 = .ok (.iload_n 1, 1) := by decide +kernel
theorem dX12_apart_49 : decode cX12_apart 49 = .ok (.invokevirtual 380, 3) := by decide +kernel
theorem dX12_apart_52 : decode cX12_apart 52 = .ok (.istore 6, 2) := by decide +kernel
theorem dX12_apart_54 : decode cX12_apart 54 = .ok (.iload 6, 2) := by decide +kernel
theorem dX12_apart_56 : decode cX12_apart 56 = .ok (.iload 4, 2) := by decide +kernel
theorem dX12_apart_58 : decode cX12_apart 58 = .ok (.if_icmp .gt 6, 3) := by decide +kernel
theorem dX12_apart_61 : decode cX12_apart 61 = .ok (.goto 10, 3) := by decide +kernel
theorem dX12_apart_64 : decode cX12_apart 64 = .ok (.iload 5, 2) := by decide +kernel
theorem dX12_apart_66 : decode cX12_apart 66 = .ok (.istore_n 3, 1) := by decide +kernel
theorem dX12_apart_67 : decode cX12_apart 67 = .ok (.iload 6, 2) := by decide +kernel
theorem dX12_apart_69 : decode cX12_apart 69 = .ok (.istore 4, 2) := by decide +kernel
theorem dX12_apart_71 : decode cX12_apart 71 = .ok (.iinc 5 1, 3) := by decide +kernel
theorem dX12_apart_74 : decode cX12_apart 74 = .ok (.goto (-40), 3) := by decide +kernel
theorem dX12_apart_77 : decode cX12_apart 77 = .ok (.aload_n 0, 1) := by decide +kernel
theorem dX12_apart_78 : decode cX12_apart 78 = .ok (.iconst (-1), 1) := by decide +kernel
theorem dX12_apart_79 : decode cX12_apart 79 = .ok (.putfield 95, 3) := by decide +kernel
theorem dX12_apart_82 : decode cX12_apart 82 = .ok (.iload_n 2, 1) := by decide +kernel
theorem dX12_apart_83 : decode cX12_apart 83 = .ok (.ifCond .ne 7, 3) := by decide +kernel
theorem dX12_apart_86 : decode cX12_apart 86 = .ok (.iload_n 3, 1) := by decide +kernel
theorem dX12_apart_87 : decode cX12_apart 87 = .ok (.goto 5, 3) := by decide +kernel
theorem dX12_apart_90 : decode cX12_apart 90 = .ok (.iload 4, 2) := by decide +kernel
theorem dX12_apart_92 : decode cX12_apart 92 = .ok (.ireturn, 1) := by decide +kernel
set_option maxRecDepth 20000 in
theorem ggX12_stop_X12_isMower : GoodIn wsX12_stop wsX12_isMower := goodIn_s _ [(11, 1), (6, 1), (12, 3), (10, 1), (15, 1), (117, 75)] rfl (by decide +kernel)
set_option maxRecDepth 20000 in
theorem gX12_stop_X12_isMower : GoodIn wsX12_stop (wsV RX12 243 RX12 yX12_isMower wsX12_isMower) := goodIn_app (goodIn_of _ (by decide +kernel)) ggX12_stop_X12_isMower
set_option maxRecDepth 20000 in
theorem ggX12_stop_X12_in : GoodIn wsX12_stop wsX12_in := goodIn_s _ [(15, 1)] rfl (by decide +kernel)
set_option maxRecDepth 20000 in
theorem gX12_stop_X12_in : GoodIn wsX12_stop (wsV RX12 239 RX12 yX12_in wsX12_in) := goodIn_app (goodIn_of _ (by decide +kernel)) ggX12_stop_X12_in
set_option maxRecDepth 20000 in
theorem ggX12_stop_X12_save : GoodIn wsX12_stop wsX12_save := goodIn_s _ [(19, 4), (4, 1), (23, 5), (5, 1), (28, 1), (117, 75)] rfl (by decide +kernel)
set_option maxRecDepth 20000 in
theorem gX12_stop_X12_save : GoodIn wsX12_stop (wsV RX12 353 RX12 yX12_save wsX12_save) := goodIn_app (goodIn_of _ (by decide +kernel)) ggX12_stop_X12_save
set_option maxRecDepth 20000 in
theorem ggX12_stop_X12_goMinutes : GoodIn wsX12_stop wsX12_goMinutes := goodIn_s _ [(32, 4), (10, 1), (36, 4), (28, 1), (20, 1), (40, 4), (24, 1), (44, 30), (26, 1), (74, 18), (4, 1), (92, 13), (5, 1), (105, 4), (117, 75)] rfl (by decide +kernel)
set_option maxRecDepth 20000 in
theorem gX12_stop_X12_goMinutes : GoodIn wsX12_stop (wsV RX12 356 RX12 yX12_goMinutes wsX12_goMinutes) := goodIn_app (goodIn_of _ (by decide +kernel)) ggX12_stop_X12_goMinutes
set_option maxRecDepth 20000 in
theorem ggX12_stop_X12_all : GoodIn wsX12_stop wsX12_all := goodIn_s _ [(112, 1), (6, 1), (4, 1), (117, 75)] rfl (by decide +kernel)
set_option maxRecDepth 20000 in
theorem gX12_stop_X12_all : GoodIn wsX12_stop (wsV RX12 359 RX12 yX12_all wsX12_all) := goodIn_app (goodIn_of _ (by decide +kernel)) ggX12_stop_X12_all
set_option maxRecDepth 20000 in
theorem ggX12_stop_X12_putBack : GoodIn wsX12_stop wsX12_putBack := goodIn_s _ [(116, 1), (21, 1), (20, 1), (4, 1), (22, 1), (24, 1), (23, 1), (26, 1), (25, 1), (5, 1), (27, 1), (117, 75)] rfl (by decide +kernel)
set_option maxRecDepth 20000 in
theorem gX12_stop_X12_putBack : GoodIn wsX12_stop (wsV RX12 362 RX12 yX12_putBack wsX12_putBack) := goodIn_app (goodIn_of _ (by decide +kernel)) ggX12_stop_X12_putBack
theorem dX12_stop_0 : decode cX12_stop 0 = .ok (.aload_n 0, 1) := by decide +kernel
theorem dX12_stop_1 : decode cX12_stop 1 = .ok (.iload_n 1, 1) := by decide +kernel
theorem dX12_stop_2 : decode cX12_stop 2 = .ok (.invokevirtual 243, 3) := by decide +kernel
theorem dX12_stop_5 : decode cX12_stop 5 = .ok (.ifCond .eq 14, 3) := by decide +kernel
theorem dX12_stop_8 : decode cX12_stop 8 = .ok (.aload_n 0, 1) := by decide +kernel
theorem dX12_stop_9 : decode cX12_stop 9 = .ok (.iload 4, 2) := by decide +kernel
theorem dX12_stop_11 : decode cX12_stop 11 = .ok (.iconst 0, 1) := by decide +kernel
theorem dX12_stop_12 : decode cX12_stop 12 = .ok (.iconst 1, 1) := by decide +kernel
theorem dX12_stop_13 : decode cX12_stop 13 = .ok (.invokevirtual 239, 3) := by decide +kernel
theorem dX12_stop_16 : decode cX12_stop 16 = .ok (.ifCond .ne 7, 3) := by decide +kernel
theorem dX12_stop_19 : decode cX12_stop 19 = .ok (.ldc_w 383, 3) := by decide +kernel
theorem dX12_stop_22 : decode cX12_stop 22 = .ok (.ireturn, 1) := by decide +kernel
theorem dX12_stop_23 : decode cX12_stop 23 = .ok (.aload_n 0, 1) := by decide +kernel
theorem dX12_stop_24 : decode cX12_stop 24 = .ok (.iload_n 2, 1) := by decide +kernel
theorem dX12_stop_25 : decode cX12_stop 25 = .ok (.iconst 1, 1) := by decide +kernel
theorem dX12_stop_26 : decode cX12_stop 26 = .ok (.bipush 20, 2) := by decide +kernel
theorem dX12_stop_28 : decode cX12_stop 28 = .ok (.invokevirtual 239, 3) := by decide +kernel
theorem dX12_stop_31 : decode cX12_stop 31 = .ok (.ifCond .eq 14, 3) := by decide +kernel
theorem dX12_stop_34 : decode cX12_stop 34 = .ok (.aload_n 0, 1) := by decide +kernel
theorem dX12_stop_35 : decode cX12_stop 35 = .ok (.iload_n 3, 1) := by decide +kernel
theorem dX12_stop_36 : decode cX12_stop 36 = .ok (.iconst 1, 1) := by decide +kernel
theorem dX12_stop_37 : decode cX12_stop 37 = .ok (.bipush 60, 2) := by decide +kernel
theorem dX12_stop_39 : decode cX12_stop 39 = .ok (.invokevirtual 239, 3) := by decide +kernel
theorem dX12_stop_42 : decode cX12_stop 42 = .ok (.ifCond .ne 7, 3) := by decide +kernel
theorem dX12_stop_45 : decode cX12_stop 45 = .ok (.ldc_w 384, 3) := by decide +kernel
theorem dX12_stop_48 : decode cX12_stop 48 = .ok (.ireturn, 1) := by decide +kernel
theorem dX12_stop_49 : decode cX12_stop 49 = .ok (.aload_n 0, 1) := by decide +kernel
theorem dX12_stop_50 : decode cX12_stop 50 = .ok (.invokevirtual 353, 3) := by decide +kernel
theorem dX12_stop_53 : decode cX12_stop 53 = .ok (.aload_n 0, 1) := by decide +kernel
theorem dX12_stop_54 : decode cX12_stop 54 = .ok (.iload_n 3, 1) := by decide +kernel
theorem dX12_stop_55 : decode cX12_stop 55 = .ok (.invokevirtual 356, 3) := by decide +kernel
theorem dX12_stop_58 : decode cX12_stop 58 = .ok (.iconst 0, 1) := by decide +kernel
theorem dX12_stop_59 : decode cX12_stop 59 = .ok (.istore 5, 2) := by decide +kernel
theorem dX12_stop_61 : decode cX12_stop 61 = .ok (.iload 5, 2) := by decide +kernel
theorem dX12_stop_63 : decode cX12_stop 63 = .ok (.bipush 6, 2) := by decide +kernel
theorem dX12_stop_65 : decode cX12_stop 65 = .ok (.if_icmp .ge 23, 3) := by decide +kernel
theorem dX12_stop_68 : decode cX12_stop 68 = .ok (.aload_n 0, 1) := by decide +kernel
theorem dX12_stop_69 : decode cX12_stop 69 = .ok (.getfield 132, 3) := by decide +kernel
theorem dX12_stop_72 : decode cX12_stop 72 = .ok (.iload 5, 2) := by decide +kernel
theorem dX12_stop_74 : decode cX12_stop 74 = .ok (.aload_n 0, 1) := by decide +kernel
theorem dX12_stop_75 : decode cX12_stop 75 = .ok (.getfield 26, 3) := by decide +kernel
theorem dX12_stop_78 : decode cX12_stop 78 = .ok (.iload 5, 2) := by decide +kernel
theorem dX12_stop_80 : decode cX12_stop 80 = .ok (.iaload, 1) := by decide +kernel
theorem dX12_stop_81 : decode cX12_stop 81 = .ok (.iastore, 1) := by decide +kernel
theorem dX12_stop_82 : decode cX12_stop 82 = .ok (.iinc 5 1, 3) := by decide +kernel
theorem dX12_stop_85 : decode cX12_stop 85 = .ok (.goto (-24), 3) := by decide +kernel
theorem dX12_stop_88 : decode cX12_stop 88 = .ok (.aload_n 0, 1) := by decide +kernel
theorem dX12_stop_89 : decode cX12_stop 89 = .ok (.invokevirtual 359, 3) := by decide +kernel
theorem dX12_stop_92 : decode cX12_stop 92 = .ok (.istore 5, 2) := by decide +kernel
theorem dX12_stop_94 : decode cX12_stop 94 = .ok (.aload_n 0, 1) := by decide +kernel
theorem dX12_stop_95 : decode cX12_stop 95 = .ok (.invokevirtual 362, 3) := by decide +kernel
theorem dX12_stop_98 : decode cX12_stop 98 = .ok (.aload_n 0, 1) := by decide +kernel
theorem dX12_stop_99 : decode cX12_stop 99 = .ok (.invokevirtual 353, 3) := by decide +kernel
theorem dX12_stop_102 : decode cX12_stop 102 = .ok (.aload_n 0, 1) := by decide +kernel
theorem dX12_stop_103 : decode cX12_stop 103 = .ok (.getfield 35, 3) := by decide +kernel
theorem dX12_stop_106 : decode cX12_stop 106 = .ok (.iload_n 1, 1) := by decide +kernel
theorem dX12_stop_107 : decode cX12_stop 107 = .ok (.dup2, 1) := by decide +kernel
theorem dX12_stop_108 : decode cX12_stop 108 = .ok (.iaload, 1) := by decide +kernel
theorem dX12_stop_109 : decode cX12_stop 109 = .ok (.iload_n 2, 1) := by decide +kernel
theorem dX12_stop_110 : decode cX12_stop 110 = .ok (.iadd, 1) := by decide +kernel
theorem dX12_stop_111 : decode cX12_stop 111 = .ok (.iastore, 1) := by decide +kernel
theorem dX12_stop_112 : decode cX12_stop 112 = .ok (.aload_n 0, 1) := by decide +kernel
theorem dX12_stop_113 : decode cX12_stop 113 = .ok (.iload_n 3, 1) := by decide +kernel
theorem dX12_stop_114 : decode cX12_stop 114 = .ok (.invokevirtual 356, 3) := by decide +kernel
theorem dX12_stop_117 : decode cX12_stop 117 = .ok (.iconst 0, 1) := by decide +kernel
theorem dX12_stop_118 : decode cX12_stop 118 = .ok (.istore 6, 2) := by decide +kernel
theorem dX12_stop_120 : decode cX12_stop 120 = .ok (.iconst 0, 1) := by decide +kernel
theorem dX12_stop_121 : decode cX12_stop 121 = .ok (.istore 7, 2) := by decide +kernel
theorem dX12_stop_123 : decode cX12_stop 123 = .ok (.iload 7, 2) := by decide +kernel
theorem dX12_stop_125 : decode cX12_stop 125 = .ok (.aload_n 0, 1) := by decide +kernel
theorem dX12_stop_126 : decode cX12_stop 126 = .ok (.getfield 7, 3) := by decide +kernel
theorem dX12_stop_129 : decode cX12_stop 129 = .ok (.if_icmp .ge 45, 3) := by decide +kernel
theorem dX12_stop_132 : decode cX12_stop 132 = .ok (.iload 6, 2) := by decide +kernel
theorem dX12_stop_134 : decode cX12_stop 134 = .ok (.iload 7, 2) := by decide +kernel
theorem dX12_stop_136 : decode cX12_stop 136 = .ok (.iload_n 1, 1) := by decide +kernel
theorem dX12_stop_137 : decode cX12_stop 137 = .ok (.if_icmp .eq 27, 3) := by decide +kernel
theorem dX12_stop_140 : decode cX12_stop 140 = .ok (.aload_n 0, 1) := by decide +kernel
theorem dX12_stop_141 : decode cX12_stop 141 = .ok (.getfield 26, 3) := by decide +kernel
theorem dX12_stop_144 : decode cX12_stop 144 = .ok (.iload 7, 2) := by decide +kernel
theorem dX12_stop_146 : decode cX12_stop 146 = .ok (.iaload, 1) := by decide +kernel
theorem dX12_stop_147 : decode cX12_stop 147 = .ok (.aload_n 0, 1) := by decide +kernel
theorem dX12_stop_148 : decode cX12_stop 148 = .ok (.getfield 132, 3) := by decide +kernel
theorem dX12_stop_151 : decode cX12_stop 151 = .ok (.iload 7, 2) := by decide +kernel
theorem dX12_stop_153 : decode cX12_stop 153 = .ok (.iaload, 1) := by decide +kernel
theorem dX12_stop_154 : decode cX12_stop 154 = .ok (.if_icmp .ge 10, 3) := by decide +kernel
theorem dX12_stop_157 : decode cX12_stop 157 = .ok (.iconst 1, 1) := by decide +kernel
theorem dX12_stop_158 : decode cX12_stop 158 = .ok (.iload 7, 2) := by decide +kernel
theorem dX12_stop_160 : decode cX12_stop 160 = .ok (.ishl, 1) := by decide +kernel
theorem dX12_stop_161 : decode cX12_stop 161 = .ok (.goto 4, 3) := by decide +kernel
theorem dX12_stop_164 : decode cX12_stop 164 = .ok (.iconst 0, 1) := by decide +kernel
theorem dX12_stop_165 : decode cX12_stop 165 = .ok (.ior, 1) := by decide +kernel
theorem dX12_stop_166 : decode cX12_stop 166 = .ok (.istore 6, 2) := by decide +kernel
theorem dX12_stop_168 : decode cX12_stop 168 = .ok (.iinc 7 1, 3) := by decide +kernel
theorem dX12_stop_171 : decode cX12_stop 171 = .ok (.goto (-48), 3) := by decide +kernel
theorem dX12_stop_174 : decode cX12_stop 174 = .ok (.aload_n 0, 1) := by decide +kernel
theorem dX12_stop_175 : decode cX12_stop 175 = .ok (.invokevirtual 359, 3) := by decide +kernel
theorem dX12_stop_178 : decode cX12_stop 178 = .ok (.istore 7, 2) := by decide +kernel
theorem dX12_stop_180 : decode cX12_stop 180 = .ok (.aload_n 0, 1) := by decide +kernel
theorem dX12_stop_181 : decode cX12_stop 181 = .ok (.invokevirtual 362, 3) := by decide +kernel
theorem dX12_stop_184 : decode cX12_stop 184 = .ok (.iload 4, 2) := by decide +kernel
theorem dX12_stop_186 : decode cX12_stop 186 = .ok (.ifCond .ne 11, 3) := by decide +kernel
theorem dX12_stop_189 : decode cX12_stop 189 = .ok (.iload 5, 2) := by decide +kernel
theorem dX12_stop_191 : decode cX12_stop 191 = .ok (.iload 7, 2) := by decide +kernel
theorem dX12_stop_193 : decode cX12_stop 193 = .ok (.isub, 1) := by decide +kernel
theorem dX12_stop_194 : decode cX12_stop 194 = .ok (.goto 5, 3) := by decide +kernel
theorem dX12_stop_197 : decode cX12_stop 197 = .ok (.iload 6, 2) := by decide +kernel
theorem dX12_stop_199 : decode cX12_stop 199 = .ok (.ireturn, 1) := by decide +kernel
set_option maxRecDepth 20000 in
theorem ggX12_aloneBehind_X12_save : GoodIn wsX12_aloneBehind wsX12_save := goodIn_s _ [(10, 4), (4, 1), (14, 7), (103, 75)] rfl (by decide +kernel)
set_option maxRecDepth 20000 in
theorem gX12_aloneBehind_X12_save : GoodIn wsX12_aloneBehind (wsV RX12 353 RX12 yX12_save wsX12_save) := goodIn_app (goodIn_of _ (by decide +kernel)) ggX12_aloneBehind_X12_save
set_option maxRecDepth 20000 in
theorem ggX12_aloneBehind_X12_goMinutes : GoodIn wsX12_aloneBehind wsX12_goMinutes := goodIn_s _ [(24, 4), (9, 1), (28, 1), (3, 1), (29, 1), (2, 1), (20, 1), (11, 1), (30, 4), (15, 1), (34, 30), (17, 1), (64, 18), (4, 1), (82, 13), (19, 1), (95, 4), (103, 75)] rfl (by decide +kernel)
set_option maxRecDepth 20000 in
theorem gX12_aloneBehind_X12_goMinutes : GoodIn wsX12_aloneBehind (wsV RX12 356 RX12 yX12_goMinutes wsX12_goMinutes) := goodIn_app (goodIn_of _ (by decide +kernel)) ggX12_aloneBehind_X12_goMinutes
set_option maxRecDepth 20000 in
theorem ggX12_aloneBehind_X12_putBack : GoodIn wsX12_aloneBehind wsX12_putBack := goodIn_s _ [(102, 1), (12, 1), (11, 1), (4, 1), (13, 1), (15, 1), (14, 1), (17, 1), (16, 1), (19, 1), (18, 1), (103, 75)] rfl (by decide +kernel)
set_option maxRecDepth 20000 in
theorem gX12_aloneBehind_X12_putBack : GoodIn wsX12_aloneBehind (wsV RX12 362 RX12 yX12_putBack wsX12_putBack) := goodIn_app (goodIn_of _ (by decide +kernel)) ggX12_aloneBehind_X12_putBack
theorem dX12_aloneBehind_0 : decode cX12_aloneBehind 0 = .ok (.aload_n 0, 1) := by decide +kernel
theorem dX12_aloneBehind_1 : decode cX12_aloneBehind 1 = .ok (.invokevirtual 353, 3) := by decide +kernel
theorem dX12_aloneBehind_4 : decode cX12_aloneBehind 4 = .ok (.iconst 0, 1) := by decide +kernel
theorem dX12_aloneBehind_5 : decode cX12_aloneBehind 5 = .ok (.istore_n 3, 1) := by decide +kernel
theorem dX12_aloneBehind_6 : decode cX12_aloneBehind 6 = .ok (.iload_n 3, 1) := by decide +kernel
theorem dX12_aloneBehind_7 : decode cX12_aloneBehind 7 = .ok (.bipush 6, 2) := by decide +kernel
theorem dX12_aloneBehind_9 : decode cX12_aloneBehind 9 = .ok (.if_icmp .ge 21, 3) := by decide +kernel
theorem dX12_aloneBehind_12 : decode cX12_aloneBehind 12 = .ok (.aload_n 0, 1) := by decide +kernel
theorem dX12_aloneBehind_13 : decode cX12_aloneBehind 13 = .ok (.getfield 126, 3) := by decide +kernel
theorem dX12_aloneBehind_16 : decode cX12_aloneBehind 16 = .ok (.iload_n 3, 1) := by decide +kernel
theorem dX12_aloneBehind_17 : decode cX12_aloneBehind 17 = .ok (.aload_n 0, 1) := by decide +kernel
theorem dX12_aloneBehind_18 : decode cX12_aloneBehind 18 = .ok (.getfield 41, 3) := by decide +kernel
theorem dX12_aloneBehind_21 : decode cX12_aloneBehind 21 = .ok (.iload_n 3, 1) := by decide +kernel
theorem dX12_aloneBehind_22 : decode cX12_aloneBehind 22 = .ok (.iaload, 1) := by decide +kernel
theorem dX12_aloneBehind_23 : decode cX12_aloneBehind 23 = .ok (.iastore, 1) := by decide +kernel
theorem dX12_aloneBehind_24 : decode cX12_aloneBehind 24 = .ok (.iinc 3 1, 3) := by decide +kernel
theorem dX12_aloneBehind_27 : decode cX12_aloneBehind 27 = .ok (.goto (-21), 3) := by decide +kernel
theorem dX12_aloneBehind_30 : decode cX12_aloneBehind 30 = .ok (.aload_n 0, 1) := by decide +kernel
theorem dX12_aloneBehind_31 : decode cX12_aloneBehind 31 = .ok (.getfield 41, 3) := by decide +kernel
theorem dX12_aloneBehind_34 : decode cX12_aloneBehind 34 = .ok (.iconst 0, 1) := by decide +kernel
theorem dX12_aloneBehind_35 : decode cX12_aloneBehind 35 = .ok (.iload_n 1, 1) := by decide +kernel
theorem dX12_aloneBehind_36 : decode cX12_aloneBehind 36 = .ok (.iastore, 1) := by decide +kernel
theorem dX12_aloneBehind_37 : decode cX12_aloneBehind 37 = .ok (.aload_n 0, 1) := by decide +kernel
theorem dX12_aloneBehind_38 : decode cX12_aloneBehind 38 = .ok (.iconst 1, 1) := by decide +kernel
theorem dX12_aloneBehind_39 : decode cX12_aloneBehind 39 = .ok (.putfield 16, 3) := by decide +kernel
theorem dX12_aloneBehind_42 : decode cX12_aloneBehind 42 = .ok (.aload_n 0, 1) := by decide +kernel
theorem dX12_aloneBehind_43 : decode cX12_aloneBehind 43 = .ok (.iload_n 2, 1) := by decide +kernel
theorem dX12_aloneBehind_44 : decode cX12_aloneBehind 44 = .ok (.invokevirtual 356, 3) := by decide +kernel
theorem dX12_aloneBehind_47 : decode cX12_aloneBehind 47 = .ok (.aload_n 0, 1) := by decide +kernel
theorem dX12_aloneBehind_48 : decode cX12_aloneBehind 48 = .ok (.getfield 26, 3) := by decide +kernel
theorem dX12_aloneBehind_51 : decode cX12_aloneBehind 51 = .ok (.iload_n 1, 1) := by decide +kernel
theorem dX12_aloneBehind_52 : decode cX12_aloneBehind 52 = .ok (.iaload, 1) := by decide +kernel
theorem dX12_aloneBehind_53 : decode cX12_aloneBehind 53 = .ok (.istore_n 3, 1) := by decide +kernel
theorem dX12_aloneBehind_54 : decode cX12_aloneBehind 54 = .ok (.iconst 0, 1) := by decide +kernel
theorem dX12_aloneBehind_55 : decode cX12_aloneBehind 55 = .ok (.istore 4, 2) := by decide +kernel
theorem dX12_aloneBehind_57 : decode cX12_aloneBehind 57 = .ok (.iload 4, 2) := by decide +kernel
theorem dX12_aloneBehind_59 : decode cX12_aloneBehind 59 = .ok (.bipush 6, 2) := by decide +kernel
theorem dX12_aloneBehind_61 : decode cX12_aloneBehind 61 = .ok (.if_icmp .ge 23, 3) := by decide +kernel
theorem dX12_aloneBehind_64 : decode cX12_aloneBehind 64 = .ok (.aload_n 0, 1) := by decide +kernel
theorem dX12_aloneBehind_65 : decode cX12_aloneBehind 65 = .ok (.getfield 41, 3) := by decide +kernel
theorem dX12_aloneBehind_68 : decode cX12_aloneBehind 68 = .ok (.iload 4, 2) := by decide +kernel
theorem dX12_aloneBehind_70 : decode cX12_aloneBehind 70 = .ok (.aload_n 0, 1) := by decide +kernel
theorem dX12_aloneBehind_71 : decode cX12_aloneBehind 71 = .ok (.getfield 126, 3) := by decide +kernel
theorem dX12_aloneBehind_74 : decode cX12_aloneBehind 74 = .ok (.iload 4, 2) := by decide +kernel
theorem dX12_aloneBehind_76 : decode cX12_aloneBehind 76 = .ok (.iaload, 1) := by decide +kernel
theorem dX12_aloneBehind_77 : decode cX12_aloneBehind 77 = .ok (.iastore, 1) := by decide +kernel
theorem dX12_aloneBehind_78 : decode cX12_aloneBehind 78 = .ok (.iinc 4 1, 3) := by decide +kernel
theorem dX12_aloneBehind_81 : decode cX12_aloneBehind 81 = .ok (.goto (-24), 3) := by decide +kernel
theorem dX12_aloneBehind_84 : decode cX12_aloneBehind 84 = .ok (.aload_n 0, 1) := by decide +kernel
theorem dX12_aloneBehind_85 : decode cX12_aloneBehind 85 = .ok (.aload_n 0, 1) := by decide +kernel
theorem dX12_aloneBehind_86 : decode cX12_aloneBehind 86 = .ok (.getfield 7, 3) := by decide +kernel
theorem dX12_aloneBehind_89 : decode cX12_aloneBehind 89 = .ok (.putfield 16, 3) := by decide +kernel
theorem dX12_aloneBehind_92 : decode cX12_aloneBehind 92 = .ok (.aload_n 0, 1) := by decide +kernel
theorem dX12_aloneBehind_93 : decode cX12_aloneBehind 93 = .ok (.invokevirtual 362, 3) := by decide +kernel
theorem dX12_aloneBehind_96 : decode cX12_aloneBehind 96 = .ok (.iload_n 3, 1) := by decide +kernel
theorem dX12_aloneBehind_97 : decode cX12_aloneBehind 97 = .ok (.ireturn, 1) := by decide +kernel
set_option maxRecDepth 20000 in
theorem ggX12_alone_X12_in : GoodIn wsX12_alone wsX12_in := goodIn_s _ [(7, 1)] rfl (by decide +kernel)
set_option maxRecDepth 20000 in
theorem gX12_alone_X12_in : GoodIn wsX12_alone (wsV RX12 239 RX12 yX12_in wsX12_in) := goodIn_app (goodIn_of _ (by decide +kernel)) ggX12_alone_X12_in
set_option maxRecDepth 20000 in
theorem ggX12_alone_X12_allBehind : GoodIn wsX12_alone wsX12_allBehind := goodIn_s _ [(11, 4), (6, 1), (15, 96), (2, 1), (111, 4), (120, 75)] rfl (by decide +kernel)
set_option maxRecDepth 20000 in
theorem gX12_alone_X12_allBehind : GoodIn wsX12_alone (wsV RX12 380 RX12 yX12_allBehind wsX12_allBehind) := goodIn_app (goodIn_of _ (by decide +kernel)) ggX12_alone_X12_allBehind
set_option maxRecDepth 20000 in
theorem ggX12_alone_X12_aloneBehind : GoodIn wsX12_alone wsX12_aloneBehind := goodIn_s _ [(118, 2), (37, 1), (35, 1), (19, 1), (2, 1), (12, 3), (6, 1), (15, 4), (20, 15), (36, 1), (38, 69), (111, 4), (120, 75)] rfl (by decide +kernel)
set_option maxRecDepth 20000 in
theorem gX12_alone_X12_aloneBehind : GoodIn wsX12_alone (wsV RX12 385 RX12 yX12_aloneBehind wsX12_aloneBehind) := goodIn_app (goodIn_of _ (by decide +kernel)) ggX12_alone_X12_aloneBehind
theorem dX12_alone_0 : decode cX12_alone 0 = .ok (.aload_n 0, 1) := by decide +kernel
theorem dX12_alone_1 : decode cX12_alone 1 = .ok (.iload_n 1, 1) := by decide +kernel
theorem dX12_alone_2 : decode cX12_alone 2 = .ok (.iconst 1, 1) := by decide +kernel
theorem dX12_alone_3 : decode cX12_alone 3 = .ok (.bipush 60, 2) := by decide +kernel
theorem dX12_alone_5 : decode cX12_alone 5 = .ok (.invokevirtual 239, 3) := by decide +kernel
theorem dX12_alone_8 : decode cX12_alone 8 = .ok (.ifCond .ne 7, 3) := by decide +kernel
theorem dX12_alone_11 : decode cX12_alone 11 = .ok (.ldc_w 384, 3) := by decide +kernel
theorem dX12_alone_14 : decode cX12_alone 14 = .ok (.ireturn, 1) := by decide +kernel
theorem dX12_alone_15 : decode cX12_alone 15 = .ok (.aload_n 0, 1) := by decide +kernel
theorem dX12_alone_16 : decode cX12_alone 16 = .ok (.iload_n 1, 1) := by decide +kernel
theorem dX12_alone_17 : decode cX12_alone 17 = .ok (.invokevirtual 380, 3) := by decide +kernel
theorem dX12_alone_20 : decode cX12_alone 20 = .ok (.istore_n 2, 1) := by decide +kernel
theorem dX12_alone_21 : decode cX12_alone 21 = .ok (.iconst 0, 1) := by decide +kernel
theorem dX12_alone_22 : decode cX12_alone 22 = .ok (.istore_n 3, 1) := by decide +kernel
theorem dX12_alone_23 : decode cX12_alone 23 = .ok (.iload_n 3, 1) := by decide +kernel
theorem dX12_alone_24 : decode cX12_alone 24 = .ok (.aload_n 0, 1) := by decide +kernel
theorem dX12_alone_25 : decode cX12_alone 25 = .ok (.getfield 7, 3) := by decide +kernel
theorem dX12_alone_28 : decode cX12_alone 28 = .ok (.if_icmp .ge 18, 3) := by decide +kernel
theorem dX12_alone_31 : decode cX12_alone 31 = .ok (.iload_n 2, 1) := by decide +kernel
theorem dX12_alone_32 : decode cX12_alone 32 = .ok (.aload_n 0, 1) := by decide +kernel
theorem dX12_alone_33 : decode cX12_alone 33 = .ok (.iload_n 3, 1) := by decide +kernel
theorem dX12_alone_34 : decode cX12_alone 34 = .ok (.iload_n 1, 1) := by decide +kernel
theorem dX12_alone_35 : decode cX12_alone 35 = .ok (.invokevirtual 385, 3) := by decide +kernel
theorem dX12_alone_38 : decode cX12_alone 38 = .ok (.isub, 1) := by decide +kernel
theorem dX12_alone_39 : decode cX12_alone 39 = .ok (.istore_n 2, 1) := by decide +kernel
theorem dX12_alone_40 : decode cX12_alone 40 = .ok (.iinc 3 1, 3) := by decide +kernel
theorem dX12_alone_43 : decode cX12_alone 43 = .ok (.goto (-20), 3) := by decide +kernel
theorem dX12_alone_46 : decode cX12_alone 46 = .ok (.iload_n 2, 1) := by decide +kernel
theorem dX12_alone_47 : decode cX12_alone 47 = .ok (.ireturn, 1) := by decide +kernel
set_option maxRecDepth 20000 in
theorem ggX12_allStopped_X12_save : GoodIn wsX12_allStopped wsX12_save := goodIn_s _ [(6, 10), (1, 1), (16, 1), (106, 75)] rfl (by decide +kernel)
set_option maxRecDepth 20000 in
theorem gX12_allStopped_X12_save : GoodIn wsX12_allStopped (wsV RX12 353 RX12 yX12_save wsX12_save) := goodIn_app (goodIn_of _ (by decide +kernel)) ggX12_allStopped_X12_save
set_option maxRecDepth 20000 in
theorem ggX12_allStopped_X12_goMinutes : GoodIn wsX12_allStopped wsX12_goMinutes := goodIn_s _ [(20, 4), (5, 1), (24, 4), (16, 1), (7, 1), (28, 4), (12, 1), (32, 30), (14, 1), (62, 18), (10, 1), (80, 13), (1, 1), (93, 4), (106, 75)] rfl (by decide +kernel)
set_option maxRecDepth 20000 in
theorem gX12_allStopped_X12_goMinutes : GoodIn wsX12_allStopped (wsV RX12 356 RX12 yX12_goMinutes wsX12_goMinutes) := goodIn_app (goodIn_of _ (by decide +kernel)) ggX12_allStopped_X12_goMinutes
set_option maxRecDepth 20000 in
theorem ggX12_allStopped_X12_all : GoodIn wsX12_allStopped wsX12_all := goodIn_s _ [(100, 2), (10, 1), (106, 75)] rfl (by decide +kernel)
set_option maxRecDepth 20000 in
theorem gX12_allStopped_X12_all : GoodIn wsX12_allStopped (wsV RX12 359 RX12 yX12_all wsX12_all) := goodIn_app (goodIn_of _ (by decide +kernel)) ggX12_allStopped_X12_all
set_option maxRecDepth 20000 in
theorem ggX12_allStopped_X12_putBack : GoodIn wsX12_allStopped wsX12_putBack := goodIn_s _ [(105, 1), (8, 1), (7, 1), (10, 1), (9, 1), (12, 1), (11, 1), (14, 1), (13, 1), (1, 1), (15, 1), (106, 75)] rfl (by decide +kernel)
set_option maxRecDepth 20000 in
theorem gX12_allStopped_X12_putBack : GoodIn wsX12_allStopped (wsV RX12 362 RX12 yX12_putBack wsX12_putBack) := goodIn_app (goodIn_of _ (by decide +kernel)) ggX12_allStopped_X12_putBack
theorem dX12_allStopped_0 : decode cX12_allStopped 0 = .ok (.aload_n 0, 1) := by decide +kernel
theorem dX12_allStopped_1 : decode cX12_allStopped 1 = .ok (.invokevirtual 353, 3) := by decide +kernel
theorem dX12_allStopped_4 : decode cX12_allStopped 4 = .ok (.aload_n 0, 1) := by decide +kernel
theorem dX12_allStopped_5 : decode cX12_allStopped 5 = .ok (.getfield 35, 3) := by decide +kernel
theorem dX12_allStopped_8 : decode cX12_allStopped 8 = .ok (.iload_n 1, 1) := by decide +kernel
theorem dX12_allStopped_9 : decode cX12_allStopped 9 = .ok (.dup2, 1) := by decide +kernel
theorem dX12_allStopped_10 : decode cX12_allStopped 10 = .ok (.iaload, 1) := by decide +kernel
theorem dX12_allStopped_11 : decode cX12_allStopped 11 = .ok (.iload_n 2, 1) := by decide +kernel
theorem dX12_allStopped_12 : decode cX12_allStopped 12 = .ok (.iadd, 1) := by decide +kernel
theorem dX12_allStopped_13 : decode cX12_allStopped 13 = .ok (.iastore, 1) := by decide +kernel
theorem dX12_allStopped_14 : decode cX12_allStopped 14 = .ok (.aload_n 0, 1) := by decide +kernel
theorem dX12_allStopped_15 : decode cX12_allStopped 15 = .ok (.iload_n 3, 1) := by decide +kernel
theorem dX12_allStopped_16 : decode cX12_allStopped 16 = .ok (.invokevirtual 356, 3) := by decide +kernel
theorem dX12_allStopped_19 : decode cX12_allStopped 19 = .ok (.aload_n 0, 1) := by decide +kernel
theorem dX12_allStopped_20 : decode cX12_allStopped 20 = .ok (.invokevirtual 359, 3) := by decide +kernel
theorem dX12_allStopped_23 : decode cX12_allStopped 23 = .ok (.istore 4, 2) := by decide +kernel
theorem dX12_allStopped_25 : decode cX12_allStopped 25 = .ok (.aload_n 0, 1) := by decide +kernel
theorem dX12_allStopped_26 : decode cX12_allStopped 26 = .ok (.invokevirtual 362, 3) := by decide +kernel
theorem dX12_allStopped_29 : decode cX12_allStopped 29 = .ok (.iload 4, 2) := by decide +kernel
theorem dX12_allStopped_31 : decode cX12_allStopped 31 = .ok (.ireturn, 1) := by decide +kernel
set_option maxRecDepth 20000 in
theorem ggX12_rest_X12_in : GoodIn wsX12_rest wsX12_in := goodIn_s _ [(6, 1)] rfl (by decide +kernel)
set_option maxRecDepth 20000 in
theorem gX12_rest_X12_in : GoodIn wsX12_rest (wsV RX12 239 RX12 yX12_in wsX12_in) := goodIn_app (goodIn_of _ (by decide +kernel)) ggX12_rest_X12_in
set_option maxRecDepth 20000 in
theorem ggX12_rest_X12_allBehind : GoodIn wsX12_rest wsX12_allBehind := goodIn_s _ [(10, 4), (5, 1), (14, 96), (1, 1), (110, 4), (118, 75)] rfl (by decide +kernel)
set_option maxRecDepth 20000 in
theorem gX12_rest_X12_allBehind : GoodIn wsX12_rest (wsV RX12 380 RX12 yX12_allBehind wsX12_allBehind) := goodIn_app (goodIn_of _ (by decide +kernel)) ggX12_rest_X12_allBehind
set_option maxRecDepth 20000 in
theorem ggX12_rest_X12_allStopped : GoodIn wsX12_rest wsX12_allStopped := goodIn_s _ [(117, 1), (24, 1), (11, 3), (5, 1), (14, 10), (25, 85), (1, 1), (110, 4), (118, 75)] rfl (by decide +kernel)
set_option maxRecDepth 20000 in
theorem gX12_rest_X12_allStopped : GoodIn wsX12_rest (wsV RX12 388 RX12 yX12_allStopped wsX12_allStopped) := goodIn_app (goodIn_of _ (by decide +kernel)) ggX12_rest_X12_allStopped
theorem dX12_rest_0 : decode cX12_rest 0 = .ok (.aload_n 0, 1) := by decide +kernel
theorem dX12_rest_1 : decode cX12_rest 1 = .ok (.iload_n 2, 1) := by decide +kernel
theorem dX12_rest_2 : decode cX12_rest 2 = .ok (.iconst 0, 1) := by decide +kernel
theorem dX12_rest_3 : decode cX12_rest 3 = .ok (.iconst 1, 1) := by decide +kernel
theorem dX12_rest_4 : decode cX12_rest 4 = .ok (.invokevirtual 239, 3) := by decide +kernel
theorem dX12_rest_7 : decode cX12_rest 7 = .ok (.ifCond .ne 5, 3) := by decide +kernel
theorem dX12_rest_10 : decode cX12_rest 10 = .ok (.iconst (-1), 1) := by decide +kernel
theorem dX12_rest_11 : decode cX12_rest 11 = .ok (.ireturn, 1) := by decide +kernel
theorem dX12_rest_12 : decode cX12_rest 12 = .ok (.aload_n 0, 1) := by decide +kernel
theorem dX12_rest_13 : decode cX12_rest 13 = .ok (.iload_n 1, 1) := by decide +kernel
theorem dX12_rest_14 : decode cX12_rest 14 = .ok (.iconst 1, 1) := by decide +kernel
theorem dX12_rest_15 : decode cX12_rest 15 = .ok (.bipush 60, 2) := by decide +kernel
theorem dX12_rest_17 : decode cX12_rest 17 = .ok (.invokevirtual 239, 3) := by decide +kernel
theorem dX12_rest_20 : decode cX12_rest 20 = .ok (.ifCond .ne 6, 3) := by decide +kernel
theorem dX12_rest_23 : decode cX12_rest 23 = .ok (.bipush (-2), 2) := by decide +kernel
theorem dX12_rest_25 : decode cX12_rest 25 = .ok (.ireturn, 1) := by decide +kernel
theorem dX12_rest_26 : decode cX12_rest 26 = .ok (.aload_n 0, 1) := by decide +kernel
theorem dX12_rest_27 : decode cX12_rest 27 = .ok (.iload_n 1, 1) := by decide +kernel
theorem dX12_rest_28 : decode cX12_rest 28 = .ok (.invokevirtual 380, 3) := by decide +kernel
theorem dX12_rest_31 : decode cX12_rest 31 = .ok (.istore_n 3, 1) := by decide +kernel
theorem dX12_rest_32 : decode cX12_rest 32 = .ok (.bipush (-5), 2) := by decide +kernel
theorem dX12_rest_34 : decode cX12_rest 34 = .ok (.istore 4, 2) := by decide +kernel
theorem dX12_rest_36 : decode cX12_rest 36 = .ok (.iconst 0, 1) := by decide +kernel
theorem dX12_rest_37 : decode cX12_rest 37 = .ok (.istore 5, 2) := by decide +kernel
theorem dX12_rest_39 : decode cX12_rest 39 = .ok (.iload 5, 2) := by decide +kernel
theorem dX12_rest_41 : decode cX12_rest 41 = .ok (.aload_n 0, 1) := by decide +kernel
theorem dX12_rest_42 : decode cX12_rest 42 = .ok (.getfield 7, 3) := by decide +kernel
theorem dX12_rest_45 : decode cX12_rest 45 = .ok (.if_icmp .ge 35, 3) := by decide +kernel
theorem dX12_rest_48 : decode cX12_rest 48 = .ok (.aload_n 0, 1) := by decide +kernel
theorem dX12_rest_49 : decode cX12_rest 49 = .ok (.iload 5, 2) := by decide +kernel
theorem dX12_rest_51 : decode cX12_rest 51 = .ok (.iconst 5, 1) := by decide +kernel
theorem dX12_rest_52 : decode cX12_rest 52 = .ok (.iload_n 1, 1) := by decide +kernel
theorem dX12_rest_53 : decode cX12_rest 53 = .ok (.invokevirtual 388, 3) := by decide +kernel
theorem dX12_rest_56 : decode cX12_rest 56 = .ok (.istore 6, 2) := by decide +kernel
theorem dX12_rest_58 : decode cX12_rest 58 = .ok (.iload 6, 2) := by decide +kernel
theorem dX12_rest_60 : decode cX12_rest 60 = .ok (.iload_n 3, 1) := by decide +kernel
theorem dX12_rest_61 : decode cX12_rest 61 = .ok (.if_icmp .gt 6, 3) := by decide +kernel
theorem dX12_rest_64 : decode cX12_rest 64 = .ok (.goto 10, 3) := by decide +kernel
theorem dX12_rest_67 : decode cX12_rest 67 = .ok (.iload 5, 2) := by decide +kernel
theorem dX12_rest_69 : decode cX12_rest 69 = .ok (.istore 4, 2) := by decide +kernel
theorem dX12_rest_71 : decode cX12_rest 71 = .ok (.iload 6, 2) := by decide +kernel
theorem dX12_rest_73 : decode cX12_rest 73 = .ok (.istore_n 3, 1) := by decide +kernel
theorem dX12_rest_74 : decode cX12_rest 74 = .ok (.iinc 5 1, 3) := by decide +kernel
theorem dX12_rest_77 : decode cX12_rest 77 = .ok (.goto (-38), 3) := by decide +kernel
theorem dX12_rest_80 : decode cX12_rest 80 = .ok (.iload 4, 2) := by decide +kernel
theorem dX12_rest_82 : decode cX12_rest 82 = .ok (.ifCond .lt 7, 3) := by decide +kernel
theorem dX12_rest_85 : decode cX12_rest 85 = .ok (.iload_n 2, 1) := by decide +kernel
theorem dX12_rest_86 : decode cX12_rest 86 = .ok (.ifCond .ne 8, 3) := by decide +kernel
theorem dX12_rest_89 : decode cX12_rest 89 = .ok (.iload 4, 2) := by decide +kernel
theorem dX12_rest_91 : decode cX12_rest 91 = .ok (.goto 4, 3) := by decide +kernel
theorem dX12_rest_94 : decode cX12_rest 94 = .ok (.iload_n 3, 1) := by decide +kernel
theorem dX12_rest_95 : decode cX12_rest 95 = .ok (.ireturn, 1) := by decide +kernel
set_option maxRecDepth 20000 in
theorem ggX12_paused_X12_in : GoodIn wsX12_paused wsX12_in := goodIn_s _ [(5, 1)] rfl (by decide +kernel)
set_option maxRecDepth 20000 in
theorem gX12_paused_X12_in : GoodIn wsX12_paused (wsV RX12 239 RX12 yX12_in wsX12_in) := goodIn_app (goodIn_of _ (by decide +kernel)) ggX12_paused_X12_in
set_option maxRecDepth 20000 in
theorem ggX12_paused_X12_save : GoodIn wsX12_paused wsX12_save := goodIn_s _ [(9, 12), (114, 75)] rfl (by decide +kernel)
set_option maxRecDepth 20000 in
theorem gX12_paused_X12_save : GoodIn wsX12_paused (wsV RX12 353 RX12 yX12_save wsX12_save) := goodIn_app (goodIn_of _ (by decide +kernel)) ggX12_paused_X12_save
set_option maxRecDepth 20000 in
theorem ggX12_paused_X12_goMinutes : GoodIn wsX12_paused wsX12_goMinutes := goodIn_s _ [(24, 4), (4, 1), (28, 4), (20, 1), (10, 1), (32, 4), (15, 1), (36, 30), (17, 1), (66, 18), (13, 1), (84, 13), (19, 1), (97, 4), (114, 75)] rfl (by decide +kernel)
set_option maxRecDepth 20000 in
theorem gX12_paused_X12_goMinutes : GoodIn wsX12_paused (wsV RX12 356 RX12 yX12_goMinutes wsX12_goMinutes) := goodIn_app (goodIn_of _ (by decide +kernel)) ggX12_paused_X12_goMinutes
set_option maxRecDepth 20000 in
theorem ggX12_paused_X12_goPause : GoodIn wsX12_paused wsX12_goPause := goodIn_s _ [(104, 2), (17, 1), (19, 1), (10, 1), (66, 3), (4, 1), (69, 1), (114, 75)] rfl (by decide +kernel)
set_option maxRecDepth 20000 in
theorem gX12_paused_X12_goPause : GoodIn wsX12_paused (wsV RX12 350 RX12 yX12_goPause wsX12_goPause) := goodIn_app (goodIn_of _ (by decide +kernel)) ggX12_paused_X12_goPause
set_option maxRecDepth 20000 in
theorem ggX12_paused_X12_all : GoodIn wsX12_paused wsX12_all := goodIn_s _ [(109, 1), (105, 1), (13, 1), (114, 75)] rfl (by decide +kernel)
set_option maxRecDepth 20000 in
theorem gX12_paused_X12_all : GoodIn wsX12_paused (wsV RX12 359 RX12 yX12_all wsX12_all) := goodIn_app (goodIn_of _ (by decide +kernel)) ggX12_paused_X12_all
set_option maxRecDepth 20000 in
theorem ggX12_paused_X12_putBack : GoodIn wsX12_paused wsX12_putBack := goodIn_s _ [(113, 1), (11, 1), (10, 1), (13, 1), (12, 1), (15, 1), (14, 1), (17, 1), (16, 1), (19, 1), (18, 1), (114, 75)] rfl (by decide +kernel)
set_option maxRecDepth 20000 in
theorem gX12_paused_X12_putBack : GoodIn wsX12_paused (wsV RX12 362 RX12 yX12_putBack wsX12_putBack) := goodIn_app (goodIn_of _ (by decide +kernel)) ggX12_paused_X12_putBack
theorem dX12_paused_0 : decode cX12_paused 0 = .ok (.aload_n 0, 1) := by decide +kernel
theorem dX12_paused_1 : decode cX12_paused 1 = .ok (.iload_n 2, 1) := by decide +kernel
theorem dX12_paused_2 : decode cX12_paused 2 = .ok (.iconst 0, 1) := by decide +kernel
theorem dX12_paused_3 : decode cX12_paused 3 = .ok (.iconst 1, 1) := by decide +kernel
theorem dX12_paused_4 : decode cX12_paused 4 = .ok (.invokevirtual 239, 3) := by decide +kernel
theorem dX12_paused_7 : decode cX12_paused 7 = .ok (.ifCond .ne 5, 3) := by decide +kernel
theorem dX12_paused_10 : decode cX12_paused 10 = .ok (.iconst (-1), 1) := by decide +kernel
theorem dX12_paused_11 : decode cX12_paused 11 = .ok (.ireturn, 1) := by decide +kernel
theorem dX12_paused_12 : decode cX12_paused 12 = .ok (.aload_n 0, 1) := by decide +kernel
theorem dX12_paused_13 : decode cX12_paused 13 = .ok (.iload_n 1, 1) := by decide +kernel
theorem dX12_paused_14 : decode cX12_paused 14 = .ok (.iconst 1, 1) := by decide +kernel
theorem dX12_paused_15 : decode cX12_paused 15 = .ok (.bipush 30, 2) := by decide +kernel
theorem dX12_paused_17 : decode cX12_paused 17 = .ok (.invokevirtual 239, 3) := by decide +kernel
theorem dX12_paused_20 : decode cX12_paused 20 = .ok (.ifCond .ne 6, 3) := by decide +kernel
theorem dX12_paused_23 : decode cX12_paused 23 = .ok (.bipush (-2), 2) := by decide +kernel
theorem dX12_paused_25 : decode cX12_paused 25 = .ok (.ireturn, 1) := by decide +kernel
theorem dX12_paused_26 : decode cX12_paused 26 = .ok (.iconst 0, 1) := by decide +kernel
theorem dX12_paused_27 : decode cX12_paused 27 = .ok (.istore_n 3, 1) := by decide +kernel
theorem dX12_paused_28 : decode cX12_paused 28 = .ok (.iconst (-1), 1) := by decide +kernel
theorem dX12_paused_29 : decode cX12_paused 29 = .ok (.istore 4, 2) := by decide +kernel
theorem dX12_paused_31 : decode cX12_paused 31 = .ok (.iconst 0, 1) := by decide +kernel
theorem dX12_paused_32 : decode cX12_paused 32 = .ok (.istore 5, 2) := by decide +kernel
theorem dX12_paused_34 : decode cX12_paused 34 = .ok (.iload 5, 2) := by decide +kernel
theorem dX12_paused_36 : decode cX12_paused 36 = .ok (.iload_n 1, 1) := by decide +kernel
theorem dX12_paused_37 : decode cX12_paused 37 = .ok (.if_icmp .gt 59, 3) := by decide +kernel
theorem dX12_paused_40 : decode cX12_paused 40 = .ok (.aload_n 0, 1) := by decide +kernel
theorem dX12_paused_41 : decode cX12_paused 41 = .ok (.invokevirtual 353, 3) := by decide +kernel
theorem dX12_paused_44 : decode cX12_paused 44 = .ok (.aload_n 0, 1) := by decide +kernel
theorem dX12_paused_45 : decode cX12_paused 45 = .ok (.iload 5, 2) := by decide +kernel
theorem dX12_paused_47 : decode cX12_paused 47 = .ok (.invokevirtual 356, 3) := by decide +kernel
theorem dX12_paused_50 : decode cX12_paused 50 = .ok (.aload_n 0, 1) := by decide +kernel
theorem dX12_paused_51 : decode cX12_paused 51 = .ok (.iconst 5, 1) := by decide +kernel
theorem dX12_paused_52 : decode cX12_paused 52 = .ok (.invokevirtual 350, 3) := by decide +kernel
theorem dX12_paused_55 : decode cX12_paused 55 = .ok (.aload_n 0, 1) := by decide +kernel
theorem dX12_paused_56 : decode cX12_paused 56 = .ok (.iload_n 1, 1) := by decide +kernel
theorem dX12_paused_57 : decode cX12_paused 57 = .ok (.iload 5, 2) := by decide +kernel
theorem dX12_paused_59 : decode cX12_paused 59 = .ok (.isub, 1) := by decide +kernel
theorem dX12_paused_60 : decode cX12_paused 60 = .ok (.invokevirtual 356, 3) := by decide +kernel
theorem dX12_paused_63 : decode cX12_paused 63 = .ok (.aload_n 0, 1) := by decide +kernel
theorem dX12_paused_64 : decode cX12_paused 64 = .ok (.invokevirtual 359, 3) := by decide +kernel
theorem dX12_paused_67 : decode cX12_paused 67 = .ok (.istore 6, 2) := by decide +kernel
theorem dX12_paused_69 : decode cX12_paused 69 = .ok (.aload_n 0, 1) := by decide +kernel
theorem dX12_paused_70 : decode cX12_paused 70 = .ok (.invokevirtual 362, 3) := by decide +kernel
theorem dX12_paused_73 : decode cX12_paused 73 = .ok (.iload 6, 2) := by decide +kernel
theorem dX12_paused_75 : decode cX12_paused 75 = .ok (.iload 4, 2) := by decide +kernel
theorem dX12_paused_77 : decode cX12_paused 77 = .ok (.if_icmp .gt 6, 3) := by decide +kernel
theorem dX12_paused_80 : decode cX12_paused 80 = .ok (.goto 10, 3) := by decide +kernel
theorem dX12_paused_83 : decode cX12_paused 83 = .ok (.iload 5, 2) := by decide +kernel
theorem dX12_paused_85 : decode cX12_paused 85 = .ok (.istore_n 3, 1) := by decide +kernel
theorem dX12_paused_86 : decode cX12_paused 86 = .ok (.iload 6, 2) := by decide +kernel
theorem dX12_paused_88 : decode cX12_paused 88 = .ok (.istore 4, 2) := by decide +kernel
theorem dX12_paused_90 : decode cX12_paused 90 = .ok (.iinc 5 1, 3) := by decide +kernel
theorem dX12_paused_93 : decode cX12_paused 93 = .ok (.goto (-59), 3) := by decide +kernel
theorem dX12_paused_96 : decode cX12_paused 96 = .ok (.iload_n 2, 1) := by decide +kernel
theorem dX12_paused_97 : decode cX12_paused 97 = .ok (.ifCond .ne 7, 3) := by decide +kernel
theorem dX12_paused_100 : decode cX12_paused 100 = .ok (.iload_n 3, 1) := by decide +kernel
theorem dX12_paused_101 : decode cX12_paused 101 = .ok (.goto 5, 3) := by decide +kernel
theorem dX12_paused_104 : decode cX12_paused 104 = .ok (.iload 4, 2) := by decide +kernel
theorem dX12_paused_106 : decode cX12_paused 106 = .ok (.ireturn, 1) := by decide +kernel
set_option maxRecDepth 20000 in
theorem ggX12_see_X12_isMower : GoodIn wsX12_see wsX12_isMower := goodIn_s _ [(9, 5), (8, 1), (14, 76)] rfl (by decide +kernel)
set_option maxRecDepth 20000 in
theorem gX12_see_X12_isMower : GoodIn wsX12_see (wsV RX12 243 RX12 yX12_isMower wsX12_isMower) := goodIn_app (goodIn_of _ (by decide +kernel)) ggX12_see_X12_isMower
set_option maxRecDepth 20000 in
theorem ggX12_see_X12_in : GoodIn wsX12_see wsX12_in := goodIn_s _ [(14, 1)] rfl (by decide +kernel)
set_option maxRecDepth 20000 in
theorem gX12_see_X12_in : GoodIn wsX12_see (wsV RX12 239 RX12 yX12_in wsX12_in) := goodIn_app (goodIn_of _ (by decide +kernel)) ggX12_see_X12_in
theorem dX12_see_0 : decode cX12_see 0 = .ok (.iload_n 1, 1) := by decide +kernel
theorem dX12_see_1 : decode cX12_see 1 = .ok (.iconst (-1), 1) := by decide +kernel
theorem dX12_see_2 : decode cX12_see 2 = .ok (.if_icmp .ne 10, 3) := by decide +kernel
theorem dX12_see_5 : decode cX12_see 5 = .ok (.aload_n 0, 1) := by decide +kernel
theorem dX12_see_6 : decode cX12_see 6 = .ok (.iconst 0, 1) := by decide +kernel
theorem dX12_see_7 : decode cX12_see 7 = .ok (.putfield 135, 3) := by decide +kernel
theorem dX12_see_10 : decode cX12_see 10 = .ok (.iconst 0, 1) := by decide +kernel
theorem dX12_see_11 : decode cX12_see 11 = .ok (.ireturn, 1) := by decide +kernel
theorem dX12_see_12 : decode cX12_see 12 = .ok (.aload_n 0, 1) := by decide +kernel
theorem dX12_see_13 : decode cX12_see 13 = .ok (.iload_n 1, 1) := by decide +kernel
theorem dX12_see_14 : decode cX12_see 14 = .ok (.invokevirtual 243, 3) := by decide +kernel
theorem dX12_see_17 : decode cX12_see 17 = .ok (.ifCond .ne 5, 3) := by decide +kernel
theorem dX12_see_20 : decode cX12_see 20 = .ok (.iconst (-1), 1) := by decide +kernel
theorem dX12_see_21 : decode cX12_see 21 = .ok (.ireturn, 1) := by decide +kernel
theorem dX12_see_22 : decode cX12_see 22 = .ok (.aload_n 0, 1) := by decide +kernel
theorem dX12_see_23 : decode cX12_see 23 = .ok (.iload_n 2, 1) := by decide +kernel
theorem dX12_see_24 : decode cX12_see 24 = .ok (.iconst 0, 1) := by decide +kernel
theorem dX12_see_25 : decode cX12_see 25 = .ok (.bipush 30, 2) := by decide +kernel
theorem dX12_see_27 : decode cX12_see 27 = .ok (.invokevirtual 239, 3) := by decide +kernel
theorem dX12_see_30 : decode cX12_see 30 = .ok (.ifCond .eq 15, 3) := by decide +kernel
theorem dX12_see_33 : decode cX12_see 33 = .ok (.aload_n 0, 1) := by decide +kernel
theorem dX12_see_34 : decode cX12_see 34 = .ok (.iload_n 3, 1) := by decide +kernel
theorem dX12_see_35 : decode cX12_see 35 = .ok (.iconst 0, 1) := by decide +kernel
theorem dX12_see_36 : decode cX12_see 36 = .ok (.sipush 9999, 3) := by decide +kernel
theorem dX12_see_39 : decode cX12_see 39 = .ok (.invokevirtual 239, 3) := by decide +kernel
theorem dX12_see_42 : decode cX12_see 42 = .ok (.ifCond .ne 6, 3) := by decide +kernel
theorem dX12_see_45 : decode cX12_see 45 = .ok (.bipush (-2), 2) := by decide +kernel
theorem dX12_see_47 : decode cX12_see 47 = .ok (.ireturn, 1) := by decide +kernel
theorem dX12_see_48 : decode cX12_see 48 = .ok (.aload_n 0, 1) := by decide +kernel
theorem dX12_see_49 : decode cX12_see 49 = .ok (.getfield 135, 3) := by decide +kernel
theorem dX12_see_52 : decode cX12_see 52 = .ok (.bipush 6, 2) := by decide +kernel
theorem dX12_see_54 : decode cX12_see 54 = .ok (.if_icmp .ne 6, 3) := by decide +kernel
theorem dX12_see_57 : decode cX12_see 57 = .ok (.bipush (-4), 2) := by decide +kernel
theorem dX12_see_59 : decode cX12_see 59 = .ok (.ireturn, 1) := by decide +kernel
theorem dX12_see_60 : decode cX12_see 60 = .ok (.aload_n 0, 1) := by decide +kernel
theorem dX12_see_61 : decode cX12_see 61 = .ok (.getfield 138, 3) := by decide +kernel
theorem dX12_see_64 : decode cX12_see 64 = .ok (.aload_n 0, 1) := by decide +kernel
theorem dX12_see_65 : decode cX12_see 65 = .ok (.getfield 135, 3) := by decide +kernel
theorem dX12_see_68 : decode cX12_see 68 = .ok (.iload_n 1, 1) := by decide +kernel
theorem dX12_see_69 : decode cX12_see 69 = .ok (.iastore, 1) := by decide +kernel
theorem dX12_see_70 : decode cX12_see 70 = .ok (.aload_n 0, 1) := by decide +kernel
theorem dX12_see_71 : decode cX12_see 71 = .ok (.getfield 141, 3) := by decide +kernel
theorem dX12_see_74 : decode cX12_see 74 = .ok (.aload_n 0, 1) := by decide +kernel
theorem dX12_see_75 : decode cX12_see 75 = .ok (.getfield 135, 3) := by decide +kernel
theorem dX12_see_78 : decode cX12_see 78 = .ok (.iload_n 2, 1) := by decide +kernel
theorem dX12_see_79 : decode cX12_see 79 = .ok (.iastore, 1) := by decide +kernel
theorem dX12_see_80 : decode cX12_see 80 = .ok (.aload_n 0, 1) := by decide +kernel
theorem dX12_see_81 : decode cX12_see 81 = .ok (.getfield 144, 3) := by decide +kernel
theorem dX12_see_84 : decode cX12_see 84 = .ok (.aload_n 0, 1) := by decide +kernel
theorem dX12_see_85 : decode cX12_see 85 = .ok (.getfield 135, 3) := by decide +kernel
theorem dX12_see_88 : decode cX12_see 88 = .ok (.iload_n 3, 1) := by decide +kernel
theorem dX12_see_89 : decode cX12_see 89 = .ok (.iastore, 1) := by decide +kernel
theorem dX12_see_90 : decode cX12_see 90 = .ok (.aload_n 0, 1) := by decide +kernel
theorem dX12_see_91 : decode cX12_see 91 = .ok (.dup, 1) := by decide +kernel
theorem dX12_see_92 : decode cX12_see 92 = .ok (.getfield 135, 3) := by decide +kernel
theorem dX12_see_95 : decode cX12_see 95 = .ok (.iconst 1, 1) := by decide +kernel
theorem dX12_see_96 : decode cX12_see 96 = .ok (.iadd, 1) := by decide +kernel
theorem dX12_see_97 : decode cX12_see 97 = .ok (.putfield 135, 3) := by decide +kernel
theorem dX12_see_100 : decode cX12_see 100 = .ok (.aload_n 0, 1) := by decide +kernel
theorem dX12_see_101 : decode cX12_see 101 = .ok (.getfield 135, 3) := by decide +kernel
theorem dX12_see_104 : decode cX12_see 104 = .ok (.ireturn, 1) := by decide +kernel
set_option maxRecDepth 20000 in
theorem ggX12_isSeen_X12_save : GoodIn wsX12_isSeen wsX12_save := goodIn_s _ [(10, 4), (3, 1), (14, 5), (1, 1), (19, 1), (104, 75)] rfl (by decide +kernel)
set_option maxRecDepth 20000 in
theorem gX12_isSeen_X12_save : GoodIn wsX12_isSeen (wsV RX12 353 RX12 yX12_save wsX12_save) := goodIn_app (goodIn_of _ (by decide +kernel)) ggX12_isSeen_X12_save
set_option maxRecDepth 20000 in
theorem ggX12_isSeen_X12_goMinutes : GoodIn wsX12_isSeen wsX12_goMinutes := goodIn_s _ [(23, 4), (9, 1), (27, 4), (19, 1), (11, 1), (31, 4), (15, 1), (35, 30), (17, 1), (65, 18), (3, 1), (83, 13), (1, 1), (96, 4), (104, 75)] rfl (by decide +kernel)
set_option maxRecDepth 20000 in
theorem gX12_isSeen_X12_goMinutes : GoodIn wsX12_isSeen (wsV RX12 356 RX12 yX12_goMinutes wsX12_goMinutes) := goodIn_app (goodIn_of _ (by decide +kernel)) ggX12_isSeen_X12_goMinutes
set_option maxRecDepth 20000 in
theorem ggX12_isSeen_X12_putBack : GoodIn wsX12_isSeen wsX12_putBack := goodIn_s _ [(103, 1), (12, 1), (11, 1), (3, 1), (13, 1), (15, 1), (14, 1), (17, 1), (16, 1), (1, 1), (18, 1), (104, 75)] rfl (by decide +kernel)
set_option maxRecDepth 20000 in
theorem gX12_isSeen_X12_putBack : GoodIn wsX12_isSeen (wsV RX12 362 RX12 yX12_putBack wsX12_putBack) := goodIn_app (goodIn_of _ (by decide +kernel)) ggX12_isSeen_X12_putBack
theorem dX12_isSeen_0 : decode cX12_isSeen 0 = .ok (.aload_n 0, 1) := by decide +kernel
theorem dX12_isSeen_1 : decode cX12_isSeen 1 = .ok (.invokevirtual 353, 3) := by decide +kernel
theorem dX12_isSeen_4 : decode cX12_isSeen 4 = .ok (.aload_n 0, 1) := by decide +kernel
theorem dX12_isSeen_5 : decode cX12_isSeen 5 = .ok (.getfield 35, 3) := by decide +kernel
theorem dX12_isSeen_8 : decode cX12_isSeen 8 = .ok (.iload_n 1, 1) := by decide +kernel
theorem dX12_isSeen_9 : decode cX12_isSeen 9 = .ok (.dup2, 1) := by decide +kernel
theorem dX12_isSeen_10 : decode cX12_isSeen 10 = .ok (.iaload, 1) := by decide +kernel
theorem dX12_isSeen_11 : decode cX12_isSeen 11 = .ok (.iconst 3, 1) := by decide +kernel
theorem dX12_isSeen_12 : decode cX12_isSeen 12 = .ok (.iadd, 1) := by decide +kernel
theorem dX12_isSeen_13 : decode cX12_isSeen 13 = .ok (.iastore, 1) := by decide +kernel
theorem dX12_isSeen_14 : decode cX12_isSeen 14 = .ok (.aload_n 0, 1) := by decide +kernel
theorem dX12_isSeen_15 : decode cX12_isSeen 15 = .ok (.aload_n 0, 1) := by decide +kernel
theorem dX12_isSeen_16 : decode cX12_isSeen 16 = .ok (.getfield 141, 3) := by decide +kernel
theorem dX12_isSeen_19 : decode cX12_isSeen 19 = .ok (.iload_n 2, 1) := by decide +kernel
theorem dX12_isSeen_20 : decode cX12_isSeen 20 = .ok (.iaload, 1) := by decide +kernel
theorem dX12_isSeen_21 : decode cX12_isSeen 21 = .ok (.invokevirtual 356, 3) := by decide +kernel
theorem dX12_isSeen_24 : decode cX12_isSeen 24 = .ok (.aload_n 0, 1) := by decide +kernel
theorem dX12_isSeen_25 : decode cX12_isSeen 25 = .ok (.getfield 26, 3) := by decide +kernel
theorem dX12_isSeen_28 : decode cX12_isSeen 28 = .ok (.aload_n 0, 1) := by decide +kernel
theorem dX12_isSeen_29 : decode cX12_isSeen 29 = .ok (.getfield 138, 3) := by decide +kernel
theorem dX12_isSeen_32 : decode cX12_isSeen 32 = .ok (.iload_n 2, 1) := by decide +kernel
theorem dX12_isSeen_33 : decode cX12_isSeen 33 = .ok (.iaload, 1) := by decide +kernel
theorem dX12_isSeen_34 : decode cX12_isSeen 34 = .ok (.iaload, 1) := by decide +kernel
theorem dX12_isSeen_35 : decode cX12_isSeen 35 = .ok (.aload_n 0, 1) := by decide +kernel
theorem dX12_isSeen_36 : decode cX12_isSeen 36 = .ok (.getfield 144, 3) := by decide +kernel
theorem dX12_isSeen_39 : decode cX12_isSeen 39 = .ok (.iload_n 2, 1) := by decide +kernel
theorem dX12_isSeen_40 : decode cX12_isSeen 40 = .ok (.iaload, 1) := by decide +kernel
theorem dX12_isSeen_41 : decode cX12_isSeen 41 = .ok (.if_icmp .ne 7, 3) := by decide +kernel
theorem dX12_isSeen_44 : decode cX12_isSeen 44 = .ok (.iconst 1, 1) := by decide +kernel
theorem dX12_isSeen_45 : decode cX12_isSeen 45 = .ok (.goto 4, 3) := by decide +kernel
theorem dX12_isSeen_48 : decode cX12_isSeen 48 = .ok (.iconst 0, 1) := by decide +kernel
theorem dX12_isSeen_49 : decode cX12_isSeen 49 = .ok (.istore_n 3, 1) := by decide +kernel
theorem dX12_isSeen_50 : decode cX12_isSeen 50 = .ok (.aload_n 0, 1) := by decide +kernel
theorem dX12_isSeen_51 : decode cX12_isSeen 51 = .ok (.invokevirtual 362, 3) := by decide +kernel
theorem dX12_isSeen_54 : decode cX12_isSeen 54 = .ok (.iload_n 3, 1) := by decide +kernel
theorem dX12_isSeen_55 : decode cX12_isSeen 55 = .ok (.ireturn, 1) := by decide +kernel
set_option maxRecDepth 20000 in
theorem ggX12_who_X12_isSeen : GoodIn wsX12_who wsX12_isSeen := goodIn_s _ [(7, 9), (6, 1), (16, 169)] rfl (by decide +kernel)
set_option maxRecDepth 20000 in
theorem gX12_who_X12_isSeen : GoodIn wsX12_who (wsV RX12 391 RX12 yX12_isSeen wsX12_isSeen) := goodIn_app (goodIn_of _ (by decide +kernel)) ggX12_who_X12_isSeen
theorem dX12_who_0 : decode cX12_who 0 = .ok (.iconst 0, 1) := by decide +kernel
theorem dX12_who_1 : decode cX12_who 1 = .ok (.istore_n 1, 1) := by decide +kernel
theorem dX12_who_2 : decode cX12_who 2 = .ok (.iconst 0, 1) := by decide +kernel
theorem dX12_who_3 : decode cX12_who 3 = .ok (.istore_n 2, 1) := by decide +kernel
theorem dX12_who_4 : decode cX12_who 4 = .ok (.iload_n 2, 1) := by decide +kernel
theorem dX12_who_5 : decode cX12_who 5 = .ok (.aload_n 0, 1) := by decide +kernel
theorem dX12_who_6 : decode cX12_who 6 = .ok (.getfield 7, 3) := by decide +kernel
theorem dX12_who_9 : decode cX12_who 9 = .ok (.if_icmp .ge 55, 3) := by decide +kernel
theorem dX12_who_12 : decode cX12_who 12 = .ok (.iconst 1, 1) := by decide +kernel
theorem dX12_who_13 : decode cX12_who 13 = .ok (.istore_n 3, 1) := by decide +kernel
theorem dX12_who_14 : decode cX12_who 14 = .ok (.iconst 0, 1) := by decide +kernel
theorem dX12_who_15 : decode cX12_who 15 = .ok (.istore 4, 2) := by decide +kernel
theorem dX12_who_17 : decode cX12_who 17 = .ok (.iload 4, 2) := by decide +kernel
theorem dX12_who_19 : decode cX12_who 19 = .ok (.aload_n 0, 1) := by decide +kernel
theorem dX12_who_20 : decode cX12_who 20 = .ok (.getfield 135, 3) := by decide +kernel
theorem dX12_who_23 : decode cX12_who 23 = .ok (.if_icmp .ge 21, 3) := by decide +kernel
theorem dX12_who_26 : decode cX12_who 26 = .ok (.iload_n 3, 1) := by decide +kernel
theorem dX12_who_27 : decode cX12_who 27 = .ok (.ifCond .eq 17, 3) := by decide +kernel
theorem dX12_who_30 : decode cX12_who 30 = .ok (.aload_n 0, 1) := by decide +kernel
theorem dX12_who_31 : decode cX12_who 31 = .ok (.iload_n 2, 1) := by decide +kernel
theorem dX12_who_32 : decode cX12_who 32 = .ok (.iload 4, 2) := by decide +kernel
theorem dX12_who_34 : decode cX12_who 34 = .ok (.invokevirtual 391, 3) := by decide +kernel
theorem dX12_who_37 : decode cX12_who 37 = .ok (.istore_n 3, 1) := by decide +kernel
theorem dX12_who_38 : decode cX12_who 38 = .ok (.iinc 4 1, 3) := by decide +kernel
theorem dX12_who_41 : decode cX12_who 41 = .ok (.goto (-24), 3) := by decide +kernel
theorem dX12_who_44 : decode cX12_who 44 = .ok (.iload_n 1, 1) := by decide +kernel
theorem dX12_who_45 : decode cX12_who 45 = .ok (.iload_n 3, 1) := by decide +kernel
theorem dX12_who_46 : decode cX12_who 46 = .ok (.ifCond .eq 9, 3) := by decide +kernel
theorem dX12_who_49 : decode cX12_who 49 = .ok (.iconst 1, 1) := by decide +kernel
theorem dX12_who_50 : decode cX12_who 50 = .ok (.iload_n 2, 1) := by decide +kernel
theorem dX12_who_51 : decode cX12_who 51 = .ok (.ishl, 1) := by decide +kernel
theorem dX12_who_52 : decode cX12_who 52 = .ok (.goto 4, 3) := by decide +kernel
theorem dX12_who_55 : decode cX12_who 55 = .ok (.iconst 0, 1) := by decide +kernel
theorem dX12_who_56 : decode cX12_who 56 = .ok (.ior, 1) := by decide +kernel
theorem dX12_who_57 : decode cX12_who 57 = .ok (.istore_n 1, 1) := by decide +kernel
theorem dX12_who_58 : decode cX12_who 58 = .ok (.iinc 2 1, 3) := by decide +kernel
theorem dX12_who_61 : decode cX12_who 61 = .ok (.goto (-57), 3) := by decide +kernel
theorem dX12_who_64 : decode cX12_who 64 = .ok (.iload_n 1, 1) := by decide +kernel
theorem dX12_who_65 : decode cX12_who 65 = .ok (.ireturn, 1) := by decide +kernel
theorem dX12_divisor_0 : decode cX12_divisor 0 = .ok (.iload_n 1, 1) := by decide +kernel
theorem dX12_divisor_1 : decode cX12_divisor 1 = .ok (.istore_n 3, 1) := by decide +kernel
theorem dX12_divisor_2 : decode cX12_divisor 2 = .ok (.iload_n 2, 1) := by decide +kernel
theorem dX12_divisor_3 : decode cX12_divisor 3 = .ok (.istore 4, 2) := by decide +kernel
theorem dX12_divisor_5 : decode cX12_divisor 5 = .ok (.iload 4, 2) := by decide +kernel
theorem dX12_divisor_7 : decode cX12_divisor 7 = .ok (.ifCond .eq 19, 3) := by decide +kernel
theorem dX12_divisor_10 : decode cX12_divisor 10 = .ok (.iload_n 3, 1) := by decide +kernel
theorem dX12_divisor_11 : decode cX12_divisor 11 = .ok (.iload 4, 2) := by decide +kernel
theorem dX12_divisor_13 : decode cX12_divisor 13 = .ok (.irem, 1) := by decide +kernel
theorem dX12_divisor_14 : decode cX12_divisor 14 = .ok (.istore 5, 2) := by decide +kernel
theorem dX12_divisor_16 : decode cX12_divisor 16 = .ok (.iload 4, 2) := by decide +kernel
theorem dX12_divisor_18 : decode cX12_divisor 18 = .ok (.istore_n 3, 1) := by decide +kernel
theorem dX12_divisor_19 : decode cX12_divisor 19 = .ok (.iload 5, 2) := by decide +kernel
theorem dX12_divisor_21 : decode cX12_divisor 21 = .ok (.istore 4, 2) := by decide +kernel
theorem dX12_divisor_23 : decode cX12_divisor 23 = .ok (.goto (-18), 3) := by decide +kernel
theorem dX12_divisor_26 : decode cX12_divisor 26 = .ok (.iload_n 3, 1) := by decide +kernel
theorem dX12_divisor_27 : decode cX12_divisor 27 = .ok (.ireturn, 1) := by decide +kernel
set_option maxRecDepth 20000 in
theorem ggX12_lowest_X12_divisor : GoodIn wsX12_lowest wsX12_divisor := goodIn_s _ [(5, 1)] rfl (by decide +kernel)
set_option maxRecDepth 20000 in
theorem gX12_lowest_X12_divisor : GoodIn wsX12_lowest (wsV RX12 394 RX12 yX12_divisor wsX12_divisor) := goodIn_app (goodIn_of _ (by decide +kernel)) ggX12_lowest_X12_divisor
theorem dX12_lowest_0 : decode cX12_lowest 0 = .ok (.aload_n 0, 1) := by decide +kernel
theorem dX12_lowest_1 : decode cX12_lowest 1 = .ok (.iload_n 1, 1) := by decide +kernel
theorem dX12_lowest_2 : decode cX12_lowest 2 = .ok (.iload_n 2, 1) := by decide +kernel
theorem dX12_lowest_3 : decode cX12_lowest 3 = .ok (.invokevirtual 394, 3) := by decide +kernel
theorem dX12_lowest_6 : decode cX12_lowest 6 = .ok (.istore 4, 2) := by decide +kernel
theorem dX12_lowest_8 : decode cX12_lowest 8 = .ok (.iload_n 3, 1) := by decide +kernel
theorem dX12_lowest_9 : decode cX12_lowest 9 = .ok (.ifCond .ne 11, 3) := by decide +kernel
theorem dX12_lowest_12 : decode cX12_lowest 12 = .ok (.iload_n 1, 1) := by decide +kernel
theorem dX12_lowest_13 : decode cX12_lowest 13 = .ok (.iload 4, 2) := by decide +kernel
theorem dX12_lowest_15 : decode cX12_lowest 15 = .ok (.idiv, 1) := by decide +kernel
theorem dX12_lowest_16 : decode cX12_lowest 16 = .ok (.i2l, 1) := by decide +kernel
theorem dX12_lowest_17 : decode cX12_lowest 17 = .ok (.goto 8, 3) := by decide +kernel
theorem dX12_lowest_20 : decode cX12_lowest 20 = .ok (.iload_n 2, 1) := by decide +kernel
theorem dX12_lowest_21 : decode cX12_lowest 21 = .ok (.iload 4, 2) := by decide +kernel
theorem dX12_lowest_23 : decode cX12_lowest 23 = .ok (.idiv, 1) := by decide +kernel
theorem dX12_lowest_24 : decode cX12_lowest 24 = .ok (.i2l, 1) := by decide +kernel
theorem dX12_lowest_25 : decode cX12_lowest 25 = .ok (.lreturn, 1) := by decide +kernel
set_option maxRecDepth 20000 in
theorem ggX12_odds_X12_isMower : GoodIn wsX12_odds wsX12_isMower := goodIn_s _ [(9, 1), (2, 1), (10, 3), (8, 1), (13, 1), (119, 75)] rfl (by decide +kernel)
set_option maxRecDepth 20000 in
theorem gX12_odds_X12_isMower : GoodIn wsX12_odds (wsV RX12 243 RX12 yX12_isMower wsX12_isMower) := goodIn_app (goodIn_of _ (by decide +kernel)) ggX12_odds_X12_isMower
set_option maxRecDepth 20000 in
theorem ggX12_odds_X12_in : GoodIn wsX12_odds wsX12_in := goodIn_s _ [(13, 1)] rfl (by decide +kernel)
set_option maxRecDepth 20000 in
theorem gX12_odds_X12_in : GoodIn wsX12_odds (wsV RX12 239 RX12 yX12_in wsX12_in) := goodIn_app (goodIn_of _ (by decide +kernel)) ggX12_odds_X12_in
set_option maxRecDepth 20000 in
theorem ggX12_odds_X12_save : GoodIn wsX12_odds wsX12_save := goodIn_s _ [(17, 10), (3, 2), (119, 75)] rfl (by decide +kernel)
set_option maxRecDepth 20000 in
theorem gX12_odds_X12_save : GoodIn wsX12_odds (wsV RX12 353 RX12 yX12_save wsX12_save) := goodIn_app (goodIn_of _ (by decide +kernel)) ggX12_odds_X12_save
set_option maxRecDepth 20000 in
theorem ggX12_odds_X12_goMinutes : GoodIn wsX12_odds wsX12_goMinutes := goodIn_s _ [(30, 4), (8, 1), (34, 4), (4, 1), (18, 1), (38, 4), (23, 1), (42, 30), (25, 1), (72, 18), (21, 1), (90, 13), (3, 1), (103, 4), (119, 75)] rfl (by decide +kernel)
set_option maxRecDepth 20000 in
theorem gX12_odds_X12_goMinutes : GoodIn wsX12_odds (wsV RX12 356 RX12 yX12_goMinutes wsX12_goMinutes) := goodIn_app (goodIn_of _ (by decide +kernel)) ggX12_odds_X12_goMinutes
set_option maxRecDepth 20000 in
theorem ggX12_odds_X12_putBack : GoodIn wsX12_odds wsX12_putBack := goodIn_s _ [(110, 1), (19, 1), (18, 1), (21, 1), (20, 1), (23, 1), (22, 1), (25, 1), (24, 1), (3, 1), (26, 1), (119, 75)] rfl (by decide +kernel)
set_option maxRecDepth 20000 in
theorem gX12_odds_X12_putBack : GoodIn wsX12_odds (wsV RX12 362 RX12 yX12_putBack wsX12_putBack) := goodIn_app (goodIn_of _ (by decide +kernel)) ggX12_odds_X12_putBack
set_option maxRecDepth 20000 in
theorem ggX12_odds_X12_lowest : GoodIn wsX12_odds wsX12_lowest := goodIn_s _ [(114, 4), (8, 1), (118, 1)] rfl (by decide +kernel)
set_option maxRecDepth 20000 in
theorem gX12_odds_X12_lowest : GoodIn wsX12_odds (wsV RX12 399 RX12 yX12_lowest wsX12_lowest) := goodIn_app (goodIn_of _ (by decide +kernel)) ggX12_odds_X12_lowest
theorem dX12_odds_0 : decode cX12_odds 0 = .ok (.aload_n 0, 1) := by decide +kernel
theorem dX12_odds_1 : decode cX12_odds 1 = .ok (.iload_n 1, 1) := by decide +kernel
theorem dX12_odds_2 : decode cX12_odds 2 = .ok (.invokevirtual 243, 3) := by decide +kernel
theorem dX12_odds_5 : decode cX12_odds 5 = .ok (.ifCond .eq 24, 3) := by decide +kernel
theorem dX12_odds_8 : decode cX12_odds 8 = .ok (.aload_n 0, 1) := by decide +kernel
theorem dX12_odds_9 : decode cX12_odds 9 = .ok (.iload_n 2, 1) := by decide +kernel
theorem dX12_odds_10 : decode cX12_odds 10 = .ok (.iconst 1, 1) := by decide +kernel
theorem dX12_odds_11 : decode cX12_odds 11 = .ok (.bipush 60, 2) := by decide +kernel
theorem dX12_odds_13 : decode cX12_odds 13 = .ok (.invokevirtual 239, 3) := by decide +kernel
theorem dX12_odds_16 : decode cX12_odds 16 = .ok (.ifCond .eq 13, 3) := by decide +kernel
theorem dX12_odds_19 : decode cX12_odds 19 = .ok (.aload_n 0, 1) := by decide +kernel
theorem dX12_odds_20 : decode cX12_odds 20 = .ok (.iload_n 3, 1) := by decide +kernel
theorem dX12_odds_21 : decode cX12_odds 21 = .ok (.iconst 0, 1) := by decide +kernel
theorem dX12_odds_22 : decode cX12_odds 22 = .ok (.iconst 1, 1) := by decide +kernel
theorem dX12_odds_23 : decode cX12_odds 23 = .ok (.invokevirtual 239, 3) := by decide +kernel
theorem dX12_odds_26 : decode cX12_odds 26 = .ok (.ifCond .ne 7, 3) := by decide +kernel
theorem dX12_odds_29 : decode cX12_odds 29 = .ok (.ldc2_w 397, 3) := by decide +kernel
theorem dX12_odds_32 : decode cX12_odds 32 = .ok (.lreturn, 1) := by decide +kernel
theorem dX12_odds_33 : decode cX12_odds 33 = .ok (.iconst 0, 1) := by decide +kernel
theorem dX12_odds_34 : decode cX12_odds 34 = .ok (.istore 4, 2) := by decide +kernel
theorem dX12_odds_36 : decode cX12_odds 36 = .ok (.iconst 0, 1) := by decide +kernel
theorem dX12_odds_37 : decode cX12_odds 37 = .ok (.istore 5, 2) := by decide +kernel
theorem dX12_odds_39 : decode cX12_odds 39 = .ok (.iload 5, 2) := by decide +kernel
theorem dX12_odds_41 : decode cX12_odds 41 = .ok (.aload_n 0, 1) := by decide +kernel
theorem dX12_odds_42 : decode cX12_odds 42 = .ok (.getfield 7, 3) := by decide +kernel
theorem dX12_odds_45 : decode cX12_odds 45 = .ok (.if_icmp .ge 52, 3) := by decide +kernel
theorem dX12_odds_48 : decode cX12_odds 48 = .ok (.aload_n 0, 1) := by decide +kernel
theorem dX12_odds_49 : decode cX12_odds 49 = .ok (.invokevirtual 353, 3) := by decide +kernel
theorem dX12_odds_52 : decode cX12_odds 52 = .ok (.aload_n 0, 1) := by decide +kernel
theorem dX12_odds_53 : decode cX12_odds 53 = .ok (.getfield 35, 3) := by decide +kernel
theorem dX12_odds_56 : decode cX12_odds 56 = .ok (.iload 5, 2) := by decide +kernel
theorem dX12_odds_58 : decode cX12_odds 58 = .ok (.dup2, 1) := by decide +kernel
theorem dX12_odds_59 : decode cX12_odds 59 = .ok (.iaload, 1) := by decide +kernel
theorem dX12_odds_60 : decode cX12_odds 60 = .ok (.iconst 5, 1) := by decide +kernel
theorem dX12_odds_61 : decode cX12_odds 61 = .ok (.iadd, 1) := by decide +kernel
theorem dX12_odds_62 : decode cX12_odds 62 = .ok (.iastore, 1) := by decide +kernel
theorem dX12_odds_63 : decode cX12_odds 63 = .ok (.aload_n 0, 1) := by decide +kernel
theorem dX12_odds_64 : decode cX12_odds 64 = .ok (.iload_n 2, 1) := by decide +kernel
theorem dX12_odds_65 : decode cX12_odds 65 = .ok (.invokevirtual 356, 3) := by decide +kernel
theorem dX12_odds_68 : decode cX12_odds 68 = .ok (.iload 4, 2) := by decide +kernel
theorem dX12_odds_70 : decode cX12_odds 70 = .ok (.aload_n 0, 1) := by decide +kernel
theorem dX12_odds_71 : decode cX12_odds 71 = .ok (.getfield 108, 3) := by decide +kernel
theorem dX12_odds_74 : decode cX12_odds 74 = .ok (.iload_n 1, 1) := by decide +kernel
theorem dX12_odds_75 : decode cX12_odds 75 = .ok (.iaload, 1) := by decide +kernel
theorem dX12_odds_76 : decode cX12_odds 76 = .ok (.ifCond .le 7, 3) := by decide +kernel
theorem dX12_odds_79 : decode cX12_odds 79 = .ok (.iconst 1, 1) := by decide +kernel
theorem dX12_odds_80 : decode cX12_odds 80 = .ok (.goto 4, 3) := by decide +kernel
theorem dX12_odds_83 : decode cX12_odds 83 = .ok (.iconst 0, 1) := by decide +kernel
theorem dX12_odds_84 : decode cX12_odds 84 = .ok (.iadd, 1) := by decide +kernel
theorem dX12_odds_85 : decode cX12_odds 85 = .ok (.istore 4, 2) := by decide +kernel
theorem dX12_odds_87 : decode cX12_odds 87 = .ok (.aload_n 0, 1) := by decide +kernel
theorem dX12_odds_88 : decode cX12_odds 88 = .ok (.invokevirtual 362, 3) := by decide +kernel
theorem dX12_odds_91 : decode cX12_odds 91 = .ok (.iinc 5 1, 3) := by decide +kernel
theorem dX12_odds_94 : decode cX12_odds 94 = .ok (.goto (-55), 3) := by decide +kernel
theorem dX12_odds_97 : decode cX12_odds 97 = .ok (.aload_n 0, 1) := by decide +kernel
theorem dX12_odds_98 : decode cX12_odds 98 = .ok (.iload 4, 2) := by decide +kernel
theorem dX12_odds_100 : decode cX12_odds 100 = .ok (.aload_n 0, 1) := by decide +kernel
theorem dX12_odds_101 : decode cX12_odds 101 = .ok (.getfield 7, 3) := by decide +kernel
theorem dX12_odds_104 : decode cX12_odds 104 = .ok (.iload_n 3, 1) := by decide +kernel
theorem dX12_odds_105 : decode cX12_odds 105 = .ok (.invokevirtual 399, 3) := by decide +kernel
theorem dX12_odds_108 : decode cX12_odds 108 = .ok (.lreturn, 1) := by decide +kernel
set_option maxRecDepth 20000 in
theorem ggX12_mean_X12_in : GoodIn wsX12_mean wsX12_in := goodIn_s _ [(7, 1)] rfl (by decide +kernel)
set_option maxRecDepth 20000 in
theorem gX12_mean_X12_in : GoodIn wsX12_mean (wsV RX12 239 RX12 yX12_in wsX12_in) := goodIn_app (goodIn_of _ (by decide +kernel)) ggX12_mean_X12_in
set_option maxRecDepth 20000 in
theorem ggX12_mean_X12_allBehind : GoodIn wsX12_mean wsX12_allBehind := goodIn_s _ [(11, 4), (6, 1), (15, 96), (1, 1), (111, 4), (123, 75)] rfl (by decide +kernel)
set_option maxRecDepth 20000 in
theorem gX12_mean_X12_allBehind : GoodIn wsX12_mean (wsV RX12 380 RX12 yX12_allBehind wsX12_allBehind) := goodIn_app (goodIn_of _ (by decide +kernel)) ggX12_mean_X12_allBehind
set_option maxRecDepth 20000 in
theorem ggX12_mean_X12_lowest : GoodIn wsX12_mean wsX12_lowest := goodIn_s _ [(118, 4), (6, 1), (122, 1)] rfl (by decide +kernel)
set_option maxRecDepth 20000 in
theorem gX12_mean_X12_lowest : GoodIn wsX12_mean (wsV RX12 399 RX12 yX12_lowest wsX12_lowest) := goodIn_app (goodIn_of _ (by decide +kernel)) ggX12_mean_X12_lowest
theorem dX12_mean_0 : decode cX12_mean 0 = .ok (.aload_n 0, 1) := by decide +kernel
theorem dX12_mean_1 : decode cX12_mean 1 = .ok (.iload_n 1, 1) := by decide +kernel
theorem dX12_mean_2 : decode cX12_mean 2 = .ok (.iconst 1, 1) := by decide +kernel
theorem dX12_mean_3 : decode cX12_mean 3 = .ok (.bipush 60, 2) := by decide +kernel
theorem dX12_mean_5 : decode cX12_mean 5 = .ok (.invokevirtual 239, 3) := by decide +kernel
theorem dX12_mean_8 : decode cX12_mean 8 = .ok (.ifCond .eq 20, 3) := by decide +kernel
theorem dX12_mean_11 : decode cX12_mean 11 = .ok (.aload_n 0, 1) := by decide +kernel
theorem dX12_mean_12 : decode cX12_mean 12 = .ok (.iload_n 2, 1) := by decide +kernel
theorem dX12_mean_13 : decode cX12_mean 13 = .ok (.iconst 0, 1) := by decide +kernel
theorem dX12_mean_14 : decode cX12_mean 14 = .ok (.iconst 1, 1) := by decide +kernel
theorem dX12_mean_15 : decode cX12_mean 15 = .ok (.invokevirtual 239, 3) := by decide +kernel
theorem dX12_mean_18 : decode cX12_mean 18 = .ok (.ifCond .eq 10, 3) := by decide +kernel
theorem dX12_mean_21 : decode cX12_mean 21 = .ok (.aload_n 0, 1) := by decide +kernel
theorem dX12_mean_22 : decode cX12_mean 22 = .ok (.getfield 7, 3) := by decide +kernel
theorem dX12_mean_25 : decode cX12_mean 25 = .ok (.ifCond .ne 9, 3) := by decide +kernel
theorem dX12_mean_28 : decode cX12_mean 28 = .ok (.ldc2_w 397, 3) := by decide +kernel
theorem dX12_mean_31 : decode cX12_mean 31 = .ok (.goto 17, 3) := by decide +kernel
theorem dX12_mean_34 : decode cX12_mean 34 = .ok (.aload_n 0, 1) := by decide +kernel
theorem dX12_mean_35 : decode cX12_mean 35 = .ok (.aload_n 0, 1) := by decide +kernel
theorem dX12_mean_36 : decode cX12_mean 36 = .ok (.iload_n 1, 1) := by decide +kernel
theorem dX12_mean_37 : decode cX12_mean 37 = .ok (.invokevirtual 380, 3) := by decide +kernel
theorem dX12_mean_40 : decode cX12_mean 40 = .ok (.aload_n 0, 1) := by decide +kernel
theorem dX12_mean_41 : decode cX12_mean 41 = .ok (.getfield 7, 3) := by decide +kernel
theorem dX12_mean_44 : decode cX12_mean 44 = .ok (.iload_n 2, 1) := by decide +kernel
theorem dX12_mean_45 : decode cX12_mean 45 = .ok (.invokevirtual 399, 3) := by decide +kernel
theorem dX12_mean_48 : decode cX12_mean 48 = .ok (.lreturn, 1) := by decide +kernel
set_option maxRecDepth 20000 in
theorem ggX12_plan_X12_in : GoodIn wsX12_plan wsX12_in := goodIn_s _ [(7, 1)] rfl (by decide +kernel)
set_option maxRecDepth 20000 in
theorem gX12_plan_X12_in : GoodIn wsX12_plan (wsV RX12 239 RX12 yX12_in wsX12_in) := goodIn_app (goodIn_of _ (by decide +kernel)) ggX12_plan_X12_in
theorem dX12_plan_0 : decode cX12_plan 0 = .ok (.iload_n 1, 1) := by decide +kernel
theorem dX12_plan_1 : decode cX12_plan 1 = .ok (.iconst (-1), 1) := by decide +kernel
theorem dX12_plan_2 : decode cX12_plan 2 = .ok (.if_icmp .ne 10, 3) := by decide +kernel
theorem dX12_plan_5 : decode cX12_plan 5 = .ok (.aload_n 0, 1) := by decide +kernel
theorem dX12_plan_6 : decode cX12_plan 6 = .ok (.iconst 0, 1) := by decide +kernel
theorem dX12_plan_7 : decode cX12_plan 7 = .ok (.putfield 147, 3) := by decide +kernel
theorem dX12_plan_10 : decode cX12_plan 10 = .ok (.iconst 0, 1) := by decide +kernel
theorem dX12_plan_11 : decode cX12_plan 11 = .ok (.ireturn, 1) := by decide +kernel
theorem dX12_plan_12 : decode cX12_plan 12 = .ok (.aload_n 0, 1) := by decide +kernel
theorem dX12_plan_13 : decode cX12_plan 13 = .ok (.iload_n 1, 1) := by decide +kernel
theorem dX12_plan_14 : decode cX12_plan 14 = .ok (.iconst 0, 1) := by decide +kernel
theorem dX12_plan_15 : decode cX12_plan 15 = .ok (.iconst 2, 1) := by decide +kernel
theorem dX12_plan_16 : decode cX12_plan 16 = .ok (.invokevirtual 239, 3) := by decide +kernel
theorem dX12_plan_19 : decode cX12_plan 19 = .ok (.ifCond .ne 5, 3) := by decide +kernel
theorem dX12_plan_22 : decode cX12_plan 22 = .ok (.iconst (-1), 1) := by decide +kernel
theorem dX12_plan_23 : decode cX12_plan 23 = .ok (.ireturn, 1) := by decide +kernel
theorem dX12_plan_24 : decode cX12_plan 24 = .ok (.aload_n 0, 1) := by decide +kernel
theorem dX12_plan_25 : decode cX12_plan 25 = .ok (.getfield 147, 3) := by decide +kernel
theorem dX12_plan_28 : decode cX12_plan 28 = .ok (.bipush 10, 2) := by decide +kernel
theorem dX12_plan_30 : decode cX12_plan 30 = .ok (.if_icmp .ne 6, 3) := by decide +kernel
theorem dX12_plan_33 : decode cX12_plan 33 = .ok (.bipush (-4), 2) := by decide +kernel
theorem dX12_plan_35 : decode cX12_plan 35 = .ok (.ireturn, 1) := by decide +kernel
theorem dX12_plan_36 : decode cX12_plan 36 = .ok (.aload_n 0, 1) := by decide +kernel
theorem dX12_plan_37 : decode cX12_plan 37 = .ok (.getfield 153, 3) := by decide +kernel
theorem dX12_plan_40 : decode cX12_plan 40 = .ok (.aload_n 0, 1) := by decide +kernel
theorem dX12_plan_41 : decode cX12_plan 41 = .ok (.getfield 147, 3) := by decide +kernel
theorem dX12_plan_44 : decode cX12_plan 44 = .ok (.iload_n 1, 1) := by decide +kernel
theorem dX12_plan_45 : decode cX12_plan 45 = .ok (.iastore, 1) := by decide +kernel
theorem dX12_plan_46 : decode cX12_plan 46 = .ok (.aload_n 0, 1) := by decide +kernel
theorem dX12_plan_47 : decode cX12_plan 47 = .ok (.dup, 1) := by decide +kernel
theorem dX12_plan_48 : decode cX12_plan 48 = .ok (.getfield 147, 3) := by decide +kernel
theorem dX12_plan_51 : decode cX12_plan 51 = .ok (.iconst 1, 1) := by decide +kernel
theorem dX12_plan_52 : decode cX12_plan 52 = .ok (.iadd, 1) := by decide +kernel
theorem dX12_plan_53 : decode cX12_plan 53 = .ok (.putfield 147, 3) := by decide +kernel
theorem dX12_plan_56 : decode cX12_plan 56 = .ok (.aload_n 0, 1) := by decide +kernel
theorem dX12_plan_57 : decode cX12_plan 57 = .ok (.getfield 147, 3) := by decide +kernel
theorem dX12_plan_60 : decode cX12_plan 60 = .ok (.ireturn, 1) := by decide +kernel
set_option maxRecDepth 20000 in
theorem ggX12_planned_X12_save : GoodIn wsX12_planned wsX12_save := goodIn_s _ [(7, 12), (116, 75)] rfl (by decide +kernel)
set_option maxRecDepth 20000 in
theorem gX12_planned_X12_save : GoodIn wsX12_planned (wsV RX12 353 RX12 yX12_save wsX12_save) := goodIn_app (goodIn_of _ (by decide +kernel)) ggX12_planned_X12_save
set_option maxRecDepth 20000 in
theorem ggX12_planned_X12_goMinutes : GoodIn wsX12_planned wsX12_goMinutes := goodIn_s _ [(22, 4), (6, 1), (26, 4), (18, 1), (8, 1), (30, 4), (13, 1), (34, 30), (15, 1), (64, 18), (11, 1), (82, 13), (17, 1), (95, 4), (116, 75)] rfl (by decide +kernel)
set_option maxRecDepth 20000 in
theorem gX12_planned_X12_goMinutes : GoodIn wsX12_planned (wsV RX12 356 RX12 yX12_goMinutes wsX12_goMinutes) := goodIn_app (goodIn_of _ (by decide +kernel)) ggX12_planned_X12_goMinutes
set_option maxRecDepth 20000 in
theorem ggX12_planned_X12_goWhet : GoodIn wsX12_planned wsX12_goWhet := goodIn_s _ [(102, 2), (13, 1), (15, 1), (17, 1), (8, 1), (64, 3), (6, 1), (67, 1), (116, 75)] rfl (by decide +kernel)
set_option maxRecDepth 20000 in
theorem gX12_planned_X12_goWhet : GoodIn wsX12_planned (wsV RX12 347 RX12 yX12_goWhet wsX12_goWhet) := goodIn_app (goodIn_of _ (by decide +kernel)) ggX12_planned_X12_goWhet
set_option maxRecDepth 20000 in
theorem ggX12_planned_X12_goPause : GoodIn wsX12_planned wsX12_goPause := goodIn_s _ [(107, 1), (103, 1), (15, 1), (17, 1), (8, 1), (64, 3), (6, 1), (67, 1), (116, 75)] rfl (by decide +kernel)
set_option maxRecDepth 20000 in
theorem gX12_planned_X12_goPause : GoodIn wsX12_planned (wsV RX12 350 RX12 yX12_goPause wsX12_goPause) := goodIn_app (goodIn_of _ (by decide +kernel)) ggX12_planned_X12_goPause
set_option maxRecDepth 20000 in
theorem ggX12_planned_X12_all : GoodIn wsX12_planned wsX12_all := goodIn_s _ [(111, 1), (103, 1), (11, 1), (116, 75)] rfl (by decide +kernel)
set_option maxRecDepth 20000 in
theorem gX12_planned_X12_all : GoodIn wsX12_planned (wsV RX12 359 RX12 yX12_all wsX12_all) := goodIn_app (goodIn_of _ (by decide +kernel)) ggX12_planned_X12_all
set_option maxRecDepth 20000 in
theorem ggX12_planned_X12_putBack : GoodIn wsX12_planned wsX12_putBack := goodIn_s _ [(115, 1), (9, 1), (8, 1), (11, 1), (10, 1), (13, 1), (12, 1), (15, 1), (14, 1), (17, 1), (16, 1), (116, 75)] rfl (by decide +kernel)
set_option maxRecDepth 20000 in
theorem gX12_planned_X12_putBack : GoodIn wsX12_planned (wsV RX12 362 RX12 yX12_putBack wsX12_putBack) := goodIn_app (goodIn_of _ (by decide +kernel)) ggX12_planned_X12_putBack
theorem dX12_planned_0 : decode cX12_planned 0 = .ok (.aload_n 0, 1) := by decide +kernel
theorem dX12_planned_1 : decode cX12_planned 1 = .ok (.invokevirtual 353, 3) := by decide +kernel
theorem dX12_planned_4 : decode cX12_planned 4 = .ok (.iconst 0, 1) := by decide +kernel
theorem dX12_planned_5 : decode cX12_planned 5 = .ok (.istore_n 1, 1) := by decide +kernel
theorem dX12_planned_6 : decode cX12_planned 6 = .ok (.iload_n 1, 1) := by decide +kernel
theorem dX12_planned_7 : decode cX12_planned 7 = .ok (.aload_n 0, 1) := by decide +kernel
theorem dX12_planned_8 : decode cX12_planned 8 = .ok (.getfield 147, 3) := by decide +kernel
theorem dX12_planned_11 : decode cX12_planned 11 = .ok (.if_icmp .ge 52, 3) := by decide +kernel
theorem dX12_planned_14 : decode cX12_planned 14 = .ok (.aload_n 0, 1) := by decide +kernel
theorem dX12_planned_15 : decode cX12_planned 15 = .ok (.getfield 153, 3) := by decide +kernel
theorem dX12_planned_18 : decode cX12_planned 18 = .ok (.iload_n 1, 1) := by decide +kernel
theorem dX12_planned_19 : decode cX12_planned 19 = .ok (.iaload, 1) := by decide +kernel
theorem dX12_planned_20 : decode cX12_planned 20 = .ok (.ifCond .ne 8, 3) := by decide +kernel
theorem dX12_planned_23 : decode cX12_planned 23 = .ok (.aload_n 0, 1) := by decide +kernel
theorem dX12_planned_24 : decode cX12_planned 24 = .ok (.iconst 1, 1) := by decide +kernel
theorem dX12_planned_25 : decode cX12_planned 25 = .ok (.invokevirtual 356, 3) := by decide +kernel
theorem dX12_planned_28 : decode cX12_planned 28 = .ok (.aload_n 0, 1) := by decide +kernel
theorem dX12_planned_29 : decode cX12_planned 29 = .ok (.getfield 153, 3) := by decide +kernel
theorem dX12_planned_32 : decode cX12_planned 32 = .ok (.iload_n 1, 1) := by decide +kernel
theorem dX12_planned_33 : decode cX12_planned 33 = .ok (.iaload, 1) := by decide +kernel
theorem dX12_planned_34 : decode cX12_planned 34 = .ok (.iconst 1, 1) := by decide +kernel
theorem dX12_planned_35 : decode cX12_planned 35 = .ok (.if_icmp .ne 7, 3) := by decide +kernel
theorem dX12_planned_38 : decode cX12_planned 38 = .ok (.aload_n 0, 1) := by decide +kernel
theorem dX12_planned_39 : decode cX12_planned 39 = .ok (.invokevirtual 347, 3) := by decide +kernel
theorem dX12_planned_42 : decode cX12_planned 42 = .ok (.aload_n 0, 1) := by decide +kernel
theorem dX12_planned_43 : decode cX12_planned 43 = .ok (.getfield 153, 3) := by decide +kernel
theorem dX12_planned_46 : decode cX12_planned 46 = .ok (.iload_n 1, 1) := by decide +kernel
theorem dX12_planned_47 : decode cX12_planned 47 = .ok (.iaload, 1) := by decide +kernel
theorem dX12_planned_48 : decode cX12_planned 48 = .ok (.iconst 2, 1) := by decide +kernel
theorem dX12_planned_49 : decode cX12_planned 49 = .ok (.if_icmp .ne 8, 3) := by decide +kernel
theorem dX12_planned_52 : decode cX12_planned 52 = .ok (.aload_n 0, 1) := by decide +kernel
theorem dX12_planned_53 : decode cX12_planned 53 = .ok (.iconst 1, 1) := by decide +kernel
theorem dX12_planned_54 : decode cX12_planned 54 = .ok (.invokevirtual 350, 3) := by decide +kernel
theorem dX12_planned_57 : decode cX12_planned 57 = .ok (.iinc 1 1, 3) := by decide +kernel
theorem dX12_planned_60 : decode cX12_planned 60 = .ok (.goto (-54), 3) := by decide +kernel
theorem dX12_planned_63 : decode cX12_planned 63 = .ok (.aload_n 0, 1) := by decide +kernel
theorem dX12_planned_64 : decode cX12_planned 64 = .ok (.invokevirtual 359, 3) := by decide +kernel
theorem dX12_planned_67 : decode cX12_planned 67 = .ok (.istore_n 1, 1) := by decide +kernel
theorem dX12_planned_68 : decode cX12_planned 68 = .ok (.aload_n 0, 1) := by decide +kernel
theorem dX12_planned_69 : decode cX12_planned 69 = .ok (.invokevirtual 362, 3) := by decide +kernel
theorem dX12_planned_72 : decode cX12_planned 72 = .ok (.iload_n 1, 1) := by decide +kernel
theorem dX12_planned_73 : decode cX12_planned 73 = .ok (.ireturn, 1) := by decide +kernel
set_option maxRecDepth 20000 in
theorem ggX12_book_X12_isMower : GoodIn wsX12_book wsX12_isMower := goodIn_s _ [(7, 5), (6, 1), (12, 76)] rfl (by decide +kernel)
set_option maxRecDepth 20000 in
theorem gX12_book_X12_isMower : GoodIn wsX12_book (wsV RX12 243 RX12 yX12_isMower wsX12_isMower) := goodIn_app (goodIn_of _ (by decide +kernel)) ggX12_book_X12_isMower
theorem dX12_book_0 : decode cX12_book 0 = .ok (.iload_n 1, 1) := by decide +kernel
theorem dX12_book_1 : decode cX12_book 1 = .ok (.iconst (-1), 1) := by decide +kernel
theorem dX12_book_2 : decode cX12_book 2 = .ok (.if_icmp .ne 10, 3) := by decide +kernel
theorem dX12_book_5 : decode cX12_book 5 = .ok (.aload_n 0, 1) := by decide +kernel
theorem dX12_book_6 : decode cX12_book 6 = .ok (.iconst 0, 1) := by decide +kernel
theorem dX12_book_7 : decode cX12_book 7 = .ok (.putfield 150, 3) := by decide +kernel
theorem dX12_book_10 : decode cX12_book 10 = .ok (.iconst 0, 1) := by decide +kernel
theorem dX12_book_11 : decode cX12_book 11 = .ok (.ireturn, 1) := by decide +kernel
theorem dX12_book_12 : decode cX12_book 12 = .ok (.aload_n 0, 1) := by decide +kernel
theorem dX12_book_13 : decode cX12_book 13 = .ok (.iload_n 1, 1) := by decide +kernel
theorem dX12_book_14 : decode cX12_book 14 = .ok (.invokevirtual 243, 3) := by decide +kernel
theorem dX12_book_17 : decode cX12_book 17 = .ok (.ifCond .ne 5, 3) := by decide +kernel
theorem dX12_book_20 : decode cX12_book 20 = .ok (.iconst (-1), 1) := by decide +kernel
theorem dX12_book_21 : decode cX12_book 21 = .ok (.ireturn, 1) := by decide +kernel
theorem dX12_book_22 : decode cX12_book 22 = .ok (.aload_n 0, 1) := by decide +kernel
theorem dX12_book_23 : decode cX12_book 23 = .ok (.getfield 150, 3) := by decide +kernel
theorem dX12_book_26 : decode cX12_book 26 = .ok (.bipush 8, 2) := by decide +kernel
theorem dX12_book_28 : decode cX12_book 28 = .ok (.if_icmp .ne 6, 3) := by decide +kernel
theorem dX12_book_31 : decode cX12_book 31 = .ok (.bipush (-4), 2) := by decide +kernel
theorem dX12_book_33 : decode cX12_book 33 = .ok (.ireturn, 1) := by decide +kernel
theorem dX12_book_34 : decode cX12_book 34 = .ok (.aload_n 0, 1) := by decide +kernel
theorem dX12_book_35 : decode cX12_book 35 = .ok (.getfield 156, 3) := by decide +kernel
theorem dX12_book_38 : decode cX12_book 38 = .ok (.aload_n 0, 1) := by decide +kernel
theorem dX12_book_39 : decode cX12_book 39 = .ok (.getfield 150, 3) := by decide +kernel
theorem dX12_book_42 : decode cX12_book 42 = .ok (.iload_n 1, 1) := by decide +kernel
theorem dX12_book_43 : decode cX12_book 43 = .ok (.iastore, 1) := by decide +kernel
theorem dX12_book_44 : decode cX12_book 44 = .ok (.aload_n 0, 1) := by decide +kernel
theorem dX12_book_45 : decode cX12_book 45 = .ok (.dup, 1) := by decide +kernel
theorem dX12_book_46 : decode cX12_book 46 = .ok (.getfield 150, 3) := by decide +kernel
theorem dX12_book_49 : decode cX12_book 49 = .ok (.iconst 1, 1) := by decide +kernel
theorem dX12_book_50 : decode cX12_book 50 = .ok (.iadd, 1) := by decide +kernel
theorem dX12_book_51 : decode cX12_book 51 = .ok (.putfield 150, 3) := by decide +kernel
theorem dX12_book_54 : decode cX12_book 54 = .ok (.aload_n 0, 1) := by decide +kernel
theorem dX12_book_55 : decode cX12_book 55 = .ok (.getfield 150, 3) := by decide +kernel
theorem dX12_book_58 : decode cX12_book 58 = .ok (.ireturn, 1) := by decide +kernel
set_option maxRecDepth 20000 in
theorem ggX12_looked_X12_save : GoodIn wsX12_looked wsX12_save := goodIn_s _ [(7, 12), (103, 75)] rfl (by decide +kernel)
set_option maxRecDepth 20000 in
theorem gX12_looked_X12_save : GoodIn wsX12_looked (wsV RX12 353 RX12 yX12_save wsX12_save) := goodIn_app (goodIn_of _ (by decide +kernel)) ggX12_looked_X12_save
set_option maxRecDepth 20000 in
theorem ggX12_looked_X12_goMinute : GoodIn wsX12_looked wsX12_goMinute := goodIn_s _ [(22, 4), (18, 1), (8, 1), (26, 3), (6, 1), (29, 1), (13, 1), (30, 30), (15, 1), (60, 18), (11, 1), (78, 13), (17, 1), (91, 4), (103, 75)] rfl (by decide +kernel)
set_option maxRecDepth 20000 in
theorem gX12_looked_X12_goMinute : GoodIn wsX12_looked (wsV RX12 344 RX12 yX12_goMinute wsX12_goMinute) := goodIn_app (goodIn_of _ (by decide +kernel)) ggX12_looked_X12_goMinute
set_option maxRecDepth 20000 in
theorem ggX12_looked_X12_putBack : GoodIn wsX12_looked wsX12_putBack := goodIn_s _ [(98, 1), (9, 1), (8, 1), (11, 1), (10, 1), (13, 1), (12, 1), (15, 1), (14, 1), (17, 1), (16, 1), (103, 75)] rfl (by decide +kernel)
set_option maxRecDepth 20000 in
theorem gX12_looked_X12_putBack : GoodIn wsX12_looked (wsV RX12 362 RX12 yX12_putBack wsX12_putBack) := goodIn_app (goodIn_of _ (by decide +kernel)) ggX12_looked_X12_putBack
set_option maxRecDepth 20000 in
theorem ggX12_looked_X12_has : GoodIn wsX12_looked wsX12_has := goodIn_s _ [(102, 1)] rfl (by decide +kernel)
set_option maxRecDepth 20000 in
theorem gX12_looked_X12_has : GoodIn wsX12_looked (wsV RX12 368 RX12 yX12_has wsX12_has) := goodIn_app (goodIn_of _ (by decide +kernel)) ggX12_looked_X12_has
theorem dX12_looked_0 : decode cX12_looked 0 = .ok (.aload_n 0, 1) := by decide +kernel
theorem dX12_looked_1 : decode cX12_looked 1 = .ok (.invokevirtual 353, 3) := by decide +kernel
theorem dX12_looked_4 : decode cX12_looked 4 = .ok (.aload_n 0, 1) := by decide +kernel
theorem dX12_looked_5 : decode cX12_looked 5 = .ok (.invokevirtual 344, 3) := by decide +kernel
theorem dX12_looked_8 : decode cX12_looked 8 = .ok (.istore_n 1, 1) := by decide +kernel
theorem dX12_looked_9 : decode cX12_looked 9 = .ok (.aload_n 0, 1) := by decide +kernel
theorem dX12_looked_10 : decode cX12_looked 10 = .ok (.invokevirtual 362, 3) := by decide +kernel
theorem dX12_looked_13 : decode cX12_looked 13 = .ok (.iconst 0, 1) := by decide +kernel
theorem dX12_looked_14 : decode cX12_looked 14 = .ok (.istore_n 2, 1) := by decide +kernel
theorem dX12_looked_15 : decode cX12_looked 15 = .ok (.iload_n 2, 1) := by decide +kernel
theorem dX12_looked_16 : decode cX12_looked 16 = .ok (.aload_n 0, 1) := by decide +kernel
theorem dX12_looked_17 : decode cX12_looked 17 = .ok (.getfield 150, 3) := by decide +kernel
theorem dX12_looked_20 : decode cX12_looked 20 = .ok (.if_icmp .ge 25, 3) := by decide +kernel
theorem dX12_looked_23 : decode cX12_looked 23 = .ok (.aload_n 0, 1) := by decide +kernel
theorem dX12_looked_24 : decode cX12_looked 24 = .ok (.iload_n 1, 1) := by decide +kernel
theorem dX12_looked_25 : decode cX12_looked 25 = .ok (.aload_n 0, 1) := by decide +kernel
theorem dX12_looked_26 : decode cX12_looked 26 = .ok (.getfield 156, 3) := by decide +kernel
theorem dX12_looked_29 : decode cX12_looked 29 = .ok (.iload_n 2, 1) := by decide +kernel
theorem dX12_looked_30 : decode cX12_looked 30 = .ok (.iaload, 1) := by decide +kernel
theorem dX12_looked_31 : decode cX12_looked 31 = .ok (.invokevirtual 368, 3) := by decide +kernel
theorem dX12_looked_34 : decode cX12_looked 34 = .ok (.ifCond .ne 5, 3) := by decide +kernel
theorem dX12_looked_37 : decode cX12_looked 37 = .ok (.iload_n 2, 1) := by decide +kernel
theorem dX12_looked_38 : decode cX12_looked 38 = .ok (.ireturn, 1) := by decide +kernel
theorem dX12_looked_39 : decode cX12_looked 39 = .ok (.iinc 2 1, 3) := by decide +kernel
theorem dX12_looked_42 : decode cX12_looked 42 = .ok (.goto (-27), 3) := by decide +kernel
theorem dX12_looked_45 : decode cX12_looked 45 = .ok (.bipush (-5), 2) := by decide +kernel
theorem dX12_looked_47 : decode cX12_looked 47 = .ok (.ireturn, 1) := by decide +kernel
set_option maxRecDepth 20000 in
theorem ggX12_judge_X12_isTape : GoodIn wsX12_judge wsX12_isTape := goodIn_s _ [(10, 4), (9, 1), (14, 1)] rfl (by decide +kernel)
set_option maxRecDepth 20000 in
theorem gX12_judge_X12_isTape : GoodIn wsX12_judge (wsV RX12 403 RX12 yX12_isTape wsX12_isTape) := goodIn_app (goodIn_of _ (by decide +kernel)) ggX12_judge_X12_isTape
theorem dX12_judge_0 : decode cX12_judge 0 = .ok (.aload_n 0, 1) := by decide +kernel
theorem dX12_judge_1 : decode cX12_judge 1 = .ok (.iload_n 1, 1) := by decide +kernel
theorem dX12_judge_2 : decode cX12_judge 2 = .ok (.invokevirtual 403, 3) := by decide +kernel
theorem dX12_judge_5 : decode cX12_judge 5 = .ok (.ifCond .ne 5, 3) := by decide +kernel
theorem dX12_judge_8 : decode cX12_judge 8 = .ok (.iconst (-1), 1) := by decide +kernel
theorem dX12_judge_9 : decode cX12_judge 9 = .ok (.ireturn, 1) := by decide +kernel
theorem dX12_judge_10 : decode cX12_judge 10 = .ok (.aload_n 0, 1) := by decide +kernel
theorem dX12_judge_11 : decode cX12_judge 11 = .ok (.getfield 226, 3) := by decide +kernel
theorem dX12_judge_14 : decode cX12_judge 14 = .ok (.iload_n 1, 1) := by decide +kernel
theorem dX12_judge_15 : decode cX12_judge 15 = .ok (.iaload, 1) := by decide +kernel
theorem dX12_judge_16 : decode cX12_judge 16 = .ok (.ifCond .lt 16, 3) := by decide +kernel
theorem dX12_judge_19 : decode cX12_judge 19 = .ok (.aload_n 0, 1) := by decide +kernel
theorem dX12_judge_20 : decode cX12_judge 20 = .ok (.getfield 226, 3) := by decide +kernel
theorem dX12_judge_23 : decode cX12_judge 23 = .ok (.iload_n 1, 1) := by decide +kernel
theorem dX12_judge_24 : decode cX12_judge 24 = .ok (.iaload, 1) := by decide +kernel
theorem dX12_judge_25 : decode cX12_judge 25 = .ok (.iconst 1, 1) := by decide +kernel
theorem dX12_judge_26 : decode cX12_judge 26 = .ok (.if_icmp .eq 6, 3) := by decide +kernel
theorem dX12_judge_29 : decode cX12_judge 29 = .ok (.bipush (-12), 2) := by decide +kernel
theorem dX12_judge_31 : decode cX12_judge 31 = .ok (.ireturn, 1) := by decide +kernel
theorem dX12_judge_32 : decode cX12_judge 32 = .ok (.iconst 0, 1) := by decide +kernel
theorem dX12_judge_33 : decode cX12_judge 33 = .ok (.istore_n 3, 1) := by decide +kernel
theorem dX12_judge_34 : decode cX12_judge 34 = .ok (.iload_n 3, 1) := by decide +kernel
theorem dX12_judge_35 : decode cX12_judge 35 = .ok (.aload_n 0, 1) := by decide +kernel
theorem dX12_judge_36 : decode cX12_judge 36 = .ok (.getfield 7, 3) := by decide +kernel
theorem dX12_judge_39 : decode cX12_judge 39 = .ok (.if_icmp .ge 67, 3) := by decide +kernel
theorem dX12_judge_42 : decode cX12_judge 42 = .ok (.aload_n 0, 1) := by decide +kernel
theorem dX12_judge_43 : decode cX12_judge 43 = .ok (.getfield 226, 3) := by decide +kernel
theorem dX12_judge_46 : decode cX12_judge 46 = .ok (.iload_n 1, 1) := by decide +kernel
theorem dX12_judge_47 : decode cX12_judge 47 = .ok (.iaload, 1) := by decide +kernel
theorem dX12_judge_48 : decode cX12_judge 48 = .ok (.ifCond .lt 21, 3) := by decide +kernel
theorem dX12_judge_51 : decode cX12_judge 51 = .ok (.iload_n 2, 1) := by decide +kernel
theorem dX12_judge_52 : decode cX12_judge 52 = .ok (.ifCond .lt 17, 3) := by decide +kernel
theorem dX12_judge_55 : decode cX12_judge 55 = .ok (.iload_n 2, 1) := by decide +kernel
theorem dX12_judge_56 : decode cX12_judge 56 = .ok (.aload_n 0, 1) := by decide +kernel
theorem dX12_judge_57 : decode cX12_judge 57 = .ok (.getfield 229, 3) := by decide +kernel
theorem dX12_judge_60 : decode cX12_judge 60 = .ok (.iload_n 1, 1) := by decide +kernel
theorem dX12_judge_61 : decode cX12_judge 61 = .ok (.iaload, 1) := by decide +kernel
theorem dX12_judge_62 : decode cX12_judge 62 = .ok (.iload_n 3, 1) := by decide +kernel
theorem dX12_judge_63 : decode cX12_judge 63 = .ok (.isub, 1) := by decide +kernel
theorem dX12_judge_64 : decode cX12_judge 64 = .ok (.iconst 1, 1) := by decide +kernel
theorem dX12_judge_65 : decode cX12_judge 65 = .ok (.isub, 1) := by decide +kernel
theorem dX12_judge_66 : decode cX12_judge 66 = .ok (.if_icmp .le 8, 3) := by decide +kernel
theorem dX12_judge_69 : decode cX12_judge 69 = .ok (.bipush 100, 2) := by decide +kernel
theorem dX12_judge_71 : decode cX12_judge 71 = .ok (.iload_n 3, 1) := by decide +kernel
theorem dX12_judge_72 : decode cX12_judge 72 = .ok (.iadd, 1) := by decide +kernel
theorem dX12_judge_73 : decode cX12_judge 73 = .ok (.ireturn, 1) := by decide +kernel
theorem dX12_judge_74 : decode cX12_judge 74 = .ok (.aload_n 0, 1) := by decide +kernel
theorem dX12_judge_75 : decode cX12_judge 75 = .ok (.getfield 232, 3) := by decide +kernel
theorem dX12_judge_78 : decode cX12_judge 78 = .ok (.bipush 60, 2) := by decide +kernel
theorem dX12_judge_80 : decode cX12_judge 80 = .ok (.iload_n 1, 1) := by decide +kernel
theorem dX12_judge_81 : decode cX12_judge 81 = .ok (.imul, 1) := by decide +kernel
theorem dX12_judge_82 : decode cX12_judge 82 = .ok (.iload_n 2, 1) := by decide +kernel
theorem dX12_judge_83 : decode cX12_judge 83 = .ok (.iadd, 1) := by decide +kernel
theorem dX12_judge_84 : decode cX12_judge 84 = .ok (.iload_n 3, 1) := by decide +kernel
theorem dX12_judge_85 : decode cX12_judge 85 = .ok (.iadd, 1) := by decide +kernel
theorem dX12_judge_86 : decode cX12_judge 86 = .ok (.laload, 1) := by decide +kernel
theorem dX12_judge_87 : decode cX12_judge 87 = .ok (.aload_n 0, 1) := by decide +kernel
theorem dX12_judge_88 : decode cX12_judge 88 = .ok (.getfield 26, 3) := by decide +kernel
theorem dX12_judge_91 : decode cX12_judge 91 = .ok (.iload_n 3, 1) := by decide +kernel
theorem dX12_judge_92 : decode cX12_judge 92 = .ok (.iaload, 1) := by decide +kernel
theorem dX12_judge_93 : decode cX12_judge 93 = .ok (.i2l, 1) := by decide +kernel
theorem dX12_judge_94 : decode cX12_judge 94 = .ok (.lcmp, 1) := by decide +kernel
theorem dX12_judge_95 : decode cX12_judge 95 = .ok (.ifCond .eq 5, 3) := by decide +kernel
theorem dX12_judge_98 : decode cX12_judge 98 = .ok (.iload_n 3, 1) := by decide +kernel
theorem dX12_judge_99 : decode cX12_judge 99 = .ok (.ireturn, 1) := by decide +kernel
theorem dX12_judge_100 : decode cX12_judge 100 = .ok (.iinc 3 1, 3) := by decide +kernel
theorem dX12_judge_103 : decode cX12_judge 103 = .ok (.goto (-69), 3) := by decide +kernel
theorem dX12_judge_106 : decode cX12_judge 106 = .ok (.bipush (-5), 2) := by decide +kernel
theorem dX12_judge_108 : decode cX12_judge 108 = .ok (.ireturn, 1) := by decide +kernel
theorem dX12_image_0 : decode cX12_image 0 = .ok (.aload_n 0, 1) := by decide +kernel
theorem dX12_image_1 : decode cX12_image 1 = .ok (.iconst 1, 1) := by decide +kernel
theorem dX12_image_2 : decode cX12_image 2 = .ok (.putfield 159, 3) := by decide +kernel
theorem dX12_image_5 : decode cX12_image 5 = .ok (.aload_n 0, 1) := by decide +kernel
theorem dX12_image_6 : decode cX12_image 6 = .ok (.aload_n 0, 1) := by decide +kernel
theorem dX12_image_7 : decode cX12_image 7 = .ok (.getfield 47, 3) := by decide +kernel
theorem dX12_image_10 : decode cX12_image 10 = .ok (.putfield 163, 3) := by decide +kernel
theorem dX12_image_13 : decode cX12_image 13 = .ok (.aload_n 0, 1) := by decide +kernel
theorem dX12_image_14 : decode cX12_image 14 = .ok (.aload_n 0, 1) := by decide +kernel
theorem dX12_image_15 : decode cX12_image 15 = .ok (.getfield 7, 3) := by decide +kernel
theorem dX12_image_18 : decode cX12_image 18 = .ok (.putfield 166, 3) := by decide +kernel
theorem dX12_image_21 : decode cX12_image 21 = .ok (.aload_n 0, 1) := by decide +kernel
theorem dX12_image_22 : decode cX12_image 22 = .ok (.aload_n 0, 1) := by decide +kernel
theorem dX12_image_23 : decode cX12_image 23 = .ok (.getfield 13, 3) := by decide +kernel
theorem dX12_image_26 : decode cX12_image 26 = .ok (.putfield 169, 3) := by decide +kernel
theorem dX12_image_29 : decode cX12_image 29 = .ok (.aload_n 0, 1) := by decide +kernel
theorem dX12_image_30 : decode cX12_image 30 = .ok (.aload_n 0, 1) := by decide +kernel
theorem dX12_image_31 : decode cX12_image 31 = .ok (.getfield 135, 3) := by decide +kernel
theorem dX12_image_34 : decode cX12_image 34 = .ok (.putfield 172, 3) := by decide +kernel
theorem dX12_image_37 : decode cX12_image 37 = .ok (.aload_n 0, 1) := by decide +kernel
theorem dX12_image_38 : decode cX12_image 38 = .ok (.aload_n 0, 1) := by decide +kernel
theorem dX12_image_39 : decode cX12_image 39 = .ok (.getfield 147, 3) := by decide +kernel
theorem dX12_image_42 : decode cX12_image 42 = .ok (.putfield 175, 3) := by decide +kernel
theorem dX12_image_45 : decode cX12_image 45 = .ok (.aload_n 0, 1) := by decide +kernel
theorem dX12_image_46 : decode cX12_image 46 = .ok (.aload_n 0, 1) := by decide +kernel
theorem dX12_image_47 : decode cX12_image 47 = .ok (.getfield 150, 3) := by decide +kernel
theorem dX12_image_50 : decode cX12_image 50 = .ok (.putfield 178, 3) := by decide +kernel
theorem dX12_image_53 : decode cX12_image 53 = .ok (.iconst 0, 1) := by decide +kernel
theorem dX12_image_54 : decode cX12_image 54 = .ok (.istore_n 1, 1) := by decide +kernel
theorem dX12_image_55 : decode cX12_image 55 = .ok (.iload_n 1, 1) := by decide +kernel
theorem dX12_image_56 : decode cX12_image 56 = .ok (.bipush 6, 2) := by decide +kernel
theorem dX12_image_58 : decode cX12_image 58 = .ok (.if_icmp .ge 129, 3) := by decide +kernel
theorem dX12_image_61 : decode cX12_image 61 = .ok (.aload_n 0, 1) := by decide +kernel
theorem dX12_image_62 : decode cX12_image 62 = .ok (.getfield 181, 3) := by decide +kernel
theorem dX12_image_65 : decode cX12_image 65 = .ok (.iload_n 1, 1) := by decide +kernel
theorem dX12_image_66 : decode cX12_image 66 = .ok (.aload_n 0, 1) := by decide +kernel
theorem dX12_image_67 : decode cX12_image 67 = .ok (.getfield 19, 3) := by decide +kernel
theorem dX12_image_70 : decode cX12_image 70 = .ok (.iload_n 1, 1) := by decide +kernel
theorem dX12_image_71 : decode cX12_image 71 = .ok (.iaload, 1) := by decide +kernel
theorem dX12_image_72 : decode cX12_image 72 = .ok (.iastore, 1) := by decide +kernel
theorem dX12_image_73 : decode cX12_image 73 = .ok (.aload_n 0, 1) := by decide +kernel
theorem dX12_image_74 : decode cX12_image 74 = .ok (.getfield 184, 3) := by decide +kernel
theorem dX12_image_77 : decode cX12_image 77 = .ok (.iload_n 1, 1) := by decide +kernel
theorem dX12_image_78 : decode cX12_image 78 = .ok (.aload_n 0, 1) := by decide +kernel
theorem dX12_image_79 : decode cX12_image 79 = .ok (.getfield 23, 3) := by decide +kernel
theorem dX12_image_82 : decode cX12_image 82 = .ok (.iload_n 1, 1) := by decide +kernel
theorem dX12_image_83 : decode cX12_image 83 = .ok (.iaload, 1) := by decide +kernel
theorem dX12_image_84 : decode cX12_image 84 = .ok (.iastore, 1) := by decide +kernel
theorem dX12_image_85 : decode cX12_image 85 = .ok (.aload_n 0, 1) := by decide +kernel
theorem dX12_image_86 : decode cX12_image 86 = .ok (.getfield 187, 3) := by decide +kernel
theorem dX12_image_89 : decode cX12_image 89 = .ok (.iload_n 1, 1) := by decide +kernel
theorem dX12_image_90 : decode cX12_image 90 = .ok (.aload_n 0, 1) := by decide +kernel
theorem dX12_image_91 : decode cX12_image 91 = .ok (.getfield 26, 3) := by decide +kernel
theorem dX12_image_94 : decode cX12_image 94 = .ok (.iload_n 1, 1) := by decide +kernel
theorem dX12_image_95 : decode cX12_image 95 = .ok (.iaload, 1) := by decide +kernel
theorem dX12_image_96 : decode cX12_image 96 = .ok (.iastore, 1) := by decide +kernel
theorem dX12_image_97 : decode cX12_image 97 = .ok (.aload_n 0, 1) := by decide +kernel
theorem dX12_image_98 : decode cX12_image 98 = .ok (.getfield 190, 3) := by decide +kernel
theorem dX12_image_101 : decode cX12_image 101 = .ok (.iload_n 1, 1) := by decide +kernel
theorem dX12_image_102 : decode cX12_image 102 = .ok (.aload_n 0, 1) := by decide +kernel
theorem dX12_image_103 : decode cX12_image 103 = .ok (.getfield 29, 3) := by decide +kernel
theorem dX12_image_106 : decode cX12_image 106 = .ok (.iload_n 1, 1) := by decide +kernel
theorem dX12_image_107 : decode cX12_image 107 = .ok (.iaload, 1) := by decide +kernel
theorem dX12_image_108 : decode cX12_image 108 = .ok (.iastore, 1) := by decide +kernel
theorem dX12_image_109 : decode cX12_image 109 = .ok (.aload_n 0, 1) := by decide +kernel
theorem dX12_image_110 : decode cX12_image 110 = .ok (.getfield 193, 3) := by decide +kernel
theorem dX12_image_113 : decode cX12_image 113 = .ok (.iload_n 1, 1) := by decide +kernel
theorem dX12_image_114 : decode cX12_image 114 = .ok (.aload_n 0, 1) := by decide +kernel
theorem dX12_image_115 : decode cX12_image 115 = .ok (.getfield 32, 3) := by decide +kernel
theorem dX12_image_118 : decode cX12_image 118 = .ok (.iload_n 1, 1) := by decide +kernel
theorem dX12_image_119 : decode cX12_image 119 = .ok (.iaload, 1) := by decide +kernel
theorem dX12_image_120 : decode cX12_image 120 = .ok (.iastore, 1) := by decide +kernel
theorem dX12_image_121 : decode cX12_image 121 = .ok (.aload_n 0, 1) := by decide +kernel
theorem dX12_image_122 : decode cX12_image 122 = .ok (.getfield 196, 3) := by decide +kernel
theorem dX12_image_125 : decode cX12_image 125 = .ok (.iload_n 1, 1) := by decide +kernel
theorem dX12_image_126 : decode cX12_image 126 = .ok (.aload_n 0, 1) := by decide +kernel
theorem dX12_image_127 : decode cX12_image 127 = .ok (.getfield 35, 3) := by decide +kernel
theorem dX12_image_130 : decode cX12_image 130 = .ok (.iload_n 1, 1) := by decide +kernel
theorem dX12_image_131 : decode cX12_image 131 = .ok (.iaload, 1) := by decide +kernel
theorem dX12_image_132 : decode cX12_image 132 = .ok (.iastore, 1) := by decide +kernel
theorem dX12_image_133 : decode cX12_image 133 = .ok (.aload_n 0, 1) := by decide +kernel
theorem dX12_image_134 : decode cX12_image 134 = .ok (.getfield 199, 3) := by decide +kernel
theorem dX12_image_137 : decode cX12_image 137 = .ok (.iload_n 1, 1) := by decide +kernel
theorem dX12_image_138 : decode cX12_image 138 = .ok (.aload_n 0, 1) := by decide +kernel
theorem dX12_image_139 : decode cX12_image 139 = .ok (.getfield 41, 3) := by decide +kernel
theorem dX12_image_142 : decode cX12_image 142 = .ok (.iload_n 1, 1) := by decide +kernel
theorem dX12_image_143 : decode cX12_image 143 = .ok (.iaload, 1) := by decide +kernel
theorem dX12_image_144 : decode cX12_image 144 = .ok (.iastore, 1) := by decide +kernel
theorem dX12_image_145 : decode cX12_image 145 = .ok (.aload_n 0, 1) := by decide +kernel
theorem dX12_image_146 : decode cX12_image 146 = .ok (.getfield 205, 3) := by decide +kernel
