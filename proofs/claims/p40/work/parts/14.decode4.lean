set_option maxRecDepth 20000 in
theorem ggX12_takesHead_X12_next : GoodIn wsX12_takesHead wsX12_next := goodIn_s _ [(6, 4), (19, 75)] rfl (by decide +kernel)
set_option maxRecDepth 20000 in
theorem gX12_takesHead_X12_next : GoodIn wsX12_takesHead (wsV RX12 251 RX12 yX12_next wsX12_next) := goodIn_app (goodIn_of _ (by decide +kernel)) ggX12_takesHead_X12_next
set_option maxRecDepth 20000 in
theorem ggX12_takesHead_X12_takesWord : GoodIn wsX12_takesHead wsX12_takesWord := goodIn_s _ [(13, 5), (5, 1), (18, 1), (7, 1), (2, 3), (6, 1), (8, 2), (19, 75)] rfl (by decide +kernel)
set_option maxRecDepth 20000 in
theorem gX12_takesHead_X12_takesWord : GoodIn wsX12_takesHead (wsV RX12 281 RX12 yX12_takesWord wsX12_takesWord) := goodIn_app (goodIn_of _ (by decide +kernel)) ggX12_takesHead_X12_takesWord
theorem dX12_takesHead_0 : decode cX12_takesHead 0 = .ok (.aload_n 0, 1) := by decide +kernel
theorem dX12_takesHead_1 : decode cX12_takesHead 1 = .ok (.invokevirtual 251, 3) := by decide +kernel
theorem dX12_takesHead_4 : decode cX12_takesHead 4 = .ok (.lookupswitch 102 #[(102, 44), (103, 72), (115, 58), (116, 87)], 44) := by decide +kernel
theorem dX12_takesHead_48 : decode cX12_takesHead 48 = .ok (.aload_n 0, 1) := by decide +kernel
theorem dX12_takesHead_49 : decode cX12_takesHead 49 = .ok (.getfield 65, 3) := by decide +kernel
theorem dX12_takesHead_52 : decode cX12_takesHead 52 = .ok (.iload_n 1, 1) := by decide +kernel
theorem dX12_takesHead_53 : decode cX12_takesHead 53 = .ok (.iconst 0, 1) := by decide +kernel
theorem dX12_takesHead_54 : decode cX12_takesHead 54 = .ok (.iastore, 1) := by decide +kernel
theorem dX12_takesHead_55 : decode cX12_takesHead 55 = .ok (.aload_n 0, 1) := by decide +kernel
theorem dX12_takesHead_56 : decode cX12_takesHead 56 = .ok (.iconst 0, 1) := by decide +kernel
theorem dX12_takesHead_57 : decode cX12_takesHead 57 = .ok (.iconst 4, 1) := by decide +kernel
theorem dX12_takesHead_58 : decode cX12_takesHead 58 = .ok (.invokevirtual 281, 3) := by decide +kernel
theorem dX12_takesHead_61 : decode cX12_takesHead 61 = .ok (.ireturn, 1) := by decide +kernel
theorem dX12_takesHead_62 : decode cX12_takesHead 62 = .ok (.aload_n 0, 1) := by decide +kernel
theorem dX12_takesHead_63 : decode cX12_takesHead 63 = .ok (.getfield 65, 3) := by decide +kernel
theorem dX12_takesHead_66 : decode cX12_takesHead 66 = .ok (.iload_n 1, 1) := by decide +kernel
theorem dX12_takesHead_67 : decode cX12_takesHead 67 = .ok (.iconst 1, 1) := by decide +kernel
theorem dX12_takesHead_68 : decode cX12_takesHead 68 = .ok (.iastore, 1) := by decide +kernel
theorem dX12_takesHead_69 : decode cX12_takesHead 69 = .ok (.aload_n 0, 1) := by decide +kernel
theorem dX12_takesHead_70 : decode cX12_takesHead 70 = .ok (.iconst 4, 1) := by decide +kernel
theorem dX12_takesHead_71 : decode cX12_takesHead 71 = .ok (.iconst 4, 1) := by decide +kernel
theorem dX12_takesHead_72 : decode cX12_takesHead 72 = .ok (.invokevirtual 281, 3) := by decide +kernel
theorem dX12_takesHead_75 : decode cX12_takesHead 75 = .ok (.ireturn, 1) := by decide +kernel
theorem dX12_takesHead_76 : decode cX12_takesHead 76 = .ok (.aload_n 0, 1) := by decide +kernel
theorem dX12_takesHead_77 : decode cX12_takesHead 77 = .ok (.getfield 65, 3) := by decide +kernel
theorem dX12_takesHead_80 : decode cX12_takesHead 80 = .ok (.iload_n 1, 1) := by decide +kernel
theorem dX12_takesHead_81 : decode cX12_takesHead 81 = .ok (.iconst 2, 1) := by decide +kernel
theorem dX12_takesHead_82 : decode cX12_takesHead 82 = .ok (.iastore, 1) := by decide +kernel
theorem dX12_takesHead_83 : decode cX12_takesHead 83 = .ok (.aload_n 0, 1) := by decide +kernel
theorem dX12_takesHead_84 : decode cX12_takesHead 84 = .ok (.bipush 8, 2) := by decide +kernel
theorem dX12_takesHead_86 : decode cX12_takesHead 86 = .ok (.iconst 3, 1) := by decide +kernel
theorem dX12_takesHead_87 : decode cX12_takesHead 87 = .ok (.invokevirtual 281, 3) := by decide +kernel
theorem dX12_takesHead_90 : decode cX12_takesHead 90 = .ok (.ireturn, 1) := by decide +kernel
theorem dX12_takesHead_91 : decode cX12_takesHead 91 = .ok (.aload_n 0, 1) := by decide +kernel
theorem dX12_takesHead_92 : decode cX12_takesHead 92 = .ok (.getfield 65, 3) := by decide +kernel
theorem dX12_takesHead_95 : decode cX12_takesHead 95 = .ok (.iload_n 1, 1) := by decide +kernel
theorem dX12_takesHead_96 : decode cX12_takesHead 96 = .ok (.iconst 3, 1) := by decide +kernel
theorem dX12_takesHead_97 : decode cX12_takesHead 97 = .ok (.iastore, 1) := by decide +kernel
theorem dX12_takesHead_98 : decode cX12_takesHead 98 = .ok (.aload_n 0, 1) := by decide +kernel
theorem dX12_takesHead_99 : decode cX12_takesHead 99 = .ok (.bipush 11, 2) := by decide +kernel
theorem dX12_takesHead_101 : decode cX12_takesHead 101 = .ok (.iconst 4, 1) := by decide +kernel
theorem dX12_takesHead_102 : decode cX12_takesHead 102 = .ok (.invokevirtual 281, 3) := by decide +kernel
theorem dX12_takesHead_105 : decode cX12_takesHead 105 = .ok (.ireturn, 1) := by decide +kernel
theorem dX12_takesHead_106 : decode cX12_takesHead 106 = .ok (.aload_n 0, 1) := by decide +kernel
theorem dX12_takesHead_107 : decode cX12_takesHead 107 = .ok (.getfield 65, 3) := by decide +kernel
theorem dX12_takesHead_110 : decode cX12_takesHead 110 = .ok (.iload_n 1, 1) := by decide +kernel
theorem dX12_takesHead_111 : decode cX12_takesHead 111 = .ok (.iconst 4, 1) := by decide +kernel
theorem dX12_takesHead_112 : decode cX12_takesHead 112 = .ok (.iastore, 1) := by decide +kernel
theorem dX12_takesHead_113 : decode cX12_takesHead 113 = .ok (.aload_n 0, 1) := by decide +kernel
theorem dX12_takesHead_114 : decode cX12_takesHead 114 = .ok (.bipush 15, 2) := by decide +kernel
theorem dX12_takesHead_116 : decode cX12_takesHead 116 = .ok (.iconst 4, 1) := by decide +kernel
theorem dX12_takesHead_117 : decode cX12_takesHead 117 = .ok (.invokevirtual 281, 3) := by decide +kernel
theorem dX12_takesHead_120 : decode cX12_takesHead 120 = .ok (.ireturn, 1) := by decide +kernel
set_option maxRecDepth 20000 in
theorem ggX12_takesClause_X12_takesHead : GoodIn wsX12_takesClause wsX12_takesHead := goodIn_s _ [(8, 1), (3, 1), (9, 3), (7, 1), (12, 13), (68, 75)] rfl (by decide +kernel)
set_option maxRecDepth 20000 in
theorem gX12_takesClause_X12_takesHead : GoodIn wsX12_takesClause (wsV RX12 285 RX12 yX12_takesHead wsX12_takesHead) := goodIn_app (goodIn_of _ (by decide +kernel)) ggX12_takesClause_X12_takesHead
set_option maxRecDepth 20000 in
theorem ggX12_takesClause_X12_takesNumber : GoodIn wsX12_takesClause wsX12_takesNumber := goodIn_s _ [(28, 1), (2, 1), (13, 1), (29, 3), (7, 1), (32, 1), (9, 4), (14, 2), (33, 4), (68, 75)] rfl (by decide +kernel)
set_option maxRecDepth 20000 in
theorem gX12_takesClause_X12_takesNumber : GoodIn wsX12_takesClause (wsV RX12 269 RX12 yX12_takesNumber wsX12_takesNumber) := goodIn_app (goodIn_of _ (by decide +kernel)) ggX12_takesClause_X12_takesNumber
set_option maxRecDepth 20000 in
theorem ggX12_takesClause_X12_takes : GoodIn wsX12_takesClause wsX12_takes := goodIn_s _ [(24, 1), (13, 1), (9, 3), (7, 1), (12, 1), (14, 2), (68, 75)] rfl (by decide +kernel)
set_option maxRecDepth 20000 in
theorem gX12_takesClause_X12_takes : GoodIn wsX12_takesClause (wsV RX12 255 RX12 yX12_takes wsX12_takes) := goodIn_app (goodIn_of _ (by decide +kernel)) ggX12_takesClause_X12_takes
set_option maxRecDepth 20000 in
theorem ggX12_takesClause_X12_takesE : GoodIn wsX12_takesClause wsX12_takesE := goodIn_s _ [(40, 6), (13, 1), (46, 1), (9, 3), (7, 1), (12, 1), (14, 2), (47, 4), (2, 1), (51, 4), (33, 4), (25, 8), (55, 88)] rfl (by decide +kernel)
set_option maxRecDepth 20000 in
theorem gX12_takesClause_X12_takesE : GoodIn wsX12_takesClause (wsV RX12 288 RX12 yX12_takesE wsX12_takesE) := goodIn_app (goodIn_of _ (by decide +kernel)) ggX12_takesClause_X12_takesE
theorem dX12_takesClause_0 : decode cX12_takesClause 0 = .ok (.aload_n 0, 1) := by decide +kernel
theorem dX12_takesClause_1 : decode cX12_takesClause 1 = .ok (.iload_n 1, 1) := by decide +kernel
theorem dX12_takesClause_2 : decode cX12_takesClause 2 = .ok (.invokevirtual 285, 3) := by decide +kernel
theorem dX12_takesClause_5 : decode cX12_takesClause 5 = .ok (.ifCond .eq 10, 3) := by decide +kernel
theorem dX12_takesClause_8 : decode cX12_takesClause 8 = .ok (.aload_n 0, 1) := by decide +kernel
theorem dX12_takesClause_9 : decode cX12_takesClause 9 = .ok (.invokevirtual 269, 3) := by decide +kernel
theorem dX12_takesClause_12 : decode cX12_takesClause 12 = .ok (.ifCond .ne 5, 3) := by decide +kernel
theorem dX12_takesClause_15 : decode cX12_takesClause 15 = .ok (.iconst 0, 1) := by decide +kernel
theorem dX12_takesClause_16 : decode cX12_takesClause 16 = .ok (.ireturn, 1) := by decide +kernel
theorem dX12_takesClause_17 : decode cX12_takesClause 17 = .ok (.aload_n 0, 1) := by decide +kernel
theorem dX12_takesClause_18 : decode cX12_takesClause 18 = .ok (.getfield 68, 3) := by decide +kernel
theorem dX12_takesClause_21 : decode cX12_takesClause 21 = .ok (.iload_n 1, 1) := by decide +kernel
theorem dX12_takesClause_22 : decode cX12_takesClause 22 = .ok (.aload_n 0, 1) := by decide +kernel
theorem dX12_takesClause_23 : decode cX12_takesClause 23 = .ok (.getfield 56, 3) := by decide +kernel
theorem dX12_takesClause_26 : decode cX12_takesClause 26 = .ok (.iastore, 1) := by decide +kernel
theorem dX12_takesClause_27 : decode cX12_takesClause 27 = .ok (.aload_n 0, 1) := by decide +kernel
theorem dX12_takesClause_28 : decode cX12_takesClause 28 = .ok (.getfield 65, 3) := by decide +kernel
theorem dX12_takesClause_31 : decode cX12_takesClause 31 = .ok (.iload_n 1, 1) := by decide +kernel
theorem dX12_takesClause_32 : decode cX12_takesClause 32 = .ok (.iaload, 1) := by decide +kernel
theorem dX12_takesClause_33 : decode cX12_takesClause 33 = .ok (.iconst 2, 1) := by decide +kernel
theorem dX12_takesClause_34 : decode cX12_takesClause 34 = .ok (.if_icmp .ge 20, 3) := by decide +kernel
theorem dX12_takesClause_37 : decode cX12_takesClause 37 = .ok (.aload_n 0, 1) := by decide +kernel
theorem dX12_takesClause_38 : decode cX12_takesClause 38 = .ok (.bipush 32, 2) := by decide +kernel
theorem dX12_takesClause_40 : decode cX12_takesClause 40 = .ok (.invokevirtual 255, 3) := by decide +kernel
theorem dX12_takesClause_43 : decode cX12_takesClause 43 = .ok (.ifCond .eq 15, 3) := by decide +kernel
theorem dX12_takesClause_46 : decode cX12_takesClause 46 = .ok (.aload_n 0, 1) := by decide +kernel
theorem dX12_takesClause_47 : decode cX12_takesClause 47 = .ok (.iload_n 1, 1) := by decide +kernel
theorem dX12_takesClause_48 : decode cX12_takesClause 48 = .ok (.invokevirtual 288, 3) := by decide +kernel
theorem dX12_takesClause_51 : decode cX12_takesClause 51 = .ok (.ifCond .eq 7, 3) := by decide +kernel
theorem dX12_takesClause_54 : decode cX12_takesClause 54 = .ok (.iconst 1, 1) := by decide +kernel
theorem dX12_takesClause_55 : decode cX12_takesClause 55 = .ok (.goto 4, 3) := by decide +kernel
theorem dX12_takesClause_58 : decode cX12_takesClause 58 = .ok (.iconst 0, 1) := by decide +kernel
theorem dX12_takesClause_59 : decode cX12_takesClause 59 = .ok (.ireturn, 1) := by decide +kernel
set_option maxRecDepth 20000 in
theorem ggX12_goesText_X12_takesClause : GoodIn wsX12_goesText wsX12_takesClause := goodIn_s _ [(9, 7), (8, 1), (16, 5), (1, 1), (4, 1), (21, 29), (2, 1), (50, 98)] rfl (by decide +kernel)
set_option maxRecDepth 20000 in
theorem gX12_goesText_X12_takesClause : GoodIn wsX12_goesText (wsV RX12 291 RX12 yX12_takesClause wsX12_takesClause) := goodIn_app (goodIn_of _ (by decide +kernel)) ggX12_goesText_X12_takesClause
set_option maxRecDepth 20000 in
theorem ggX12_goesText_X12_takes : GoodIn wsX12_goesText wsX12_takes := goodIn_s _ [(30, 1), (1, 1), (17, 3), (8, 1), (20, 1), (4, 1), (21, 1), (73, 75)] rfl (by decide +kernel)
set_option maxRecDepth 20000 in
theorem gX12_goesText_X12_takes : GoodIn wsX12_goesText (wsV RX12 255 RX12 yX12_takes wsX12_takes) := goodIn_app (goodIn_of _ (by decide +kernel)) ggX12_goesText_X12_takes
theorem dX12_goesText_0 : decode cX12_goesText 0 = .ok (.aload_n 0, 1) := by decide +kernel
theorem dX12_goesText_1 : decode cX12_goesText 1 = .ok (.iconst 0, 1) := by decide +kernel
theorem dX12_goesText_2 : decode cX12_goesText 2 = .ok (.putfield 53, 3) := by decide +kernel
theorem dX12_goesText_5 : decode cX12_goesText 5 = .ok (.aload_n 0, 1) := by decide +kernel
theorem dX12_goesText_6 : decode cX12_goesText 6 = .ok (.bipush 100, 2) := by decide +kernel
theorem dX12_goesText_8 : decode cX12_goesText 8 = .ok (.iload_n 1, 1) := by decide +kernel
theorem dX12_goesText_9 : decode cX12_goesText 9 = .ok (.imul, 1) := by decide +kernel
theorem dX12_goesText_10 : decode cX12_goesText 10 = .ok (.putfield 83, 3) := by decide +kernel
theorem dX12_goesText_13 : decode cX12_goesText 13 = .ok (.iconst 0, 1) := by decide +kernel
theorem dX12_goesText_14 : decode cX12_goesText 14 = .ok (.istore_n 2, 1) := by decide +kernel
theorem dX12_goesText_15 : decode cX12_goesText 15 = .ok (.aload_n 0, 1) := by decide +kernel
theorem dX12_goesText_16 : decode cX12_goesText 16 = .ok (.bipush 10, 2) := by decide +kernel
theorem dX12_goesText_18 : decode cX12_goesText 18 = .ok (.iload_n 1, 1) := by decide +kernel
theorem dX12_goesText_19 : decode cX12_goesText 19 = .ok (.imul, 1) := by decide +kernel
theorem dX12_goesText_20 : decode cX12_goesText 20 = .ok (.iload_n 2, 1) := by decide +kernel
theorem dX12_goesText_21 : decode cX12_goesText 21 = .ok (.iadd, 1) := by decide +kernel
theorem dX12_goesText_22 : decode cX12_goesText 22 = .ok (.invokevirtual 291, 3) := by decide +kernel
theorem dX12_goesText_25 : decode cX12_goesText 25 = .ok (.ifCond .ne 5, 3) := by decide +kernel
theorem dX12_goesText_28 : decode cX12_goesText 28 = .ok (.iconst 0, 1) := by decide +kernel
theorem dX12_goesText_29 : decode cX12_goesText 29 = .ok (.ireturn, 1) := by decide +kernel
theorem dX12_goesText_30 : decode cX12_goesText 30 = .ok (.iinc 2 1, 3) := by decide +kernel
theorem dX12_goesText_33 : decode cX12_goesText 33 = .ok (.aload_n 0, 1) := by decide +kernel
theorem dX12_goesText_34 : decode cX12_goesText 34 = .ok (.getfield 62, 3) := by decide +kernel
theorem dX12_goesText_37 : decode cX12_goesText 37 = .ok (.iload_n 1, 1) := by decide +kernel
theorem dX12_goesText_38 : decode cX12_goesText 38 = .ok (.iload_n 2, 1) := by decide +kernel
theorem dX12_goesText_39 : decode cX12_goesText 39 = .ok (.iastore, 1) := by decide +kernel
theorem dX12_goesText_40 : decode cX12_goesText 40 = .ok (.aload_n 0, 1) := by decide +kernel
theorem dX12_goesText_41 : decode cX12_goesText 41 = .ok (.getfield 53, 3) := by decide +kernel
theorem dX12_goesText_44 : decode cX12_goesText 44 = .ok (.aload_n 0, 1) := by decide +kernel
theorem dX12_goesText_45 : decode cX12_goesText 45 = .ok (.getfield 50, 3) := by decide +kernel
theorem dX12_goesText_48 : decode cX12_goesText 48 = .ok (.if_icmp .ne 5, 3) := by decide +kernel
theorem dX12_goesText_51 : decode cX12_goesText 51 = .ok (.iconst 1, 1) := by decide +kernel
theorem dX12_goesText_52 : decode cX12_goesText 52 = .ok (.ireturn, 1) := by decide +kernel
theorem dX12_goesText_53 : decode cX12_goesText 53 = .ok (.iload_n 2, 1) := by decide +kernel
theorem dX12_goesText_54 : decode cX12_goesText 54 = .ok (.bipush 10, 2) := by decide +kernel
theorem dX12_goesText_56 : decode cX12_goesText 56 = .ok (.if_icmp .eq 12, 3) := by decide +kernel
theorem dX12_goesText_59 : decode cX12_goesText 59 = .ok (.aload_n 0, 1) := by decide +kernel
theorem dX12_goesText_60 : decode cX12_goesText 60 = .ok (.bipush 59, 2) := by decide +kernel
theorem dX12_goesText_62 : decode cX12_goesText 62 = .ok (.invokevirtual 255, 3) := by decide +kernel
theorem dX12_goesText_65 : decode cX12_goesText 65 = .ok (.ifCond .ne (-50), 3) := by decide +kernel
theorem dX12_goesText_68 : decode cX12_goesText 68 = .ok (.iconst 0, 1) := by decide +kernel
theorem dX12_goesText_69 : decode cX12_goesText 69 = .ok (.ireturn, 1) := by decide +kernel
set_option maxRecDepth 20000 in
theorem ggX12_field_X12_goesText : GoodIn wsX12_field wsX12_goesText := goodIn_s _ [(9, 1), (3, 1), (10, 2), (2, 1), (12, 3), (8, 1), (15, 139)] rfl (by decide +kernel)
set_option maxRecDepth 20000 in
theorem gX12_field_X12_goesText : GoodIn wsX12_field (wsV RX12 294 RX12 yX12_goesText wsX12_goesText) := goodIn_app (goodIn_of _ (by decide +kernel)) ggX12_field_X12_goesText
theorem dX12_field_0 : decode cX12_field 0 = .ok (.aload_n 0, 1) := by decide +kernel
theorem dX12_field_1 : decode cX12_field 1 = .ok (.getfield 44, 3) := by decide +kernel
theorem dX12_field_4 : decode cX12_field 4 = .ok (.bipush 6, 2) := by decide +kernel
theorem dX12_field_6 : decode cX12_field 6 = .ok (.if_icmp .ne 6, 3) := by decide +kernel
theorem dX12_field_9 : decode cX12_field 9 = .ok (.bipush (-4), 2) := by decide +kernel
theorem dX12_field_11 : decode cX12_field 11 = .ok (.ireturn, 1) := by decide +kernel
theorem dX12_field_12 : decode cX12_field 12 = .ok (.aload_n 0, 1) := by decide +kernel
theorem dX12_field_13 : decode cX12_field 13 = .ok (.aload_n 0, 1) := by decide +kernel
theorem dX12_field_14 : decode cX12_field 14 = .ok (.getfield 44, 3) := by decide +kernel
theorem dX12_field_17 : decode cX12_field 17 = .ok (.invokevirtual 294, 3) := by decide +kernel
theorem dX12_field_20 : decode cX12_field 20 = .ok (.istore_n 1, 1) := by decide +kernel
theorem dX12_field_21 : decode cX12_field 21 = .ok (.aload_n 0, 1) := by decide +kernel
theorem dX12_field_22 : decode cX12_field 22 = .ok (.iconst 0, 1) := by decide +kernel
theorem dX12_field_23 : decode cX12_field 23 = .ok (.putfield 50, 3) := by decide +kernel
theorem dX12_field_26 : decode cX12_field 26 = .ok (.iload_n 1, 1) := by decide +kernel
theorem dX12_field_27 : decode cX12_field 27 = .ok (.ifCond .ne 11, 3) := by decide +kernel
theorem dX12_field_30 : decode cX12_field 30 = .ok (.bipush (-10), 2) := by decide +kernel
theorem dX12_field_32 : decode cX12_field 32 = .ok (.aload_n 0, 1) := by decide +kernel
theorem dX12_field_33 : decode cX12_field 33 = .ok (.getfield 53, 3) := by decide +kernel
theorem dX12_field_36 : decode cX12_field 36 = .ok (.isub, 1) := by decide +kernel
theorem dX12_field_37 : decode cX12_field 37 = .ok (.ireturn, 1) := by decide +kernel
theorem dX12_field_38 : decode cX12_field 38 = .ok (.aload_n 0, 1) := by decide +kernel
theorem dX12_field_39 : decode cX12_field 39 = .ok (.aload_n 0, 1) := by decide +kernel
theorem dX12_field_40 : decode cX12_field 40 = .ok (.getfield 44, 3) := by decide +kernel
theorem dX12_field_43 : decode cX12_field 43 = .ok (.putfield 47, 3) := by decide +kernel
theorem dX12_field_46 : decode cX12_field 46 = .ok (.aload_n 0, 1) := by decide +kernel
theorem dX12_field_47 : decode cX12_field 47 = .ok (.dup, 1) := by decide +kernel
theorem dX12_field_48 : decode cX12_field 48 = .ok (.getfield 44, 3) := by decide +kernel
theorem dX12_field_51 : decode cX12_field 51 = .ok (.iconst 1, 1) := by decide +kernel
theorem dX12_field_52 : decode cX12_field 52 = .ok (.iadd, 1) := by decide +kernel
theorem dX12_field_53 : decode cX12_field 53 = .ok (.putfield 44, 3) := by decide +kernel
theorem dX12_field_56 : decode cX12_field 56 = .ok (.aload_n 0, 1) := by decide +kernel
theorem dX12_field_57 : decode cX12_field 57 = .ok (.getfield 47, 3) := by decide +kernel
theorem dX12_field_60 : decode cX12_field 60 = .ok (.ireturn, 1) := by decide +kernel
theorem dX12_begin_0 : decode cX12_begin 0 = .ok (.aload_n 0, 1) := by decide +kernel
theorem dX12_begin_1 : decode cX12_begin 1 = .ok (.getfield 47, 3) := by decide +kernel
theorem dX12_begin_4 : decode cX12_begin 4 = .ok (.ifCond .ge 7, 3) := by decide +kernel
theorem dX12_begin_7 : decode cX12_begin 7 = .ok (.iconst 0, 1) := by decide +kernel
theorem dX12_begin_8 : decode cX12_begin 8 = .ok (.goto 10, 3) := by decide +kernel
theorem dX12_begin_11 : decode cX12_begin 11 = .ok (.bipush 10, 2) := by decide +kernel
theorem dX12_begin_13 : decode cX12_begin 13 = .ok (.aload_n 0, 1) := by decide +kernel
theorem dX12_begin_14 : decode cX12_begin 14 = .ok (.getfield 47, 3) := by decide +kernel
theorem dX12_begin_17 : decode cX12_begin 17 = .ok (.imul, 1) := by decide +kernel
theorem dX12_begin_18 : decode cX12_begin 18 = .ok (.ireturn, 1) := by decide +kernel
theorem dX12_behind_0 : decode cX12_behind 0 = .ok (.aload_n 0, 1) := by decide +kernel
theorem dX12_behind_1 : decode cX12_behind 1 = .ok (.getfield 47, 3) := by decide +kernel
theorem dX12_behind_4 : decode cX12_behind 4 = .ok (.ifCond .ge 7, 3) := by decide +kernel
theorem dX12_behind_7 : decode cX12_behind 7 = .ok (.iconst 0, 1) := by decide +kernel
theorem dX12_behind_8 : decode cX12_behind 8 = .ok (.goto 20, 3) := by decide +kernel
theorem dX12_behind_11 : decode cX12_behind 11 = .ok (.bipush 10, 2) := by decide +kernel
theorem dX12_behind_13 : decode cX12_behind 13 = .ok (.aload_n 0, 1) := by decide +kernel
theorem dX12_behind_14 : decode cX12_behind 14 = .ok (.getfield 47, 3) := by decide +kernel
theorem dX12_behind_17 : decode cX12_behind 17 = .ok (.imul, 1) := by decide +kernel
theorem dX12_behind_18 : decode cX12_behind 18 = .ok (.aload_n 0, 1) := by decide +kernel
theorem dX12_behind_19 : decode cX12_behind 19 = .ok (.getfield 62, 3) := by decide +kernel
theorem dX12_behind_22 : decode cX12_behind 22 = .ok (.aload_n 0, 1) := by decide +kernel
theorem dX12_behind_23 : decode cX12_behind 23 = .ok (.getfield 47, 3) := by decide +kernel
theorem dX12_behind_26 : decode cX12_behind 26 = .ok (.iaload, 1) := by decide +kernel
theorem dX12_behind_27 : decode cX12_behind 27 = .ok (.iadd, 1) := by decide +kernel
theorem dX12_behind_28 : decode cX12_behind 28 = .ok (.ireturn, 1) := by decide +kernel
set_option maxRecDepth 20000 in
theorem ggX12_lastOf_X12_begin : GoodIn wsX12_lastOf wsX12_begin := goodIn_s _ [(7, 2), (14, 75)] rfl (by decide +kernel)
set_option maxRecDepth 20000 in
theorem gX12_lastOf_X12_begin : GoodIn wsX12_lastOf (wsV RX12 297 RX12 yX12_begin wsX12_begin) := goodIn_app (goodIn_of _ (by decide +kernel)) ggX12_lastOf_X12_begin
set_option maxRecDepth 20000 in
theorem ggX12_lastOf_X12_behind : GoodIn wsX12_lastOf wsX12_behind := goodIn_s _ [(12, 1), (8, 1), (13, 76)] rfl (by decide +kernel)
set_option maxRecDepth 20000 in
theorem gX12_lastOf_X12_behind : GoodIn wsX12_lastOf (wsV RX12 300 RX12 yX12_behind wsX12_behind) := goodIn_app (goodIn_of _ (by decide +kernel)) ggX12_lastOf_X12_behind
theorem dX12_lastOf_0 : decode cX12_lastOf 0 = .ok (.iload_n 2, 1) := by decide +kernel
theorem dX12_lastOf_1 : decode cX12_lastOf 1 = .ok (.istore_n 3, 1) := by decide +kernel
theorem dX12_lastOf_2 : decode cX12_lastOf 2 = .ok (.aload_n 0, 1) := by decide +kernel
theorem dX12_lastOf_3 : decode cX12_lastOf 3 = .ok (.invokevirtual 297, 3) := by decide +kernel
theorem dX12_lastOf_6 : decode cX12_lastOf 6 = .ok (.istore 4, 2) := by decide +kernel
theorem dX12_lastOf_8 : decode cX12_lastOf 8 = .ok (.iload 4, 2) := by decide +kernel
theorem dX12_lastOf_10 : decode cX12_lastOf 10 = .ok (.aload_n 0, 1) := by decide +kernel
theorem dX12_lastOf_11 : decode cX12_lastOf 11 = .ok (.invokevirtual 300, 3) := by decide +kernel
theorem dX12_lastOf_14 : decode cX12_lastOf 14 = .ok (.if_icmp .ge 32, 3) := by decide +kernel
theorem dX12_lastOf_17 : decode cX12_lastOf 17 = .ok (.aload_n 0, 1) := by decide +kernel
theorem dX12_lastOf_18 : decode cX12_lastOf 18 = .ok (.getfield 65, 3) := by decide +kernel
theorem dX12_lastOf_21 : decode cX12_lastOf 21 = .ok (.iload 4, 2) := by decide +kernel
theorem dX12_lastOf_23 : decode cX12_lastOf 23 = .ok (.iaload, 1) := by decide +kernel
theorem dX12_lastOf_24 : decode cX12_lastOf 24 = .ok (.iload_n 1, 1) := by decide +kernel
theorem dX12_lastOf_25 : decode cX12_lastOf 25 = .ok (.if_icmp .ne 13, 3) := by decide +kernel
theorem dX12_lastOf_28 : decode cX12_lastOf 28 = .ok (.aload_n 0, 1) := by decide +kernel
theorem dX12_lastOf_29 : decode cX12_lastOf 29 = .ok (.getfield 68, 3) := by decide +kernel
theorem dX12_lastOf_32 : decode cX12_lastOf 32 = .ok (.iload 4, 2) := by decide +kernel
theorem dX12_lastOf_34 : decode cX12_lastOf 34 = .ok (.iaload, 1) := by decide +kernel
theorem dX12_lastOf_35 : decode cX12_lastOf 35 = .ok (.goto 4, 3) := by decide +kernel
theorem dX12_lastOf_38 : decode cX12_lastOf 38 = .ok (.iload_n 3, 1) := by decide +kernel
theorem dX12_lastOf_39 : decode cX12_lastOf 39 = .ok (.istore_n 3, 1) := by decide +kernel
theorem dX12_lastOf_40 : decode cX12_lastOf 40 = .ok (.iinc 4 1, 3) := by decide +kernel
theorem dX12_lastOf_43 : decode cX12_lastOf 43 = .ok (.goto (-35), 3) := by decide +kernel
theorem dX12_lastOf_46 : decode cX12_lastOf 46 = .ok (.iload_n 3, 1) := by decide +kernel
theorem dX12_lastOf_47 : decode cX12_lastOf 47 = .ok (.ireturn, 1) := by decide +kernel
set_option maxRecDepth 20000 in
theorem ggX12_gap_X12_lastOf : GoodIn wsX12_gap wsX12_lastOf := goodIn_s _ [(6, 6), (5, 1), (12, 82)] rfl (by decide +kernel)
set_option maxRecDepth 20000 in
theorem gX12_gap_X12_lastOf : GoodIn wsX12_gap (wsV RX12 303 RX12 yX12_lastOf wsX12_lastOf) := goodIn_app (goodIn_of _ (by decide +kernel)) ggX12_gap_X12_lastOf
theorem dX12_gap_0 : decode cX12_gap 0 = .ok (.aload_n 0, 1) := by decide +kernel
theorem dX12_gap_1 : decode cX12_gap 1 = .ok (.getfield 95, 3) := by decide +kernel
theorem dX12_gap_4 : decode cX12_gap 4 = .ok (.ifCond .ge 12, 3) := by decide +kernel
theorem dX12_gap_7 : decode cX12_gap 7 = .ok (.aload_n 0, 1) := by decide +kernel
theorem dX12_gap_8 : decode cX12_gap 8 = .ok (.iconst 2, 1) := by decide +kernel
theorem dX12_gap_9 : decode cX12_gap 9 = .ok (.iconst 2, 1) := by decide +kernel
theorem dX12_gap_10 : decode cX12_gap 10 = .ok (.invokevirtual 303, 3) := by decide +kernel
theorem dX12_gap_13 : decode cX12_gap 13 = .ok (.goto 7, 3) := by decide +kernel
theorem dX12_gap_16 : decode cX12_gap 16 = .ok (.aload_n 0, 1) := by decide +kernel
theorem dX12_gap_17 : decode cX12_gap 17 = .ok (.getfield 95, 3) := by decide +kernel
theorem dX12_gap_20 : decode cX12_gap 20 = .ok (.ireturn, 1) := by decide +kernel
set_option maxRecDepth 20000 in
theorem ggX12_fieldLong_X12_lastOf : GoodIn wsX12_fieldLong wsX12_lastOf := goodIn_s _ [(5, 6), (4, 1), (11, 7), (22, 75)] rfl (by decide +kernel)
set_option maxRecDepth 20000 in
theorem gX12_fieldLong_X12_lastOf : GoodIn wsX12_fieldLong (wsV RX12 303 RX12 yX12_lastOf wsX12_lastOf) := goodIn_app (goodIn_of _ (by decide +kernel)) ggX12_fieldLong_X12_lastOf
set_option maxRecDepth 20000 in
theorem ggX12_fieldLong_X12_most : GoodIn wsX12_fieldLong wsX12_most := goodIn_s _ [(21, 1)] rfl (by decide +kernel)
set_option maxRecDepth 20000 in
theorem gX12_fieldLong_X12_most : GoodIn wsX12_fieldLong (wsV RX12 307 RX12 yX12_most wsX12_most) := goodIn_app (goodIn_of _ (by decide +kernel)) ggX12_fieldLong_X12_most
theorem dX12_fieldLong_0 : decode cX12_fieldLong 0 = .ok (.aload_n 0, 1) := by decide +kernel
theorem dX12_fieldLong_1 : decode cX12_fieldLong 1 = .ok (.iconst 1, 1) := by decide +kernel
theorem dX12_fieldLong_2 : decode cX12_fieldLong 2 = .ok (.aload_n 0, 1) := by decide +kernel
theorem dX12_fieldLong_3 : decode cX12_fieldLong 3 = .ok (.iconst 4, 1) := by decide +kernel
theorem dX12_fieldLong_4 : decode cX12_fieldLong 4 = .ok (.bipush 60, 2) := by decide +kernel
theorem dX12_fieldLong_6 : decode cX12_fieldLong 6 = .ok (.invokevirtual 303, 3) := by decide +kernel
theorem dX12_fieldLong_9 : decode cX12_fieldLong 9 = .ok (.invokevirtual 307, 3) := by decide +kernel
theorem dX12_fieldLong_12 : decode cX12_fieldLong 12 = .ok (.ireturn, 1) := by decide +kernel
theorem dX12_factOf_0 : decode cX12_factOf 0 = .ok (.iload_n 1, 1) := by decide +kernel
theorem dX12_factOf_1 : decode cX12_factOf 1 = .ok (.tableswitch 66 0 4 #[35, 37, 44, 49, 56], 35) := by decide +kernel
theorem dX12_factOf_36 : decode cX12_factOf 36 = .ok (.iload_n 2, 1) := by decide +kernel
theorem dX12_factOf_37 : decode cX12_factOf 37 = .ok (.ireturn, 1) := by decide +kernel
theorem dX12_factOf_38 : decode cX12_factOf 38 = .ok (.aload_n 0, 1) := by decide +kernel
theorem dX12_factOf_39 : decode cX12_factOf 39 = .ok (.getfield 19, 3) := by decide +kernel
theorem dX12_factOf_42 : decode cX12_factOf 42 = .ok (.iload_n 2, 1) := by decide +kernel
theorem dX12_factOf_43 : decode cX12_factOf 43 = .ok (.iaload, 1) := by decide +kernel
theorem dX12_factOf_44 : decode cX12_factOf 44 = .ok (.ireturn, 1) := by decide +kernel
theorem dX12_factOf_45 : decode cX12_factOf 45 = .ok (.aload_n 0, 1) := by decide +kernel
theorem dX12_factOf_46 : decode cX12_factOf 46 = .ok (.getfield 102, 3) := by decide +kernel
theorem dX12_factOf_49 : decode cX12_factOf 49 = .ok (.ireturn, 1) := by decide +kernel
theorem dX12_factOf_50 : decode cX12_factOf 50 = .ok (.aload_n 0, 1) := by decide +kernel
theorem dX12_factOf_51 : decode cX12_factOf 51 = .ok (.getfield 29, 3) := by decide +kernel
theorem dX12_factOf_54 : decode cX12_factOf 54 = .ok (.iload_n 2, 1) := by decide +kernel
theorem dX12_factOf_55 : decode cX12_factOf 55 = .ok (.iaload, 1) := by decide +kernel
theorem dX12_factOf_56 : decode cX12_factOf 56 = .ok (.ireturn, 1) := by decide +kernel
theorem dX12_factOf_57 : decode cX12_factOf 57 = .ok (.aload_n 0, 1) := by decide +kernel
theorem dX12_factOf_58 : decode cX12_factOf 58 = .ok (.getfield 32, 3) := by decide +kernel
theorem dX12_factOf_61 : decode cX12_factOf 61 = .ok (.iload_n 2, 1) := by decide +kernel
theorem dX12_factOf_62 : decode cX12_factOf 62 = .ok (.iaload, 1) := by decide +kernel
theorem dX12_factOf_63 : decode cX12_factOf 63 = .ok (.bipush 10, 2) := by decide +kernel
theorem dX12_factOf_65 : decode cX12_factOf 65 = .ok (.idiv, 1) := by decide +kernel
theorem dX12_factOf_66 : decode cX12_factOf 66 = .ok (.ireturn, 1) := by decide +kernel
theorem dX12_factOf_67 : decode cX12_factOf 67 = .ok (.aload_n 0, 1) := by decide +kernel
theorem dX12_factOf_68 : decode cX12_factOf 68 = .ok (.getfield 13, 3) := by decide +kernel
theorem dX12_factOf_71 : decode cX12_factOf 71 = .ok (.bipush 10, 2) := by decide +kernel
theorem dX12_factOf_73 : decode cX12_factOf 73 = .ok (.irem, 1) := by decide +kernel
theorem dX12_factOf_74 : decode cX12_factOf 74 = .ok (.ireturn, 1) := by decide +kernel
set_option maxRecDepth 20000 in
theorem ggX12_holds_X12_factOf : GoodIn wsX12_holds wsX12_factOf := goodIn_s _ [(9, 81)] rfl (by decide +kernel)
set_option maxRecDepth 20000 in
theorem gX12_holds_X12_factOf : GoodIn wsX12_holds (wsV RX12 310 RX12 yX12_factOf wsX12_factOf) := goodIn_app (goodIn_of _ (by decide +kernel)) ggX12_holds_X12_factOf
theorem dX12_holds_0 : decode cX12_holds 0 = .ok (.iconst 0, 1) := by decide +kernel
theorem dX12_holds_1 : decode cX12_holds 1 = .ok (.istore_n 3, 1) := by decide +kernel
theorem dX12_holds_2 : decode cX12_holds 2 = .ok (.aload_n 0, 1) := by decide +kernel
theorem dX12_holds_3 : decode cX12_holds 3 = .ok (.getfield 71, 3) := by decide +kernel
theorem dX12_holds_6 : decode cX12_holds 6 = .ok (.iload_n 1, 1) := by decide +kernel
theorem dX12_holds_7 : decode cX12_holds 7 = .ok (.iaload, 1) := by decide +kernel
theorem dX12_holds_8 : decode cX12_holds 8 = .ok (.istore 4, 2) := by decide +kernel
theorem dX12_holds_10 : decode cX12_holds 10 = .ok (.iload 4, 2) := by decide +kernel
theorem dX12_holds_12 : decode cX12_holds 12 = .ok (.aload_n 0, 1) := by decide +kernel
theorem dX12_holds_13 : decode cX12_holds 13 = .ok (.getfield 74, 3) := by decide +kernel
theorem dX12_holds_16 : decode cX12_holds 16 = .ok (.iload_n 1, 1) := by decide +kernel
theorem dX12_holds_17 : decode cX12_holds 17 = .ok (.iaload, 1) := by decide +kernel
theorem dX12_holds_18 : decode cX12_holds 18 = .ok (.if_icmp .ge 225, 3) := by decide +kernel
theorem dX12_holds_21 : decode cX12_holds 21 = .ok (.aload_n 0, 1) := by decide +kernel
theorem dX12_holds_22 : decode cX12_holds 22 = .ok (.getfield 77, 3) := by decide +kernel
theorem dX12_holds_25 : decode cX12_holds 25 = .ok (.iload 4, 2) := by decide +kernel
theorem dX12_holds_27 : decode cX12_holds 27 = .ok (.iaload, 1) := by decide +kernel
theorem dX12_holds_28 : decode cX12_holds 28 = .ok (.istore 5, 2) := by decide +kernel
theorem dX12_holds_30 : decode cX12_holds 30 = .ok (.iload 5, 2) := by decide +kernel
theorem dX12_holds_32 : decode cX12_holds 32 = .ok (.bipush (-33), 2) := by decide +kernel
theorem dX12_holds_34 : decode cX12_holds 34 = .ok (.if_icmp .ne 30, 3) := by decide +kernel
theorem dX12_holds_37 : decode cX12_holds 37 = .ok (.aload_n 0, 1) := by decide +kernel
theorem dX12_holds_38 : decode cX12_holds 38 = .ok (.getfield 98, 3) := by decide +kernel
theorem dX12_holds_41 : decode cX12_holds 41 = .ok (.iload_n 3, 1) := by decide +kernel
theorem dX12_holds_42 : decode cX12_holds 42 = .ok (.iconst 1, 1) := by decide +kernel
theorem dX12_holds_43 : decode cX12_holds 43 = .ok (.isub, 1) := by decide +kernel
theorem dX12_holds_44 : decode cX12_holds 44 = .ok (.aload_n 0, 1) := by decide +kernel
theorem dX12_holds_45 : decode cX12_holds 45 = .ok (.getfield 98, 3) := by decide +kernel
theorem dX12_holds_48 : decode cX12_holds 48 = .ok (.iload_n 3, 1) := by decide +kernel
theorem dX12_holds_49 : decode cX12_holds 49 = .ok (.iconst 1, 1) := by decide +kernel
theorem dX12_holds_50 : decode cX12_holds 50 = .ok (.isub, 1) := by decide +kernel
theorem dX12_holds_51 : decode cX12_holds 51 = .ok (.baload, 1) := by decide +kernel
theorem dX12_holds_52 : decode cX12_holds 52 = .ok (.ifCond .ne 7, 3) := by decide +kernel
theorem dX12_holds_55 : decode cX12_holds 55 = .ok (.iconst 1, 1) := by decide +kernel
theorem dX12_holds_56 : decode cX12_holds 56 = .ok (.goto 4, 3) := by decide +kernel
theorem dX12_holds_59 : decode cX12_holds 59 = .ok (.iconst 0, 1) := by decide +kernel
theorem dX12_holds_60 : decode cX12_holds 60 = .ok (.bastore, 1) := by decide +kernel
theorem dX12_holds_61 : decode cX12_holds 61 = .ok (.goto 176, 3) := by decide +kernel
theorem dX12_holds_64 : decode cX12_holds 64 = .ok (.iload 5, 2) := by decide +kernel
theorem dX12_holds_66 : decode cX12_holds 66 = .ok (.ifCond .ge 77, 3) := by decide +kernel
theorem dX12_holds_69 : decode cX12_holds 69 = .ok (.iinc 3 (-1), 3) := by decide +kernel
theorem dX12_holds_72 : decode cX12_holds 72 = .ok (.aload_n 0, 1) := by decide +kernel
theorem dX12_holds_73 : decode cX12_holds 73 = .ok (.getfield 98, 3) := by decide +kernel
theorem dX12_holds_76 : decode cX12_holds 76 = .ok (.iload_n 3, 1) := by decide +kernel
theorem dX12_holds_77 : decode cX12_holds 77 = .ok (.iconst 1, 1) := by decide +kernel
theorem dX12_holds_78 : decode cX12_holds 78 = .ok (.isub, 1) := by decide +kernel
theorem dX12_holds_79 : decode cX12_holds 79 = .ok (.iload 5, 2) := by decide +kernel
theorem dX12_holds_81 : decode cX12_holds 81 = .ok (.bipush (-38), 2) := by decide +kernel
theorem dX12_holds_83 : decode cX12_holds 83 = .ok (.if_icmp .ne 31, 3) := by decide +kernel
theorem dX12_holds_86 : decode cX12_holds 86 = .ok (.aload_n 0, 1) := by decide +kernel
theorem dX12_holds_87 : decode cX12_holds 87 = .ok (.getfield 98, 3) := by decide +kernel
theorem dX12_holds_90 : decode cX12_holds 90 = .ok (.iload_n 3, 1) := by decide +kernel
theorem dX12_holds_91 : decode cX12_holds 91 = .ok (.iconst 1, 1) := by decide +kernel
theorem dX12_holds_92 : decode cX12_holds 92 = .ok (.isub, 1) := by decide +kernel
theorem dX12_holds_93 : decode cX12_holds 93 = .ok (.baload, 1) := by decide +kernel
theorem dX12_holds_94 : decode cX12_holds 94 = .ok (.ifCond .eq 16, 3) := by decide +kernel
theorem dX12_holds_97 : decode cX12_holds 97 = .ok (.aload_n 0, 1) := by decide +kernel
theorem dX12_holds_98 : decode cX12_holds 98 = .ok (.getfield 98, 3) := by decide +kernel
theorem dX12_holds_101 : decode cX12_holds 101 = .ok (.iload_n 3, 1) := by decide +kernel
theorem dX12_holds_102 : decode cX12_holds 102 = .ok (.baload, 1) := by decide +kernel
theorem dX12_holds_103 : decode cX12_holds 103 = .ok (.ifCond .eq 7, 3) := by decide +kernel
theorem dX12_holds_106 : decode cX12_holds 106 = .ok (.iconst 1, 1) := by decide +kernel
theorem dX12_holds_107 : decode cX12_holds 107 = .ok (.goto 32, 3) := by decide +kernel
theorem dX12_holds_110 : decode cX12_holds 110 = .ok (.iconst 0, 1) := by decide +kernel
theorem dX12_holds_111 : decode cX12_holds 111 = .ok (.goto 28, 3) := by decide +kernel
theorem dX12_holds_114 : decode cX12_holds 114 = .ok (.aload_n 0, 1) := by decide +kernel
theorem dX12_holds_115 : decode cX12_holds 115 = .ok (.getfield 98, 3) := by decide +kernel
theorem dX12_holds_118 : decode cX12_holds 118 = .ok (.iload_n 3, 1) := by decide +kernel
theorem dX12_holds_119 : decode cX12_holds 119 = .ok (.iconst 1, 1) := by decide +kernel
theorem dX12_holds_120 : decode cX12_holds 120 = .ok (.isub, 1) := by decide +kernel
theorem dX12_holds_121 : decode cX12_holds 121 = .ok (.baload, 1) := by decide +kernel
theorem dX12_holds_122 : decode cX12_holds 122 = .ok (.ifCond .ne 12, 3) := by decide +kernel
theorem dX12_holds_125 : decode cX12_holds 125 = .ok (.aload_n 0, 1) := by decide +kernel
theorem dX12_holds_126 : decode cX12_holds 126 = .ok (.getfield 98, 3) := by decide +kernel
theorem dX12_holds_129 : decode cX12_holds 129 = .ok (.iload_n 3, 1) := by decide +kernel
theorem dX12_holds_130 : decode cX12_holds 130 = .ok (.baload, 1) := by decide +kernel
theorem dX12_holds_131 : decode cX12_holds 131 = .ok (.ifCond .eq 7, 3) := by decide +kernel
theorem dX12_holds_134 : decode cX12_holds 134 = .ok (.iconst 1, 1) := by decide +kernel
theorem dX12_holds_135 : decode cX12_holds 135 = .ok (.goto 4, 3) := by decide +kernel
theorem dX12_holds_138 : decode cX12_holds 138 = .ok (.iconst 0, 1) := by decide +kernel
theorem dX12_holds_139 : decode cX12_holds 139 = .ok (.bastore, 1) := by decide +kernel
theorem dX12_holds_140 : decode cX12_holds 140 = .ok (.goto 97, 3) := by decide +kernel
theorem dX12_holds_143 : decode cX12_holds 143 = .ok (.aload_n 0, 1) := by decide +kernel
theorem dX12_holds_144 : decode cX12_holds 144 = .ok (.iload 5, 2) := by decide +kernel
theorem dX12_holds_146 : decode cX12_holds 146 = .ok (.sipush 1000, 3) := by decide +kernel
theorem dX12_holds_149 : decode cX12_holds 149 = .ok (.idiv, 1) := by decide +kernel
theorem dX12_holds_150 : decode cX12_holds 150 = .ok (.iload_n 2, 1) := by decide +kernel
theorem dX12_holds_151 : decode cX12_holds 151 = .ok (.invokevirtual 310, 3) := by decide +kernel
theorem dX12_holds_154 : decode cX12_holds 154 = .ok (.istore 6, 2) := by decide +kernel
theorem dX12_holds_156 : decode cX12_holds 156 = .ok (.iload 5, 2) := by decide +kernel
theorem dX12_holds_158 : decode cX12_holds 158 = .ok (.bipush 100, 2) := by decide +kernel
theorem dX12_holds_160 : decode cX12_holds 160 = .ok (.idiv, 1) := by decide +kernel
theorem dX12_holds_161 : decode cX12_holds 161 = .ok (.bipush 10, 2) := by decide +kernel
theorem dX12_holds_163 : decode cX12_holds 163 = .ok (.irem, 1) := by decide +kernel
theorem dX12_holds_164 : decode cX12_holds 164 = .ok (.istore 7, 2) := by decide +kernel
theorem dX12_holds_166 : decode cX12_holds 166 = .ok (.aload_n 0, 1) := by decide +kernel
theorem dX12_holds_167 : decode cX12_holds 167 = .ok (.getfield 98, 3) := by decide +kernel
theorem dX12_holds_170 : decode cX12_holds 170 = .ok (.iload_n 3, 1) := by decide +kernel
theorem dX12_holds_171 : decode cX12_holds 171 = .ok (.iload 7, 2) := by decide +kernel
theorem dX12_holds_173 : decode cX12_holds 173 = .ok (.ifCond .ne 21, 3) := by decide +kernel
theorem dX12_holds_176 : decode cX12_holds 176 = .ok (.iload 6, 2) := by decide +kernel
theorem dX12_holds_178 : decode cX12_holds 178 = .ok (.iload 5, 2) := by decide +kernel
theorem dX12_holds_180 : decode cX12_holds 180 = .ok (.bipush 100, 2) := by decide +kernel
theorem dX12_holds_182 : decode cX12_holds 182 = .ok (.irem, 1) := by decide +kernel
theorem dX12_holds_183 : decode cX12_holds 183 = .ok (.if_icmp .ge 7, 3) := by decide +kernel
theorem dX12_holds_186 : decode cX12_holds 186 = .ok (.iconst 1, 1) := by decide +kernel
theorem dX12_holds_187 : decode cX12_holds 187 = .ok (.goto 46, 3) := by decide +kernel
theorem dX12_holds_190 : decode cX12_holds 190 = .ok (.iconst 0, 1) := by decide +kernel
theorem dX12_holds_191 : decode cX12_holds 191 = .ok (.goto 42, 3) := by decide +kernel
theorem dX12_holds_194 : decode cX12_holds 194 = .ok (.iload 7, 2) := by decide +kernel
theorem dX12_holds_196 : decode cX12_holds 196 = .ok (.iconst 1, 1) := by decide +kernel
theorem dX12_holds_197 : decode cX12_holds 197 = .ok (.if_icmp .ne 21, 3) := by decide +kernel
theorem dX12_holds_200 : decode cX12_holds 200 = .ok (.iload 6, 2) := by decide +kernel
theorem dX12_holds_202 : decode cX12_holds 202 = .ok (.iload 5, 2) := by decide +kernel
theorem dX12_holds_204 : decode cX12_holds 204 = .ok (.bipush 100, 2) := by decide +kernel
theorem dX12_holds_206 : decode cX12_holds 206 = .ok (.irem, 1) := by decide +kernel
theorem dX12_holds_207 : decode cX12_holds 207 = .ok (.if_icmp .ne 7, 3) := by decide +kernel
theorem dX12_holds_210 : decode cX12_holds 210 = .ok (.iconst 1, 1) := by decide +kernel
theorem dX12_holds_211 : decode cX12_holds 211 = .ok (.goto 22, 3) := by decide +kernel
theorem dX12_holds_214 : decode cX12_holds 214 = .ok (.iconst 0, 1) := by decide +kernel
theorem dX12_holds_215 : decode cX12_holds 215 = .ok (.goto 18, 3) := by decide +kernel
theorem dX12_holds_218 : decode cX12_holds 218 = .ok (.iload 6, 2) := by decide +kernel
theorem dX12_holds_220 : decode cX12_holds 220 = .ok (.iload 5, 2) := by decide +kernel
theorem dX12_holds_222 : decode cX12_holds 222 = .ok (.bipush 100, 2) := by decide +kernel
theorem dX12_holds_224 : decode cX12_holds 224 = .ok (.irem, 1) := by decide +kernel
theorem dX12_holds_225 : decode cX12_holds 225 = .ok (.if_icmp .le 7, 3) := by decide +kernel
theorem dX12_holds_228 : decode cX12_holds 228 = .ok (.iconst 1, 1) := by decide +kernel
theorem dX12_holds_229 : decode cX12_holds 229 = .ok (.goto 4, 3) := by decide +kernel
theorem dX12_holds_232 : decode cX12_holds 232 = .ok (.iconst 0, 1) := by decide +kernel
theorem dX12_holds_233 : decode cX12_holds 233 = .ok (.bastore, 1) := by decide +kernel
theorem dX12_holds_234 : decode cX12_holds 234 = .ok (.iinc 3 1, 3) := by decide +kernel
theorem dX12_holds_237 : decode cX12_holds 237 = .ok (.iinc 4 1, 3) := by decide +kernel
theorem dX12_holds_240 : decode cX12_holds 240 = .ok (.goto (-230), 3) := by decide +kernel
theorem dX12_holds_243 : decode cX12_holds 243 = .ok (.aload_n 0, 1) := by decide +kernel
theorem dX12_holds_244 : decode cX12_holds 244 = .ok (.getfield 98, 3) := by decide +kernel
theorem dX12_holds_247 : decode cX12_holds 247 = .ok (.iconst 0, 1) := by decide +kernel
theorem dX12_holds_248 : decode cX12_holds 248 = .ok (.baload, 1) := by decide +kernel
theorem dX12_holds_249 : decode cX12_holds 249 = .ok (.ireturn, 1) := by decide +kernel
set_option maxRecDepth 20000 in
theorem ggX12_paceAt_X12_begin : GoodIn wsX12_paceAt wsX12_begin := goodIn_s _ [(9, 2), (36, 75)] rfl (by decide +kernel)
set_option maxRecDepth 20000 in
theorem gX12_paceAt_X12_begin : GoodIn wsX12_paceAt (wsV RX12 297 RX12 yX12_begin wsX12_begin) := goodIn_app (goodIn_of _ (by decide +kernel)) ggX12_paceAt_X12_begin
set_option maxRecDepth 20000 in
theorem ggX12_paceAt_X12_behind : GoodIn wsX12_paceAt wsX12_behind := goodIn_s _ [(14, 1), (10, 1), (15, 1), (36, 75)] rfl (by decide +kernel)
set_option maxRecDepth 20000 in
theorem gX12_paceAt_X12_behind : GoodIn wsX12_paceAt (wsV RX12 300 RX12 yX12_behind wsX12_behind) := goodIn_app (goodIn_of _ (by decide +kernel)) ggX12_paceAt_X12_behind
set_option maxRecDepth 20000 in
theorem ggX12_paceAt_X12_holds : GoodIn wsX12_paceAt wsX12_holds := goodIn_s _ [(19, 8), (8, 1), (27, 2), (1, 1), (29, 3), (36, 75)] rfl (by decide +kernel)
set_option maxRecDepth 20000 in
theorem gX12_paceAt_X12_holds : GoodIn wsX12_paceAt (wsV RX12 313 RX12 yX12_holds wsX12_holds) := goodIn_app (goodIn_of _ (by decide +kernel)) ggX12_paceAt_X12_holds
set_option maxRecDepth 20000 in
theorem ggX12_paceAt_X12_most : GoodIn wsX12_paceAt wsX12_most := goodIn_s _ [(35, 1)] rfl (by decide +kernel)
set_option maxRecDepth 20000 in
theorem gX12_paceAt_X12_most : GoodIn wsX12_paceAt (wsV RX12 307 RX12 yX12_most wsX12_most) := goodIn_app (goodIn_of _ (by decide +kernel)) ggX12_paceAt_X12_most
theorem dX12_paceAt_0 : decode cX12_paceAt 0 = .ok (.aload_n 0, 1) := by decide +kernel
theorem dX12_paceAt_1 : decode cX12_paceAt 1 = .ok (.iload_n 1, 1) := by decide +kernel
theorem dX12_paceAt_2 : decode cX12_paceAt 2 = .ok (.putfield 102, 3) := by decide +kernel
theorem dX12_paceAt_5 : decode cX12_paceAt 5 = .ok (.bipush 6, 2) := by decide +kernel
theorem dX12_paceAt_7 : decode cX12_paceAt 7 = .ok (.istore_n 2, 1) := by decide +kernel
theorem dX12_paceAt_8 : decode cX12_paceAt 8 = .ok (.aload_n 0, 1) := by decide +kernel
theorem dX12_paceAt_9 : decode cX12_paceAt 9 = .ok (.invokevirtual 297, 3) := by decide +kernel
theorem dX12_paceAt_12 : decode cX12_paceAt 12 = .ok (.istore_n 3, 1) := by decide +kernel
theorem dX12_paceAt_13 : decode cX12_paceAt 13 = .ok (.iload_n 3, 1) := by decide +kernel
theorem dX12_paceAt_14 : decode cX12_paceAt 14 = .ok (.aload_n 0, 1) := by decide +kernel
theorem dX12_paceAt_15 : decode cX12_paceAt 15 = .ok (.invokevirtual 300, 3) := by decide +kernel
theorem dX12_paceAt_18 : decode cX12_paceAt 18 = .ok (.if_icmp .ge 64, 3) := by decide +kernel
theorem dX12_paceAt_21 : decode cX12_paceAt 21 = .ok (.aload_n 0, 1) := by decide +kernel
theorem dX12_paceAt_22 : decode cX12_paceAt 22 = .ok (.getfield 65, 3) := by decide +kernel
theorem dX12_paceAt_25 : decode cX12_paceAt 25 = .ok (.iload_n 3, 1) := by decide +kernel
theorem dX12_paceAt_26 : decode cX12_paceAt 26 = .ok (.iaload, 1) := by decide +kernel
theorem dX12_paceAt_27 : decode cX12_paceAt 27 = .ok (.iconst 1, 1) := by decide +kernel
theorem dX12_paceAt_28 : decode cX12_paceAt 28 = .ok (.if_icmp .gt 48, 3) := by decide +kernel
theorem dX12_paceAt_31 : decode cX12_paceAt 31 = .ok (.aload_n 0, 1) := by decide +kernel
theorem dX12_paceAt_32 : decode cX12_paceAt 32 = .ok (.iload_n 3, 1) := by decide +kernel
theorem dX12_paceAt_33 : decode cX12_paceAt 33 = .ok (.aload_n 0, 1) := by decide +kernel
theorem dX12_paceAt_34 : decode cX12_paceAt 34 = .ok (.getfield 41, 3) := by decide +kernel
theorem dX12_paceAt_37 : decode cX12_paceAt 37 = .ok (.iload_n 1, 1) := by decide +kernel
theorem dX12_paceAt_38 : decode cX12_paceAt 38 = .ok (.iaload, 1) := by decide +kernel
theorem dX12_paceAt_39 : decode cX12_paceAt 39 = .ok (.invokevirtual 313, 3) := by decide +kernel
theorem dX12_paceAt_42 : decode cX12_paceAt 42 = .ok (.ifCond .ne 6, 3) := by decide +kernel
theorem dX12_paceAt_45 : decode cX12_paceAt 45 = .ok (.goto 31, 3) := by decide +kernel
theorem dX12_paceAt_48 : decode cX12_paceAt 48 = .ok (.iload_n 2, 1) := by decide +kernel
theorem dX12_paceAt_49 : decode cX12_paceAt 49 = .ok (.aload_n 0, 1) := by decide +kernel
theorem dX12_paceAt_50 : decode cX12_paceAt 50 = .ok (.getfield 65, 3) := by decide +kernel
theorem dX12_paceAt_53 : decode cX12_paceAt 53 = .ok (.iload_n 3, 1) := by decide +kernel
theorem dX12_paceAt_54 : decode cX12_paceAt 54 = .ok (.iaload, 1) := by decide +kernel
theorem dX12_paceAt_55 : decode cX12_paceAt 55 = .ok (.ifCond .ne 12, 3) := by decide +kernel
theorem dX12_paceAt_58 : decode cX12_paceAt 58 = .ok (.aload_n 0, 1) := by decide +kernel
theorem dX12_paceAt_59 : decode cX12_paceAt 59 = .ok (.getfield 68, 3) := by decide +kernel
theorem dX12_paceAt_62 : decode cX12_paceAt 62 = .ok (.iload_n 3, 1) := by decide +kernel
theorem dX12_paceAt_63 : decode cX12_paceAt 63 = .ok (.iaload, 1) := by decide +kernel
theorem dX12_paceAt_64 : decode cX12_paceAt 64 = .ok (.goto 10, 3) := by decide +kernel
theorem dX12_paceAt_67 : decode cX12_paceAt 67 = .ok (.aload_n 0, 1) := by decide +kernel
theorem dX12_paceAt_68 : decode cX12_paceAt 68 = .ok (.getfield 68, 3) := by decide +kernel
theorem dX12_paceAt_71 : decode cX12_paceAt 71 = .ok (.iload_n 3, 1) := by decide +kernel
theorem dX12_paceAt_72 : decode cX12_paceAt 72 = .ok (.iaload, 1) := by decide +kernel
theorem dX12_paceAt_73 : decode cX12_paceAt 73 = .ok (.ineg, 1) := by decide +kernel
theorem dX12_paceAt_74 : decode cX12_paceAt 74 = .ok (.iadd, 1) := by decide +kernel
theorem dX12_paceAt_75 : decode cX12_paceAt 75 = .ok (.istore_n 2, 1) := by decide +kernel
theorem dX12_paceAt_76 : decode cX12_paceAt 76 = .ok (.iinc 3 1, 3) := by decide +kernel
theorem dX12_paceAt_79 : decode cX12_paceAt 79 = .ok (.goto (-66), 3) := by decide +kernel
theorem dX12_paceAt_82 : decode cX12_paceAt 82 = .ok (.aload_n 0, 1) := by decide +kernel
theorem dX12_paceAt_83 : decode cX12_paceAt 83 = .ok (.iconst 0, 1) := by decide +kernel
theorem dX12_paceAt_84 : decode cX12_paceAt 84 = .ok (.iload_n 2, 1) := by decide +kernel
theorem dX12_paceAt_85 : decode cX12_paceAt 85 = .ok (.invokevirtual 307, 3) := by decide +kernel
theorem dX12_paceAt_88 : decode cX12_paceAt 88 = .ok (.ireturn, 1) := by decide +kernel
theorem dX12_hasty_0 : decode cX12_hasty 0 = .ok (.aload_n 0, 1) := by decide +kernel
theorem dX12_hasty_1 : decode cX12_hasty 1 = .ok (.getfield 29, 3) := by decide +kernel
theorem dX12_hasty_4 : decode cX12_hasty 4 = .ok (.iload_n 1, 1) := by decide +kernel
theorem dX12_hasty_5 : decode cX12_hasty 5 = .ok (.iaload, 1) := by decide +kernel
theorem dX12_hasty_6 : decode cX12_hasty 6 = .ok (.iconst 5, 1) := by decide +kernel
theorem dX12_hasty_7 : decode cX12_hasty 7 = .ok (.if_icmp .le 14, 3) := by decide +kernel
theorem dX12_hasty_10 : decode cX12_hasty 10 = .ok (.iload_n 2, 1) := by decide +kernel
theorem dX12_hasty_11 : decode cX12_hasty 11 = .ok (.aload_n 0, 1) := by decide +kernel
theorem dX12_hasty_12 : decode cX12_hasty 12 = .ok (.getfield 23, 3) := by decide +kernel
theorem dX12_hasty_15 : decode cX12_hasty 15 = .ok (.iload_n 1, 1) := by decide +kernel
theorem dX12_hasty_16 : decode cX12_hasty 16 = .ok (.iaload, 1) := by decide +kernel
theorem dX12_hasty_17 : decode cX12_hasty 17 = .ok (.iadd, 1) := by decide +kernel
theorem dX12_hasty_18 : decode cX12_hasty 18 = .ok (.goto 4, 3) := by decide +kernel
theorem dX12_hasty_21 : decode cX12_hasty 21 = .ok (.iload_n 2, 1) := by decide +kernel
theorem dX12_hasty_22 : decode cX12_hasty 22 = .ok (.ireturn, 1) := by decide +kernel
set_option maxRecDepth 20000 in
theorem ggX12_isPressed_X12_gap : GoodIn wsX12_isPressed wsX12_gap := goodIn_s _ [(8, 5), (7, 1), (13, 88)] rfl (by decide +kernel)
set_option maxRecDepth 20000 in
theorem gX12_isPressed_X12_gap : GoodIn wsX12_isPressed (wsV RX12 316 RX12 yX12_gap wsX12_gap) := goodIn_app (goodIn_of _ (by decide +kernel)) ggX12_isPressed_X12_gap
theorem dX12_isPressed_0 : decode cX12_isPressed 0 = .ok (.iload_n 1, 1) := by decide +kernel
theorem dX12_isPressed_1 : decode cX12_isPressed 1 = .ok (.iconst 1, 1) := by decide +kernel
theorem dX12_isPressed_2 : decode cX12_isPressed 2 = .ok (.iadd, 1) := by decide +kernel
theorem dX12_isPressed_3 : decode cX12_isPressed 3 = .ok (.aload_n 0, 1) := by decide +kernel
theorem dX12_isPressed_4 : decode cX12_isPressed 4 = .ok (.getfield 16, 3) := by decide +kernel
theorem dX12_isPressed_7 : decode cX12_isPressed 7 = .ok (.if_icmp .ge 41, 3) := by decide +kernel
theorem dX12_isPressed_10 : decode cX12_isPressed 10 = .ok (.aload_n 0, 1) := by decide +kernel
theorem dX12_isPressed_11 : decode cX12_isPressed 11 = .ok (.getfield 26, 3) := by decide +kernel
theorem dX12_isPressed_14 : decode cX12_isPressed 14 = .ok (.aload_n 0, 1) := by decide +kernel
theorem dX12_isPressed_15 : decode cX12_isPressed 15 = .ok (.getfield 41, 3) := by decide +kernel
theorem dX12_isPressed_18 : decode cX12_isPressed 18 = .ok (.iload_n 1, 1) := by decide +kernel
theorem dX12_isPressed_19 : decode cX12_isPressed 19 = .ok (.iaload, 1) := by decide +kernel
theorem dX12_isPressed_20 : decode cX12_isPressed 20 = .ok (.iaload, 1) := by decide +kernel
theorem dX12_isPressed_21 : decode cX12_isPressed 21 = .ok (.aload_n 0, 1) := by decide +kernel
theorem dX12_isPressed_22 : decode cX12_isPressed 22 = .ok (.getfield 26, 3) := by decide +kernel
theorem dX12_isPressed_25 : decode cX12_isPressed 25 = .ok (.aload_n 0, 1) := by decide +kernel
theorem dX12_isPressed_26 : decode cX12_isPressed 26 = .ok (.getfield 41, 3) := by decide +kernel
theorem dX12_isPressed_29 : decode cX12_isPressed 29 = .ok (.iload_n 1, 1) := by decide +kernel
theorem dX12_isPressed_30 : decode cX12_isPressed 30 = .ok (.iconst 1, 1) := by decide +kernel
theorem dX12_isPressed_31 : decode cX12_isPressed 31 = .ok (.iadd, 1) := by decide +kernel
theorem dX12_isPressed_32 : decode cX12_isPressed 32 = .ok (.iaload, 1) := by decide +kernel
theorem dX12_isPressed_33 : decode cX12_isPressed 33 = .ok (.iaload, 1) := by decide +kernel
theorem dX12_isPressed_34 : decode cX12_isPressed 34 = .ok (.isub, 1) := by decide +kernel
theorem dX12_isPressed_35 : decode cX12_isPressed 35 = .ok (.aload_n 0, 1) := by decide +kernel
theorem dX12_isPressed_36 : decode cX12_isPressed 36 = .ok (.invokevirtual 316, 3) := by decide +kernel
theorem dX12_isPressed_39 : decode cX12_isPressed 39 = .ok (.iconst 3, 1) := by decide +kernel
theorem dX12_isPressed_40 : decode cX12_isPressed 40 = .ok (.iadd, 1) := by decide +kernel
theorem dX12_isPressed_41 : decode cX12_isPressed 41 = .ok (.if_icmp .ge 7, 3) := by decide +kernel
theorem dX12_isPressed_44 : decode cX12_isPressed 44 = .ok (.iconst 1, 1) := by decide +kernel
theorem dX12_isPressed_45 : decode cX12_isPressed 45 = .ok (.goto 4, 3) := by decide +kernel
theorem dX12_isPressed_48 : decode cX12_isPressed 48 = .ok (.iconst 0, 1) := by decide +kernel
theorem dX12_isPressed_49 : decode cX12_isPressed 49 = .ok (.ireturn, 1) := by decide +kernel
set_option maxRecDepth 20000 in
theorem ggX12_strideOf_X12_most : GoodIn wsX12_strideOf wsX12_most := goodIn_s _ [(10, 1)] rfl (by decide +kernel)
set_option maxRecDepth 20000 in
theorem gX12_strideOf_X12_most : GoodIn wsX12_strideOf (wsV RX12 307 RX12 yX12_most wsX12_most) := goodIn_app (goodIn_of _ (by decide +kernel)) ggX12_strideOf_X12_most
set_option maxRecDepth 20000 in
theorem ggX12_strideOf_X12_hasty : GoodIn wsX12_strideOf wsX12_hasty := goodIn_s _ [(14, 2), (3, 1), (44, 75)] rfl (by decide +kernel)
set_option maxRecDepth 20000 in
theorem gX12_strideOf_X12_hasty : GoodIn wsX12_strideOf (wsV RX12 319 RX12 yX12_hasty wsX12_hasty) := goodIn_app (goodIn_of _ (by decide +kernel)) ggX12_strideOf_X12_hasty
set_option maxRecDepth 20000 in
theorem ggX12_strideOf_X12_isPressed : GoodIn wsX12_strideOf wsX12_isPressed := goodIn_s _ [(19, 7), (9, 1), (26, 93)] rfl (by decide +kernel)
set_option maxRecDepth 20000 in
theorem gX12_strideOf_X12_isPressed : GoodIn wsX12_strideOf (wsV RX12 322 RX12 yX12_isPressed wsX12_isPressed) := goodIn_app (goodIn_of _ (by decide +kernel)) ggX12_strideOf_X12_isPressed
theorem dX12_strideOf_0 : decode cX12_strideOf 0 = .ok (.aload_n 0, 1) := by decide +kernel
theorem dX12_strideOf_1 : decode cX12_strideOf 1 = .ok (.iconst 0, 1) := by decide +kernel
theorem dX12_strideOf_2 : decode cX12_strideOf 2 = .ok (.iload_n 3, 1) := by decide +kernel
theorem dX12_strideOf_3 : decode cX12_strideOf 3 = .ok (.aload_n 0, 1) := by decide +kernel
theorem dX12_strideOf_4 : decode cX12_strideOf 4 = .ok (.getfield 32, 3) := by decide +kernel
theorem dX12_strideOf_7 : decode cX12_strideOf 7 = .ok (.iload_n 2, 1) := by decide +kernel
theorem dX12_strideOf_8 : decode cX12_strideOf 8 = .ok (.iaload, 1) := by decide +kernel
theorem dX12_strideOf_9 : decode cX12_strideOf 9 = .ok (.bipush 20, 2) := by decide +kernel
theorem dX12_strideOf_11 : decode cX12_strideOf 11 = .ok (.idiv, 1) := by decide +kernel
theorem dX12_strideOf_12 : decode cX12_strideOf 12 = .ok (.isub, 1) := by decide +kernel
theorem dX12_strideOf_13 : decode cX12_strideOf 13 = .ok (.invokevirtual 307, 3) := by decide +kernel
theorem dX12_strideOf_16 : decode cX12_strideOf 16 = .ok (.istore 4, 2) := by decide +kernel
theorem dX12_strideOf_18 : decode cX12_strideOf 18 = .ok (.aload_n 0, 1) := by decide +kernel
theorem dX12_strideOf_19 : decode cX12_strideOf 19 = .ok (.getfield 19, 3) := by decide +kernel
theorem dX12_strideOf_22 : decode cX12_strideOf 22 = .ok (.iload_n 2, 1) := by decide +kernel
theorem dX12_strideOf_23 : decode cX12_strideOf 23 = .ok (.iaload, 1) := by decide +kernel
theorem dX12_strideOf_24 : decode cX12_strideOf 24 = .ok (.tableswitch 109 1 6 #[40, 42, 50, 55, 66, 88], 40) := by decide +kernel
theorem dX12_strideOf_64 : decode cX12_strideOf 64 = .ok (.iload_n 3, 1) := by decide +kernel
theorem dX12_strideOf_65 : decode cX12_strideOf 65 = .ok (.ireturn, 1) := by decide +kernel
theorem dX12_strideOf_66 : decode cX12_strideOf 66 = .ok (.aload_n 0, 1) := by decide +kernel
theorem dX12_strideOf_67 : decode cX12_strideOf 67 = .ok (.iload_n 2, 1) := by decide +kernel
theorem dX12_strideOf_68 : decode cX12_strideOf 68 = .ok (.iload 4, 2) := by decide +kernel
theorem dX12_strideOf_70 : decode cX12_strideOf 70 = .ok (.invokevirtual 319, 3) := by decide +kernel
theorem dX12_strideOf_73 : decode cX12_strideOf 73 = .ok (.ireturn, 1) := by decide +kernel
theorem dX12_strideOf_74 : decode cX12_strideOf 74 = .ok (.iload 4, 2) := by decide +kernel
theorem dX12_strideOf_76 : decode cX12_strideOf 76 = .ok (.iconst 2, 1) := by decide +kernel
theorem dX12_strideOf_77 : decode cX12_strideOf 77 = .ok (.idiv, 1) := by decide +kernel
theorem dX12_strideOf_78 : decode cX12_strideOf 78 = .ok (.ireturn, 1) := by decide +kernel
theorem dX12_strideOf_79 : decode cX12_strideOf 79 = .ok (.iload_n 3, 1) := by decide +kernel
theorem dX12_strideOf_80 : decode cX12_strideOf 80 = .ok (.aload_n 0, 1) := by decide +kernel
theorem dX12_strideOf_81 : decode cX12_strideOf 81 = .ok (.getfield 23, 3) := by decide +kernel
theorem dX12_strideOf_84 : decode cX12_strideOf 84 = .ok (.iload_n 2, 1) := by decide +kernel
theorem dX12_strideOf_85 : decode cX12_strideOf 85 = .ok (.iaload, 1) := by decide +kernel
theorem dX12_strideOf_86 : decode cX12_strideOf 86 = .ok (.iconst 3, 1) := by decide +kernel
theorem dX12_strideOf_87 : decode cX12_strideOf 87 = .ok (.idiv, 1) := by decide +kernel
theorem dX12_strideOf_88 : decode cX12_strideOf 88 = .ok (.isub, 1) := by decide +kernel
theorem dX12_strideOf_89 : decode cX12_strideOf 89 = .ok (.ireturn, 1) := by decide +kernel
theorem dX12_strideOf_90 : decode cX12_strideOf 90 = .ok (.aload_n 0, 1) := by decide +kernel
theorem dX12_strideOf_91 : decode cX12_strideOf 91 = .ok (.iload_n 2, 1) := by decide +kernel
theorem dX12_strideOf_92 : decode cX12_strideOf 92 = .ok (.iload 4, 2) := by decide +kernel
theorem dX12_strideOf_94 : decode cX12_strideOf 94 = .ok (.invokevirtual 319, 3) := by decide +kernel
theorem dX12_strideOf_97 : decode cX12_strideOf 97 = .ok (.aload_n 0, 1) := by decide +kernel
theorem dX12_strideOf_98 : decode cX12_strideOf 98 = .ok (.iload_n 1, 1) := by decide +kernel
theorem dX12_strideOf_99 : decode cX12_strideOf 99 = .ok (.invokevirtual 322, 3) := by decide +kernel
theorem dX12_strideOf_102 : decode cX12_strideOf 102 = .ok (.ifCond .eq 7, 3) := by decide +kernel
theorem dX12_strideOf_105 : decode cX12_strideOf 105 = .ok (.iconst 2, 1) := by decide +kernel
theorem dX12_strideOf_106 : decode cX12_strideOf 106 = .ok (.goto 4, 3) := by decide +kernel
theorem dX12_strideOf_109 : decode cX12_strideOf 109 = .ok (.iconst 0, 1) := by decide +kernel
theorem dX12_strideOf_110 : decode cX12_strideOf 110 = .ok (.iadd, 1) := by decide +kernel
theorem dX12_strideOf_111 : decode cX12_strideOf 111 = .ok (.ireturn, 1) := by decide +kernel
theorem dX12_strideOf_112 : decode cX12_strideOf 112 = .ok (.iload 4, 2) := by decide +kernel
theorem dX12_strideOf_114 : decode cX12_strideOf 114 = .ok (.iconst 2, 1) := by decide +kernel
theorem dX12_strideOf_115 : decode cX12_strideOf 115 = .ok (.idiv, 1) := by decide +kernel
theorem dX12_strideOf_116 : decode cX12_strideOf 116 = .ok (.aload_n 0, 1) := by decide +kernel
theorem dX12_strideOf_117 : decode cX12_strideOf 117 = .ok (.getfield 38, 3) := by decide +kernel
theorem dX12_strideOf_120 : decode cX12_strideOf 120 = .ok (.iconst 4, 1) := by decide +kernel
theorem dX12_strideOf_121 : decode cX12_strideOf 121 = .ok (.iload_n 2, 1) := by decide +kernel
theorem dX12_strideOf_122 : decode cX12_strideOf 122 = .ok (.imul, 1) := by decide +kernel
theorem dX12_strideOf_123 : decode cX12_strideOf 123 = .ok (.aload_n 0, 1) := by decide +kernel
theorem dX12_strideOf_124 : decode cX12_strideOf 124 = .ok (.getfield 13, 3) := by decide +kernel
theorem dX12_strideOf_127 : decode cX12_strideOf 127 = .ok (.iconst 4, 1) := by decide +kernel
theorem dX12_strideOf_128 : decode cX12_strideOf 128 = .ok (.irem, 1) := by decide +kernel
theorem dX12_strideOf_129 : decode cX12_strideOf 129 = .ok (.iadd, 1) := by decide +kernel
theorem dX12_strideOf_130 : decode cX12_strideOf 130 = .ok (.iaload, 1) := by decide +kernel
theorem dX12_strideOf_131 : decode cX12_strideOf 131 = .ok (.iadd, 1) := by decide +kernel
theorem dX12_strideOf_132 : decode cX12_strideOf 132 = .ok (.ireturn, 1) := by decide +kernel
theorem dX12_strideOf_133 : decode cX12_strideOf 133 = .ok (.iload 4, 2) := by decide +kernel
theorem dX12_strideOf_135 : decode cX12_strideOf 135 = .ok (.ireturn, 1) := by decide +kernel
set_option maxRecDepth 20000 in
theorem ggX12_strideAt_X12_paceAt : GoodIn wsX12_strideAt wsX12_paceAt := goodIn_s _ [(7, 3), (1, 1), (10, 4), (6, 1), (14, 20), (2, 1), (34, 6), (65, 75)] rfl (by decide +kernel)
set_option maxRecDepth 20000 in
theorem gX12_strideAt_X12_paceAt : GoodIn wsX12_strideAt (wsV RX12 325 RX12 yX12_paceAt wsX12_paceAt) := goodIn_app (goodIn_of _ (by decide +kernel)) ggX12_strideAt_X12_paceAt
set_option maxRecDepth 20000 in
theorem ggX12_strideAt_X12_strideOf : GoodIn wsX12_strideAt wsX12_strideOf := goodIn_s _ [(43, 1), (34, 1), (33, 1), (44, 2), (35, 4), (6, 1), (39, 1), (46, 4), (2, 1), (50, 6), (1, 1), (56, 9), (9, 12), (65, 75)] rfl (by decide +kernel)
set_option maxRecDepth 20000 in
theorem gX12_strideAt_X12_strideOf : GoodIn wsX12_strideAt (wsV RX12 328 RX12 yX12_strideOf wsX12_strideOf) := goodIn_app (goodIn_of _ (by decide +kernel)) ggX12_strideAt_X12_strideOf
set_option maxRecDepth 20000 in
theorem ggX12_strideAt_X12_most : GoodIn wsX12_strideAt wsX12_most := goodIn_s _ [(39, 1)] rfl (by decide +kernel)
set_option maxRecDepth 20000 in
theorem gX12_strideAt_X12_most : GoodIn wsX12_strideAt (wsV RX12 307 RX12 yX12_most wsX12_most) := goodIn_app (goodIn_of _ (by decide +kernel)) ggX12_strideAt_X12_most
theorem dX12_strideAt_0 : decode cX12_strideAt 0 = .ok (.aload_n 0, 1) := by decide +kernel
theorem dX12_strideAt_1 : decode cX12_strideAt 1 = .ok (.getfield 41, 3) := by decide +kernel
theorem dX12_strideAt_4 : decode cX12_strideAt 4 = .ok (.iload_n 1, 1) := by decide +kernel
theorem dX12_strideAt_5 : decode cX12_strideAt 5 = .ok (.iaload, 1) := by decide +kernel
theorem dX12_strideAt_6 : decode cX12_strideAt 6 = .ok (.istore_n 2, 1) := by decide +kernel
theorem dX12_strideAt_7 : decode cX12_strideAt 7 = .ok (.aload_n 0, 1) := by decide +kernel
theorem dX12_strideAt_8 : decode cX12_strideAt 8 = .ok (.iconst 0, 1) := by decide +kernel
theorem dX12_strideAt_9 : decode cX12_strideAt 9 = .ok (.aload_n 0, 1) := by decide +kernel
theorem dX12_strideAt_10 : decode cX12_strideAt 10 = .ok (.iload_n 1, 1) := by decide +kernel
theorem dX12_strideAt_11 : decode cX12_strideAt 11 = .ok (.iload_n 2, 1) := by decide +kernel
theorem dX12_strideAt_12 : decode cX12_strideAt 12 = .ok (.aload_n 0, 1) := by decide +kernel
theorem dX12_strideAt_13 : decode cX12_strideAt 13 = .ok (.iload_n 1, 1) := by decide +kernel
theorem dX12_strideAt_14 : decode cX12_strideAt 14 = .ok (.invokevirtual 325, 3) := by decide +kernel
theorem dX12_strideAt_17 : decode cX12_strideAt 17 = .ok (.invokevirtual 328, 3) := by decide +kernel
theorem dX12_strideAt_20 : decode cX12_strideAt 20 = .ok (.invokevirtual 307, 3) := by decide +kernel
theorem dX12_strideAt_23 : decode cX12_strideAt 23 = .ok (.istore_n 3, 1) := by decide +kernel
theorem dX12_strideAt_24 : decode cX12_strideAt 24 = .ok (.aload_n 0, 1) := by decide +kernel
theorem dX12_strideAt_25 : decode cX12_strideAt 25 = .ok (.getfield 29, 3) := by decide +kernel
theorem dX12_strideAt_28 : decode cX12_strideAt 28 = .ok (.iload_n 2, 1) := by decide +kernel
theorem dX12_strideAt_29 : decode cX12_strideAt 29 = .ok (.iaload, 1) := by decide +kernel
theorem dX12_strideAt_30 : decode cX12_strideAt 30 = .ok (.ifCond .ne 9, 3) := by decide +kernel
theorem dX12_strideAt_33 : decode cX12_strideAt 33 = .ok (.iload_n 3, 1) := by decide +kernel
theorem dX12_strideAt_34 : decode cX12_strideAt 34 = .ok (.iconst 2, 1) := by decide +kernel
theorem dX12_strideAt_35 : decode cX12_strideAt 35 = .ok (.idiv, 1) := by decide +kernel
theorem dX12_strideAt_36 : decode cX12_strideAt 36 = .ok (.goto 4, 3) := by decide +kernel
theorem dX12_strideAt_39 : decode cX12_strideAt 39 = .ok (.iload_n 3, 1) := by decide +kernel
theorem dX12_strideAt_40 : decode cX12_strideAt 40 = .ok (.ireturn, 1) := by decide +kernel
set_option maxRecDepth 20000 in
theorem ggX12_of_X12_isMower : GoodIn wsX12_of wsX12_isMower := goodIn_s _ [(11, 5), (10, 1), (16, 1), (83, 75)] rfl (by decide +kernel)
set_option maxRecDepth 20000 in
theorem gX12_of_X12_isMower : GoodIn wsX12_of (wsV RX12 243 RX12 yX12_isMower wsX12_isMower) := goodIn_app (goodIn_of _ (by decide +kernel)) ggX12_of_X12_isMower
set_option maxRecDepth 20000 in
theorem ggX12_of_X12_placeOf : GoodIn wsX12_of wsX12_placeOf := goodIn_s _ [(20, 2), (83, 75)] rfl (by decide +kernel)
set_option maxRecDepth 20000 in
theorem gX12_of_X12_placeOf : GoodIn wsX12_of (wsV RX12 247 RX12 yX12_placeOf wsX12_placeOf) := goodIn_app (goodIn_of _ (by decide +kernel)) ggX12_of_X12_placeOf
set_option maxRecDepth 20000 in
theorem ggX12_of_X12_paceAt : GoodIn wsX12_of wsX12_paceAt := goodIn_s _ [(25, 3), (21, 1), (28, 4), (10, 1), (32, 19), (1, 1), (4, 2), (51, 5), (83, 75)] rfl (by decide +kernel)
set_option maxRecDepth 20000 in
theorem gX12_of_X12_paceAt : GoodIn wsX12_of (wsV RX12 325 RX12 yX12_paceAt wsX12_paceAt) := goodIn_app (goodIn_of _ (by decide +kernel)) ggX12_of_X12_paceAt
set_option maxRecDepth 20000 in
theorem ggX12_of_X12_strideAt : GoodIn wsX12_of wsX12_strideAt := goodIn_s _ [(59, 1), (21, 1), (4, 1), (22, 3), (10, 1), (25, 26), (1, 1), (5, 1), (51, 5), (60, 4), (2, 1), (64, 10), (3, 1), (74, 84)] rfl (by decide +kernel)
set_option maxRecDepth 20000 in
theorem gX12_of_X12_strideAt : GoodIn wsX12_of (wsV RX12 332 RX12 yX12_strideAt wsX12_strideAt) := goodIn_app (goodIn_of _ (by decide +kernel)) ggX12_of_X12_strideAt
theorem dX12_of_0 : decode cX12_of 0 = .ok (.aload_n 0, 1) := by decide +kernel
theorem dX12_of_1 : decode cX12_of 1 = .ok (.iload_n 1, 1) := by decide +kernel
theorem dX12_of_2 : decode cX12_of 2 = .ok (.invokevirtual 243, 3) := by decide +kernel
theorem dX12_of_5 : decode cX12_of 5 = .ok (.ifCond .ne 5, 3) := by decide +kernel
theorem dX12_of_8 : decode cX12_of 8 = .ok (.iconst (-1), 1) := by decide +kernel
theorem dX12_of_9 : decode cX12_of 9 = .ok (.ireturn, 1) := by decide +kernel
theorem dX12_of_10 : decode cX12_of 10 = .ok (.iload_n 2, 1) := by decide +kernel
theorem dX12_of_11 : decode cX12_of 11 = .ok (.tableswitch 117 0 8 #[49, 56, 63, 70, 77, 84, 91, 97, 107], 49) := by decide +kernel
theorem dX12_of_60 : decode cX12_of 60 = .ok (.aload_n 0, 1) := by decide +kernel
theorem dX12_of_61 : decode cX12_of 61 = .ok (.getfield 19, 3) := by decide +kernel
theorem dX12_of_64 : decode cX12_of 64 = .ok (.iload_n 1, 1) := by decide +kernel
theorem dX12_of_65 : decode cX12_of 65 = .ok (.iaload, 1) := by decide +kernel
theorem dX12_of_66 : decode cX12_of 66 = .ok (.ireturn, 1) := by decide +kernel
theorem dX12_of_67 : decode cX12_of 67 = .ok (.aload_n 0, 1) := by decide +kernel
theorem dX12_of_68 : decode cX12_of 68 = .ok (.getfield 23, 3) := by decide +kernel
theorem dX12_of_71 : decode cX12_of 71 = .ok (.iload_n 1, 1) := by decide +kernel
theorem dX12_of_72 : decode cX12_of 72 = .ok (.iaload, 1) := by decide +kernel
theorem dX12_of_73 : decode cX12_of 73 = .ok (.ireturn, 1) := by decide +kernel
theorem dX12_of_74 : decode cX12_of 74 = .ok (.aload_n 0, 1) := by decide +kernel
theorem dX12_of_75 : decode cX12_of 75 = .ok (.getfield 26, 3) := by decide +kernel
theorem dX12_of_78 : decode cX12_of 78 = .ok (.iload_n 1, 1) := by decide +kernel
theorem dX12_of_79 : decode cX12_of 79 = .ok (.iaload, 1) := by decide +kernel
theorem dX12_of_80 : decode cX12_of 80 = .ok (.ireturn, 1) := by decide +kernel
theorem dX12_of_81 : decode cX12_of 81 = .ok (.aload_n 0, 1) := by decide +kernel
theorem dX12_of_82 : decode cX12_of 82 = .ok (.getfield 29, 3) := by decide +kernel
theorem dX12_of_85 : decode cX12_of 85 = .ok (.iload_n 1, 1) := by decide +kernel
theorem dX12_of_86 : decode cX12_of 86 = .ok (.iaload, 1) := by decide +kernel
theorem dX12_of_87 : decode cX12_of 87 = .ok (.ireturn, 1) := by decide +kernel
theorem dX12_of_88 : decode cX12_of 88 = .ok (.aload_n 0, 1) := by decide +kernel
theorem dX12_of_89 : decode cX12_of 89 = .ok (.getfield 32, 3) := by decide +kernel
theorem dX12_of_92 : decode cX12_of 92 = .ok (.iload_n 1, 1) := by decide +kernel
theorem dX12_of_93 : decode cX12_of 93 = .ok (.iaload, 1) := by decide +kernel
theorem dX12_of_94 : decode cX12_of 94 = .ok (.ireturn, 1) := by decide +kernel
theorem dX12_of_95 : decode cX12_of 95 = .ok (.aload_n 0, 1) := by decide +kernel
theorem dX12_of_96 : decode cX12_of 96 = .ok (.getfield 35, 3) := by decide +kernel
theorem dX12_of_99 : decode cX12_of 99 = .ok (.iload_n 1, 1) := by decide +kernel
theorem dX12_of_100 : decode cX12_of 100 = .ok (.iaload, 1) := by decide +kernel
theorem dX12_of_101 : decode cX12_of 101 = .ok (.ireturn, 1) := by decide +kernel
theorem dX12_of_102 : decode cX12_of 102 = .ok (.aload_n 0, 1) := by decide +kernel
theorem dX12_of_103 : decode cX12_of 103 = .ok (.iload_n 1, 1) := by decide +kernel
theorem dX12_of_104 : decode cX12_of 104 = .ok (.invokevirtual 247, 3) := by decide +kernel
theorem dX12_of_107 : decode cX12_of 107 = .ok (.ireturn, 1) := by decide +kernel
theorem dX12_of_108 : decode cX12_of 108 = .ok (.aload_n 0, 1) := by decide +kernel
theorem dX12_of_109 : decode cX12_of 109 = .ok (.aload_n 0, 1) := by decide +kernel
theorem dX12_of_110 : decode cX12_of 110 = .ok (.iload_n 1, 1) := by decide +kernel
theorem dX12_of_111 : decode cX12_of 111 = .ok (.invokevirtual 247, 3) := by decide +kernel
theorem dX12_of_114 : decode cX12_of 114 = .ok (.invokevirtual 325, 3) := by decide +kernel
theorem dX12_of_117 : decode cX12_of 117 = .ok (.ireturn, 1) := by decide +kernel
theorem dX12_of_118 : decode cX12_of 118 = .ok (.aload_n 0, 1) := by decide +kernel
theorem dX12_of_119 : decode cX12_of 119 = .ok (.aload_n 0, 1) := by decide +kernel
theorem dX12_of_120 : decode cX12_of 120 = .ok (.iload_n 1, 1) := by decide +kernel
theorem dX12_of_121 : decode cX12_of 121 = .ok (.invokevirtual 247, 3) := by decide +kernel
theorem dX12_of_124 : decode cX12_of 124 = .ok (.invokevirtual 332, 3) := by decide +kernel
theorem dX12_of_127 : decode cX12_of 127 = .ok (.ireturn, 1) := by decide +kernel
theorem dX12_of_128 : decode cX12_of 128 = .ok (.iconst (-1), 1) := by decide +kernel
theorem dX12_of_129 : decode cX12_of 129 = .ok (.ireturn, 1) := by decide +kernel
set_option maxRecDepth 20000 in
theorem ggX12_told_X12_in : GoodIn wsX12_told wsX12_in := goodIn_s _ [(8, 1)] rfl (by decide +kernel)
set_option maxRecDepth 20000 in
theorem gX12_told_X12_in : GoodIn wsX12_told (wsV RX12 239 RX12 yX12_in wsX12_in) := goodIn_app (goodIn_of _ (by decide +kernel)) ggX12_told_X12_in
set_option maxRecDepth 20000 in
theorem ggX12_told_X12_gap : GoodIn wsX12_told wsX12_gap := goodIn_s _ [(12, 5), (7, 1), (17, 13), (38, 75)] rfl (by decide +kernel)
set_option maxRecDepth 20000 in
theorem gX12_told_X12_gap : GoodIn wsX12_told (wsV RX12 316 RX12 yX12_gap wsX12_gap) := goodIn_app (goodIn_of _ (by decide +kernel)) ggX12_told_X12_gap
set_option maxRecDepth 20000 in
theorem ggX12_told_X12_lastOf : GoodIn wsX12_told wsX12_lastOf := goodIn_s _ [(17, 6), (7, 1), (23, 7), (38, 75)] rfl (by decide +kernel)
set_option maxRecDepth 20000 in
theorem gX12_told_X12_lastOf : GoodIn wsX12_told (wsV RX12 303 RX12 yX12_lastOf wsX12_lastOf) := goodIn_app (goodIn_of _ (by decide +kernel)) ggX12_told_X12_lastOf
set_option maxRecDepth 20000 in
theorem ggX12_told_X12_fieldLong : GoodIn wsX12_told wsX12_fieldLong := goodIn_s _ [(33, 1), (14, 3), (7, 1), (17, 13), (34, 79)] rfl (by decide +kernel)
set_option maxRecDepth 20000 in
theorem gX12_told_X12_fieldLong : GoodIn wsX12_told (wsV RX12 335 RX12 yX12_fieldLong wsX12_fieldLong) := goodIn_app (goodIn_of _ (by decide +kernel)) ggX12_told_X12_fieldLong
theorem dX12_told_0 : decode cX12_told 0 = .ok (.aload_n 0, 1) := by decide +kernel
theorem dX12_told_1 : decode cX12_told 1 = .ok (.iload_n 1, 1) := by decide +kernel
theorem dX12_told_2 : decode cX12_told 2 = .ok (.bipush 10, 2) := by decide +kernel
theorem dX12_told_4 : decode cX12_told 4 = .ok (.bipush 9, 2) := by decide +kernel
theorem dX12_told_6 : decode cX12_told 6 = .ok (.aload_n 0, 1) := by decide +kernel
theorem dX12_told_7 : decode cX12_told 7 = .ok (.getfield 7, 3) := by decide +kernel
theorem dX12_told_10 : decode cX12_told 10 = .ok (.iadd, 1) := by decide +kernel
theorem dX12_told_11 : decode cX12_told 11 = .ok (.invokevirtual 239, 3) := by decide +kernel
theorem dX12_told_14 : decode cX12_told 14 = .ok (.ifCond .eq 13, 3) := by decide +kernel
theorem dX12_told_17 : decode cX12_told 17 = .ok (.aload_n 0, 1) := by decide +kernel
theorem dX12_told_18 : decode cX12_told 18 = .ok (.getfield 41, 3) := by decide +kernel
theorem dX12_told_21 : decode cX12_told 21 = .ok (.iload_n 1, 1) := by decide +kernel
theorem dX12_told_22 : decode cX12_told 22 = .ok (.bipush 10, 2) := by decide +kernel
theorem dX12_told_24 : decode cX12_told 24 = .ok (.isub, 1) := by decide +kernel
theorem dX12_told_25 : decode cX12_told 25 = .ok (.iaload, 1) := by decide +kernel
theorem dX12_told_26 : decode cX12_told 26 = .ok (.ireturn, 1) := by decide +kernel
theorem dX12_told_27 : decode cX12_told 27 = .ok (.iload_n 1, 1) := by decide +kernel
theorem dX12_told_28 : decode cX12_told 28 = .ok (.tableswitch 54 0 3 #[32, 37, 42, 49], 32) := by decide +kernel
theorem dX12_told_60 : decode cX12_told 60 = .ok (.aload_n 0, 1) := by decide +kernel
theorem dX12_told_61 : decode cX12_told 61 = .ok (.getfield 13, 3) := by decide +kernel
theorem dX12_told_64 : decode cX12_told 64 = .ok (.ireturn, 1) := by decide +kernel
theorem dX12_told_65 : decode cX12_told 65 = .ok (.aload_n 0, 1) := by decide +kernel
theorem dX12_told_66 : decode cX12_told 66 = .ok (.invokevirtual 316, 3) := by decide +kernel
theorem dX12_told_69 : decode cX12_told 69 = .ok (.ireturn, 1) := by decide +kernel
theorem dX12_told_70 : decode cX12_told 70 = .ok (.aload_n 0, 1) := by decide +kernel
theorem dX12_told_71 : decode cX12_told 71 = .ok (.iconst 3, 1) := by decide +kernel
theorem dX12_told_72 : decode cX12_told 72 = .ok (.iconst 1, 1) := by decide +kernel
theorem dX12_told_73 : decode cX12_told 73 = .ok (.invokevirtual 303, 3) := by decide +kernel
theorem dX12_told_76 : decode cX12_told 76 = .ok (.ireturn, 1) := by decide +kernel
theorem dX12_told_77 : decode cX12_told 77 = .ok (.aload_n 0, 1) := by decide +kernel
theorem dX12_told_78 : decode cX12_told 78 = .ok (.invokevirtual 335, 3) := by decide +kernel
theorem dX12_told_81 : decode cX12_told 81 = .ok (.ireturn, 1) := by decide +kernel
theorem dX12_told_82 : decode cX12_told 82 = .ok (.iconst (-1), 1) := by decide +kernel
theorem dX12_told_83 : decode cX12_told 83 = .ok (.ireturn, 1) := by decide +kernel
set_option maxRecDepth 20000 in
theorem ggX12_goes_X12_most : GoodIn wsX12_goes wsX12_most := goodIn_s _ [(11, 1)] rfl (by decide +kernel)
set_option maxRecDepth 20000 in
theorem gX12_goes_X12_most : GoodIn wsX12_goes (wsV RX12 307 RX12 yX12_most wsX12_most) := goodIn_app (goodIn_of _ (by decide +kernel)) ggX12_goes_X12_most
set_option maxRecDepth 20000 in
theorem ggX12_goes_X12_gap : GoodIn wsX12_goes wsX12_gap := goodIn_s _ [(15, 5), (10, 1), (20, 13), (37, 75)] rfl (by decide +kernel)
set_option maxRecDepth 20000 in
theorem gX12_goes_X12_gap : GoodIn wsX12_goes (wsV RX12 316 RX12 yX12_gap wsX12_gap) := goodIn_app (goodIn_of _ (by decide +kernel)) ggX12_goes_X12_gap
set_option maxRecDepth 20000 in
theorem ggX12_goes_X12_least : GoodIn wsX12_goes wsX12_least := goodIn_s _ [(36, 1)] rfl (by decide +kernel)
set_option maxRecDepth 20000 in
theorem gX12_goes_X12_least : GoodIn wsX12_goes (wsV RX12 338 RX12 yX12_least wsX12_least) := goodIn_app (goodIn_of _ (by decide +kernel)) ggX12_goes_X12_least
set_option maxRecDepth 20000 in
theorem ggX12_goes_X12_lastOf : GoodIn wsX12_goes wsX12_lastOf := goodIn_s _ [(20, 6), (10, 1), (26, 7), (37, 75)] rfl (by decide +kernel)
set_option maxRecDepth 20000 in
theorem gX12_goes_X12_lastOf : GoodIn wsX12_goes (wsV RX12 303 RX12 yX12_lastOf wsX12_lastOf) := goodIn_app (goodIn_of _ (by decide +kernel)) ggX12_goes_X12_lastOf
theorem dX12_goes_0 : decode cX12_goes 0 = .ok (.aload_n 0, 1) := by decide +kernel
theorem dX12_goes_1 : decode cX12_goes 1 = .ok (.getfield 41, 3) := by decide +kernel
theorem dX12_goes_4 : decode cX12_goes 4 = .ok (.iload_n 1, 1) := by decide +kernel
theorem dX12_goes_5 : decode cX12_goes 5 = .ok (.iaload, 1) := by decide +kernel
theorem dX12_goes_6 : decode cX12_goes 6 = .ok (.istore_n 2, 1) := by decide +kernel
theorem dX12_goes_7 : decode cX12_goes 7 = .ok (.aload_n 0, 1) := by decide +kernel
theorem dX12_goes_8 : decode cX12_goes 8 = .ok (.getfield 35, 3) := by decide +kernel
theorem dX12_goes_11 : decode cX12_goes 11 = .ok (.iload_n 2, 1) := by decide +kernel
theorem dX12_goes_12 : decode cX12_goes 12 = .ok (.iaload, 1) := by decide +kernel
theorem dX12_goes_13 : decode cX12_goes 13 = .ok (.ifCond .le 34, 3) := by decide +kernel
theorem dX12_goes_16 : decode cX12_goes 16 = .ok (.aload_n 0, 1) := by decide +kernel
theorem dX12_goes_17 : decode cX12_goes 17 = .ok (.getfield 35, 3) := by decide +kernel
theorem dX12_goes_20 : decode cX12_goes 20 = .ok (.iload_n 2, 1) := by decide +kernel
theorem dX12_goes_21 : decode cX12_goes 21 = .ok (.dup2, 1) := by decide +kernel
theorem dX12_goes_22 : decode cX12_goes 22 = .ok (.iaload, 1) := by decide +kernel
theorem dX12_goes_23 : decode cX12_goes 23 = .ok (.iconst 1, 1) := by decide +kernel
theorem dX12_goes_24 : decode cX12_goes 24 = .ok (.isub, 1) := by decide +kernel
theorem dX12_goes_25 : decode cX12_goes 25 = .ok (.iastore, 1) := by decide +kernel
theorem dX12_goes_26 : decode cX12_goes 26 = .ok (.aload_n 0, 1) := by decide +kernel
theorem dX12_goes_27 : decode cX12_goes 27 = .ok (.getfield 32, 3) := by decide +kernel
theorem dX12_goes_30 : decode cX12_goes 30 = .ok (.iload_n 2, 1) := by decide +kernel
theorem dX12_goes_31 : decode cX12_goes 31 = .ok (.aload_n 0, 1) := by decide +kernel
theorem dX12_goes_32 : decode cX12_goes 32 = .ok (.iconst 0, 1) := by decide +kernel
theorem dX12_goes_33 : decode cX12_goes 33 = .ok (.aload_n 0, 1) := by decide +kernel
theorem dX12_goes_34 : decode cX12_goes 34 = .ok (.getfield 32, 3) := by decide +kernel
theorem dX12_goes_37 : decode cX12_goes 37 = .ok (.iload_n 2, 1) := by decide +kernel
theorem dX12_goes_38 : decode cX12_goes 38 = .ok (.iaload, 1) := by decide +kernel
theorem dX12_goes_39 : decode cX12_goes 39 = .ok (.iconst 2, 1) := by decide +kernel
theorem dX12_goes_40 : decode cX12_goes 40 = .ok (.isub, 1) := by decide +kernel
theorem dX12_goes_41 : decode cX12_goes 41 = .ok (.invokevirtual 307, 3) := by decide +kernel
theorem dX12_goes_44 : decode cX12_goes 44 = .ok (.iastore, 1) := by decide +kernel
theorem dX12_goes_45 : decode cX12_goes 45 = .ok (.iconst 0, 1) := by decide +kernel
theorem dX12_goes_46 : decode cX12_goes 46 = .ok (.ireturn, 1) := by decide +kernel
theorem dX12_goes_47 : decode cX12_goes 47 = .ok (.iload_n 1, 1) := by decide +kernel
theorem dX12_goes_48 : decode cX12_goes 48 = .ok (.ifCond .ne 9, 3) := by decide +kernel
theorem dX12_goes_51 : decode cX12_goes 51 = .ok (.sipush 9999, 3) := by decide +kernel
theorem dX12_goes_54 : decode cX12_goes 54 = .ok (.goto 28, 3) := by decide +kernel
theorem dX12_goes_57 : decode cX12_goes 57 = .ok (.aload_n 0, 1) := by decide +kernel
theorem dX12_goes_58 : decode cX12_goes 58 = .ok (.sipush 9999, 3) := by decide +kernel
theorem dX12_goes_61 : decode cX12_goes 61 = .ok (.aload_n 0, 1) := by decide +kernel
theorem dX12_goes_62 : decode cX12_goes 62 = .ok (.getfield 26, 3) := by decide +kernel
theorem dX12_goes_65 : decode cX12_goes 65 = .ok (.aload_n 0, 1) := by decide +kernel
theorem dX12_goes_66 : decode cX12_goes 66 = .ok (.getfield 41, 3) := by decide +kernel
theorem dX12_goes_69 : decode cX12_goes 69 = .ok (.iload_n 1, 1) := by decide +kernel
theorem dX12_goes_70 : decode cX12_goes 70 = .ok (.iconst 1, 1) := by decide +kernel
theorem dX12_goes_71 : decode cX12_goes 71 = .ok (.isub, 1) := by decide +kernel
theorem dX12_goes_72 : decode cX12_goes 72 = .ok (.iaload, 1) := by decide +kernel
theorem dX12_goes_73 : decode cX12_goes 73 = .ok (.iaload, 1) := by decide +kernel
theorem dX12_goes_74 : decode cX12_goes 74 = .ok (.aload_n 0, 1) := by decide +kernel
theorem dX12_goes_75 : decode cX12_goes 75 = .ok (.invokevirtual 316, 3) := by decide +kernel
theorem dX12_goes_78 : decode cX12_goes 78 = .ok (.isub, 1) := by decide +kernel
theorem dX12_goes_79 : decode cX12_goes 79 = .ok (.invokevirtual 338, 3) := by decide +kernel
theorem dX12_goes_82 : decode cX12_goes 82 = .ok (.istore_n 3, 1) := by decide +kernel
theorem dX12_goes_83 : decode cX12_goes 83 = .ok (.aload_n 0, 1) := by decide +kernel
theorem dX12_goes_84 : decode cX12_goes 84 = .ok (.aload_n 0, 1) := by decide +kernel
theorem dX12_goes_85 : decode cX12_goes 85 = .ok (.getfield 26, 3) := by decide +kernel
theorem dX12_goes_88 : decode cX12_goes 88 = .ok (.iload_n 2, 1) := by decide +kernel
theorem dX12_goes_89 : decode cX12_goes 89 = .ok (.iaload, 1) := by decide +kernel
theorem dX12_goes_90 : decode cX12_goes 90 = .ok (.aload_n 0, 1) := by decide +kernel
theorem dX12_goes_91 : decode cX12_goes 91 = .ok (.iload_n 3, 1) := by decide +kernel
theorem dX12_goes_92 : decode cX12_goes 92 = .ok (.aload_n 0, 1) := by decide +kernel
theorem dX12_goes_93 : decode cX12_goes 93 = .ok (.getfield 26, 3) := by decide +kernel
theorem dX12_goes_96 : decode cX12_goes 96 = .ok (.iload_n 2, 1) := by decide +kernel
theorem dX12_goes_97 : decode cX12_goes 97 = .ok (.iaload, 1) := by decide +kernel
theorem dX12_goes_98 : decode cX12_goes 98 = .ok (.aload_n 0, 1) := by decide +kernel
theorem dX12_goes_99 : decode cX12_goes 99 = .ok (.getfield 105, 3) := by decide +kernel
theorem dX12_goes_102 : decode cX12_goes 102 = .ok (.iload_n 1, 1) := by decide +kernel
theorem dX12_goes_103 : decode cX12_goes 103 = .ok (.iaload, 1) := by decide +kernel
theorem dX12_goes_104 : decode cX12_goes 104 = .ok (.iadd, 1) := by decide +kernel
theorem dX12_goes_105 : decode cX12_goes 105 = .ok (.invokevirtual 338, 3) := by decide +kernel
theorem dX12_goes_108 : decode cX12_goes 108 = .ok (.invokevirtual 307, 3) := by decide +kernel
theorem dX12_goes_111 : decode cX12_goes 111 = .ok (.istore 4, 2) := by decide +kernel
theorem dX12_goes_113 : decode cX12_goes 113 = .ok (.iload 4, 2) := by decide +kernel
theorem dX12_goes_115 : decode cX12_goes 115 = .ok (.aload_n 0, 1) := by decide +kernel
theorem dX12_goes_116 : decode cX12_goes 116 = .ok (.getfield 26, 3) := by decide +kernel
theorem dX12_goes_119 : decode cX12_goes 119 = .ok (.iload_n 2, 1) := by decide +kernel
theorem dX12_goes_120 : decode cX12_goes 120 = .ok (.iaload, 1) := by decide +kernel
theorem dX12_goes_121 : decode cX12_goes 121 = .ok (.isub, 1) := by decide +kernel
theorem dX12_goes_122 : decode cX12_goes 122 = .ok (.istore 5, 2) := by decide +kernel
theorem dX12_goes_124 : decode cX12_goes 124 = .ok (.aload_n 0, 1) := by decide +kernel
theorem dX12_goes_125 : decode cX12_goes 125 = .ok (.getfield 26, 3) := by decide +kernel
theorem dX12_goes_128 : decode cX12_goes 128 = .ok (.iload_n 2, 1) := by decide +kernel
theorem dX12_goes_129 : decode cX12_goes 129 = .ok (.iload 4, 2) := by decide +kernel
theorem dX12_goes_131 : decode cX12_goes 131 = .ok (.iastore, 1) := by decide +kernel
theorem dX12_goes_132 : decode cX12_goes 132 = .ok (.iload 5, 2) := by decide +kernel
theorem dX12_goes_134 : decode cX12_goes 134 = .ok (.ifCond .le 50, 3) := by decide +kernel
theorem dX12_goes_137 : decode cX12_goes 137 = .ok (.aload_n 0, 1) := by decide +kernel
theorem dX12_goes_138 : decode cX12_goes 138 = .ok (.getfield 29, 3) := by decide +kernel
theorem dX12_goes_141 : decode cX12_goes 141 = .ok (.iload_n 2, 1) := by decide +kernel
theorem dX12_goes_142 : decode cX12_goes 142 = .ok (.aload_n 0, 1) := by decide +kernel
theorem dX12_goes_143 : decode cX12_goes 143 = .ok (.iconst 0, 1) := by decide +kernel
theorem dX12_goes_144 : decode cX12_goes 144 = .ok (.aload_n 0, 1) := by decide +kernel
theorem dX12_goes_145 : decode cX12_goes 145 = .ok (.getfield 29, 3) := by decide +kernel
theorem dX12_goes_148 : decode cX12_goes 148 = .ok (.iload_n 2, 1) := by decide +kernel
theorem dX12_goes_149 : decode cX12_goes 149 = .ok (.iaload, 1) := by decide +kernel
theorem dX12_goes_150 : decode cX12_goes 150 = .ok (.iconst 1, 1) := by decide +kernel
theorem dX12_goes_151 : decode cX12_goes 151 = .ok (.isub, 1) := by decide +kernel
theorem dX12_goes_152 : decode cX12_goes 152 = .ok (.invokevirtual 307, 3) := by decide +kernel
theorem dX12_goes_155 : decode cX12_goes 155 = .ok (.iastore, 1) := by decide +kernel
theorem dX12_goes_156 : decode cX12_goes 156 = .ok (.aload_n 0, 1) := by decide +kernel
theorem dX12_goes_157 : decode cX12_goes 157 = .ok (.getfield 32, 3) := by decide +kernel
theorem dX12_goes_160 : decode cX12_goes 160 = .ok (.iload_n 2, 1) := by decide +kernel
theorem dX12_goes_161 : decode cX12_goes 161 = .ok (.aload_n 0, 1) := by decide +kernel
theorem dX12_goes_162 : decode cX12_goes 162 = .ok (.bipush 99, 2) := by decide +kernel
theorem dX12_goes_164 : decode cX12_goes 164 = .ok (.aload_n 0, 1) := by decide +kernel
theorem dX12_goes_165 : decode cX12_goes 165 = .ok (.getfield 32, 3) := by decide +kernel
theorem dX12_goes_168 : decode cX12_goes 168 = .ok (.iload_n 2, 1) := by decide +kernel
theorem dX12_goes_169 : decode cX12_goes 169 = .ok (.iaload, 1) := by decide +kernel
theorem dX12_goes_170 : decode cX12_goes 170 = .ok (.aload_n 0, 1) := by decide +kernel
theorem dX12_goes_171 : decode cX12_goes 171 = .ok (.iconst 3, 1) := by decide +kernel
theorem dX12_goes_172 : decode cX12_goes 172 = .ok (.iconst 1, 1) := by decide +kernel
theorem dX12_goes_173 : decode cX12_goes 173 = .ok (.invokevirtual 303, 3) := by decide +kernel
theorem dX12_goes_176 : decode cX12_goes 176 = .ok (.iadd, 1) := by decide +kernel
theorem dX12_goes_177 : decode cX12_goes 177 = .ok (.invokevirtual 338, 3) := by decide +kernel
theorem dX12_goes_180 : decode cX12_goes 180 = .ok (.iastore, 1) := by decide +kernel
theorem dX12_goes_181 : decode cX12_goes 181 = .ok (.goto 22, 3) := by decide +kernel
theorem dX12_goes_184 : decode cX12_goes 184 = .ok (.aload_n 0, 1) := by decide +kernel
theorem dX12_goes_185 : decode cX12_goes 185 = .ok (.getfield 32, 3) := by decide +kernel
theorem dX12_goes_188 : decode cX12_goes 188 = .ok (.iload_n 2, 1) := by decide +kernel
theorem dX12_goes_189 : decode cX12_goes 189 = .ok (.aload_n 0, 1) := by decide +kernel
theorem dX12_goes_190 : decode cX12_goes 190 = .ok (.iconst 0, 1) := by decide +kernel
theorem dX12_goes_191 : decode cX12_goes 191 = .ok (.aload_n 0, 1) := by decide +kernel
theorem dX12_goes_192 : decode cX12_goes 192 = .ok (.getfield 32, 3) := by decide +kernel
theorem dX12_goes_195 : decode cX12_goes 195 = .ok (.iload_n 2, 1) := by decide +kernel
theorem dX12_goes_196 : decode cX12_goes 196 = .ok (.iaload, 1) := by decide +kernel
theorem dX12_goes_197 : decode cX12_goes 197 = .ok (.iconst 2, 1) := by decide +kernel
theorem dX12_goes_198 : decode cX12_goes 198 = .ok (.isub, 1) := by decide +kernel
theorem dX12_goes_199 : decode cX12_goes 199 = .ok (.invokevirtual 307, 3) := by decide +kernel
theorem dX12_goes_202 : decode cX12_goes 202 = .ok (.iastore, 1) := by decide +kernel
theorem dX12_goes_203 : decode cX12_goes 203 = .ok (.iload 5, 2) := by decide +kernel
theorem dX12_goes_205 : decode cX12_goes 205 = .ok (.aload_n 0, 1) := by decide +kernel
theorem dX12_goes_206 : decode cX12_goes 206 = .ok (.getfield 105, 3) := by decide +kernel
theorem dX12_goes_209 : decode cX12_goes 209 = .ok (.iload_n 1, 1) := by decide +kernel
theorem dX12_goes_210 : decode cX12_goes 210 = .ok (.iaload, 1) := by decide +kernel
theorem dX12_goes_211 : decode cX12_goes 211 = .ok (.if_icmp .ge 7, 3) := by decide +kernel
theorem dX12_goes_214 : decode cX12_goes 214 = .ok (.iconst 1, 1) := by decide +kernel
theorem dX12_goes_215 : decode cX12_goes 215 = .ok (.goto 4, 3) := by decide +kernel
theorem dX12_goes_218 : decode cX12_goes 218 = .ok (.iconst 0, 1) := by decide +kernel
theorem dX12_goes_219 : decode cX12_goes 219 = .ok (.ireturn, 1) := by decide +kernel
set_option maxRecDepth 20000 in
theorem ggX12_goMinute_X12_strideAt : GoodIn wsX12_goMinute wsX12_strideAt := goodIn_s _ [(10, 1), (3, 1), (11, 4), (9, 1), (15, 28), (5, 1), (43, 18), (1, 1), (61, 10), (80, 75)] rfl (by decide +kernel)
set_option maxRecDepth 20000 in
theorem gX12_goMinute_X12_strideAt : GoodIn wsX12_goMinute (wsV RX12 332 RX12 yX12_strideAt wsX12_strideAt) := goodIn_app (goodIn_of _ (by decide +kernel)) ggX12_goMinute_X12_strideAt
set_option maxRecDepth 20000 in
theorem ggX12_goMinute_X12_goes : GoodIn wsX12_goMinute wsX12_goes := goodIn_s _ [(74, 1), (3, 1), (75, 1), (42, 1), (61, 1), (2, 1), (11, 1), (43, 3), (9, 1), (46, 1), (62, 9), (17, 12), (76, 79)] rfl (by decide +kernel)
set_option maxRecDepth 20000 in
theorem gX12_goMinute_X12_goes : GoodIn wsX12_goMinute (wsV RX12 341 RX12 yX12_goes wsX12_goes) := goodIn_app (goodIn_of _ (by decide +kernel)) ggX12_goMinute_X12_goes
theorem dX12_goMinute_0 : decode cX12_goMinute 0 = .ok (.iconst 0, 1) := by decide +kernel
theorem dX12_goMinute_1 : decode cX12_goMinute 1 = .ok (.istore_n 1, 1) := by decide +kernel
theorem dX12_goMinute_2 : decode cX12_goMinute 2 = .ok (.iload_n 1, 1) := by decide +kernel
theorem dX12_goMinute_3 : decode cX12_goMinute 3 = .ok (.aload_n 0, 1) := by decide +kernel
theorem dX12_goMinute_4 : decode cX12_goMinute 4 = .ok (.getfield 16, 3) := by decide +kernel
theorem dX12_goMinute_7 : decode cX12_goMinute 7 = .ok (.if_icmp .ge 20, 3) := by decide +kernel
theorem dX12_goMinute_10 : decode cX12_goMinute 10 = .ok (.aload_n 0, 1) := by decide +kernel
theorem dX12_goMinute_11 : decode cX12_goMinute 11 = .ok (.getfield 105, 3) := by decide +kernel
theorem dX12_goMinute_14 : decode cX12_goMinute 14 = .ok (.iload_n 1, 1) := by decide +kernel
theorem dX12_goMinute_15 : decode cX12_goMinute 15 = .ok (.aload_n 0, 1) := by decide +kernel
theorem dX12_goMinute_16 : decode cX12_goMinute 16 = .ok (.iload_n 1, 1) := by decide +kernel
theorem dX12_goMinute_17 : decode cX12_goMinute 17 = .ok (.invokevirtual 332, 3) := by decide +kernel
theorem dX12_goMinute_20 : decode cX12_goMinute 20 = .ok (.iastore, 1) := by decide +kernel
theorem dX12_goMinute_21 : decode cX12_goMinute 21 = .ok (.iinc 1 1, 3) := by decide +kernel
theorem dX12_goMinute_24 : decode cX12_goMinute 24 = .ok (.goto (-22), 3) := by decide +kernel
theorem dX12_goMinute_27 : decode cX12_goMinute 27 = .ok (.iconst 0, 1) := by decide +kernel
theorem dX12_goMinute_28 : decode cX12_goMinute 28 = .ok (.istore_n 1, 1) := by decide +kernel
theorem dX12_goMinute_29 : decode cX12_goMinute 29 = .ok (.iconst 0, 1) := by decide +kernel
theorem dX12_goMinute_30 : decode cX12_goMinute 30 = .ok (.istore_n 2, 1) := by decide +kernel
theorem dX12_goMinute_31 : decode cX12_goMinute 31 = .ok (.iload_n 2, 1) := by decide +kernel
theorem dX12_goMinute_32 : decode cX12_goMinute 32 = .ok (.aload_n 0, 1) := by decide +kernel
theorem dX12_goMinute_33 : decode cX12_goMinute 33 = .ok (.getfield 16, 3) := by decide +kernel
theorem dX12_goMinute_36 : decode cX12_goMinute 36 = .ok (.if_icmp .ge 46, 3) := by decide +kernel
theorem dX12_goMinute_39 : decode cX12_goMinute 39 = .ok (.aload_n 0, 1) := by decide +kernel
theorem dX12_goMinute_40 : decode cX12_goMinute 40 = .ok (.iload_n 2, 1) := by decide +kernel
theorem dX12_goMinute_41 : decode cX12_goMinute 41 = .ok (.invokevirtual 341, 3) := by decide +kernel
theorem dX12_goMinute_44 : decode cX12_goMinute 44 = .ok (.ifCond .ne 6, 3) := by decide +kernel
theorem dX12_goMinute_47 : decode cX12_goMinute 47 = .ok (.goto 29, 3) := by decide +kernel
theorem dX12_goMinute_50 : decode cX12_goMinute 50 = .ok (.iload_n 1, 1) := by decide +kernel
theorem dX12_goMinute_51 : decode cX12_goMinute 51 = .ok (.iconst 1, 1) := by decide +kernel
theorem dX12_goMinute_52 : decode cX12_goMinute 52 = .ok (.aload_n 0, 1) := by decide +kernel
theorem dX12_goMinute_53 : decode cX12_goMinute 53 = .ok (.getfield 41, 3) := by decide +kernel
theorem dX12_goMinute_56 : decode cX12_goMinute 56 = .ok (.iload_n 2, 1) := by decide +kernel
theorem dX12_goMinute_57 : decode cX12_goMinute 57 = .ok (.iaload, 1) := by decide +kernel
theorem dX12_goMinute_58 : decode cX12_goMinute 58 = .ok (.ishl, 1) := by decide +kernel
theorem dX12_goMinute_59 : decode cX12_goMinute 59 = .ok (.ior, 1) := by decide +kernel
theorem dX12_goMinute_60 : decode cX12_goMinute 60 = .ok (.istore_n 1, 1) := by decide +kernel
theorem dX12_goMinute_61 : decode cX12_goMinute 61 = .ok (.aload_n 0, 1) := by decide +kernel
theorem dX12_goMinute_62 : decode cX12_goMinute 62 = .ok (.getfield 108, 3) := by decide +kernel
theorem dX12_goMinute_65 : decode cX12_goMinute 65 = .ok (.aload_n 0, 1) := by decide +kernel
theorem dX12_goMinute_66 : decode cX12_goMinute 66 = .ok (.getfield 41, 3) := by decide +kernel
theorem dX12_goMinute_69 : decode cX12_goMinute 69 = .ok (.iload_n 2, 1) := by decide +kernel
theorem dX12_goMinute_70 : decode cX12_goMinute 70 = .ok (.iaload, 1) := by decide +kernel
theorem dX12_goMinute_71 : decode cX12_goMinute 71 = .ok (.dup2, 1) := by decide +kernel
theorem dX12_goMinute_72 : decode cX12_goMinute 72 = .ok (.iaload, 1) := by decide +kernel
theorem dX12_goMinute_73 : decode cX12_goMinute 73 = .ok (.iconst 1, 1) := by decide +kernel
theorem dX12_goMinute_74 : decode cX12_goMinute 74 = .ok (.iadd, 1) := by decide +kernel
theorem dX12_goMinute_75 : decode cX12_goMinute 75 = .ok (.iastore, 1) := by decide +kernel
theorem dX12_goMinute_76 : decode cX12_goMinute 76 = .ok (.iinc 2 1, 3) := by decide +kernel
theorem dX12_goMinute_79 : decode cX12_goMinute 79 = .ok (.goto (-48), 3) := by decide +kernel
theorem dX12_goMinute_82 : decode cX12_goMinute 82 = .ok (.aload_n 0, 1) := by decide +kernel
theorem dX12_goMinute_83 : decode cX12_goMinute 83 = .ok (.dup, 1) := by decide +kernel
theorem dX12_goMinute_84 : decode cX12_goMinute 84 = .ok (.getfield 13, 3) := by decide +kernel
theorem dX12_goMinute_87 : decode cX12_goMinute 87 = .ok (.iconst 1, 1) := by decide +kernel
theorem dX12_goMinute_88 : decode cX12_goMinute 88 = .ok (.iadd, 1) := by decide +kernel
theorem dX12_goMinute_89 : decode cX12_goMinute 89 = .ok (.putfield 13, 3) := by decide +kernel
theorem dX12_goMinute_92 : decode cX12_goMinute 92 = .ok (.iload_n 1, 1) := by decide +kernel
theorem dX12_goMinute_93 : decode cX12_goMinute 93 = .ok (.ireturn, 1) := by decide +kernel
set_option maxRecDepth 20000 in
theorem ggX12_goWhet_X12_most : GoodIn wsX12_goWhet wsX12_most := goodIn_s _ [(10, 1)] rfl (by decide +kernel)
set_option maxRecDepth 20000 in
theorem gX12_goWhet_X12_most : GoodIn wsX12_goWhet (wsV RX12 307 RX12 yX12_most wsX12_most) := goodIn_app (goodIn_of _ (by decide +kernel)) ggX12_goWhet_X12_most
theorem dX12_goWhet_0 : decode cX12_goWhet 0 = .ok (.iconst 0, 1) := by decide +kernel
theorem dX12_goWhet_1 : decode cX12_goWhet 1 = .ok (.istore_n 1, 1) := by decide +kernel
theorem dX12_goWhet_2 : decode cX12_goWhet 2 = .ok (.iload_n 1, 1) := by decide +kernel
theorem dX12_goWhet_3 : decode cX12_goWhet 3 = .ok (.aload_n 0, 1) := by decide +kernel
theorem dX12_goWhet_4 : decode cX12_goWhet 4 = .ok (.getfield 7, 3) := by decide +kernel
theorem dX12_goWhet_7 : decode cX12_goWhet 7 = .ok (.if_icmp .ge 55, 3) := by decide +kernel
theorem dX12_goWhet_10 : decode cX12_goWhet 10 = .ok (.aload_n 0, 1) := by decide +kernel
theorem dX12_goWhet_11 : decode cX12_goWhet 11 = .ok (.getfield 29, 3) := by decide +kernel
theorem dX12_goWhet_14 : decode cX12_goWhet 14 = .ok (.iload_n 1, 1) := by decide +kernel
theorem dX12_goWhet_15 : decode cX12_goWhet 15 = .ok (.bipush 10, 2) := by decide +kernel
theorem dX12_goWhet_17 : decode cX12_goWhet 17 = .ok (.iastore, 1) := by decide +kernel
theorem dX12_goWhet_18 : decode cX12_goWhet 18 = .ok (.aload_n 0, 1) := by decide +kernel
theorem dX12_goWhet_19 : decode cX12_goWhet 19 = .ok (.getfield 32, 3) := by decide +kernel
theorem dX12_goWhet_22 : decode cX12_goWhet 22 = .ok (.iload_n 1, 1) := by decide +kernel
theorem dX12_goWhet_23 : decode cX12_goWhet 23 = .ok (.aload_n 0, 1) := by decide +kernel
theorem dX12_goWhet_24 : decode cX12_goWhet 24 = .ok (.iconst 0, 1) := by decide +kernel
theorem dX12_goWhet_25 : decode cX12_goWhet 25 = .ok (.aload_n 0, 1) := by decide +kernel
theorem dX12_goWhet_26 : decode cX12_goWhet 26 = .ok (.getfield 32, 3) := by decide +kernel
theorem dX12_goWhet_29 : decode cX12_goWhet 29 = .ok (.iload_n 1, 1) := by decide +kernel
theorem dX12_goWhet_30 : decode cX12_goWhet 30 = .ok (.iaload, 1) := by decide +kernel
theorem dX12_goWhet_31 : decode cX12_goWhet 31 = .ok (.iconst 1, 1) := by decide +kernel
theorem dX12_goWhet_32 : decode cX12_goWhet 32 = .ok (.isub, 1) := by decide +kernel
theorem dX12_goWhet_33 : decode cX12_goWhet 33 = .ok (.invokevirtual 307, 3) := by decide +kernel
theorem dX12_goWhet_36 : decode cX12_goWhet 36 = .ok (.iastore, 1) := by decide +kernel
theorem dX12_goWhet_37 : decode cX12_goWhet 37 = .ok (.aload_n 0, 1) := by decide +kernel
theorem dX12_goWhet_38 : decode cX12_goWhet 38 = .ok (.getfield 35, 3) := by decide +kernel
theorem dX12_goWhet_41 : decode cX12_goWhet 41 = .ok (.iload_n 1, 1) := by decide +kernel
theorem dX12_goWhet_42 : decode cX12_goWhet 42 = .ok (.aload_n 0, 1) := by decide +kernel
theorem dX12_goWhet_43 : decode cX12_goWhet 43 = .ok (.iconst 0, 1) := by decide +kernel
theorem dX12_goWhet_44 : decode cX12_goWhet 44 = .ok (.aload_n 0, 1) := by decide +kernel
theorem dX12_goWhet_45 : decode cX12_goWhet 45 = .ok (.getfield 35, 3) := by decide +kernel
theorem dX12_goWhet_48 : decode cX12_goWhet 48 = .ok (.iload_n 1, 1) := by decide +kernel
theorem dX12_goWhet_49 : decode cX12_goWhet 49 = .ok (.iaload, 1) := by decide +kernel
theorem dX12_goWhet_50 : decode cX12_goWhet 50 = .ok (.iconst 1, 1) := by decide +kernel
theorem dX12_goWhet_51 : decode cX12_goWhet 51 = .ok (.isub, 1) := by decide +kernel
theorem dX12_goWhet_52 : decode cX12_goWhet 52 = .ok (.invokevirtual 307, 3) := by decide +kernel
theorem dX12_goWhet_55 : decode cX12_goWhet 55 = .ok (.iastore, 1) := by decide +kernel
theorem dX12_goWhet_56 : decode cX12_goWhet 56 = .ok (.iinc 1 1, 3) := by decide +kernel
theorem dX12_goWhet_59 : decode cX12_goWhet 59 = .ok (.goto (-57), 3) := by decide +kernel
theorem dX12_goWhet_62 : decode cX12_goWhet 62 = .ok (.aload_n 0, 1) := by decide +kernel
theorem dX12_goWhet_63 : decode cX12_goWhet 63 = .ok (.dup, 1) := by decide +kernel
theorem dX12_goWhet_64 : decode cX12_goWhet 64 = .ok (.getfield 13, 3) := by decide +kernel
theorem dX12_goWhet_67 : decode cX12_goWhet 67 = .ok (.iconst 1, 1) := by decide +kernel
theorem dX12_goWhet_68 : decode cX12_goWhet 68 = .ok (.iadd, 1) := by decide +kernel
theorem dX12_goWhet_69 : decode cX12_goWhet 69 = .ok (.putfield 13, 3) := by decide +kernel
theorem dX12_goWhet_72 : decode cX12_goWhet 72 = .ok (.return_, 1) := by decide +kernel
set_option maxRecDepth 20000 in
theorem ggX12_goPause_X12_most : GoodIn wsX12_goPause wsX12_most := goodIn_s _ [(9, 1)] rfl (by decide +kernel)
set_option maxRecDepth 20000 in
theorem gX12_goPause_X12_most : GoodIn wsX12_goPause (wsV RX12 307 RX12 yX12_most wsX12_most) := goodIn_app (goodIn_of _ (by decide +kernel)) ggX12_goPause_X12_most
theorem dX12_goPause_0 : decode cX12_goPause 0 = .ok (.iconst 0, 1) := by decide +kernel
theorem dX12_goPause_1 : decode cX12_goPause 1 = .ok (.istore_n 2, 1) := by decide +kernel
theorem dX12_goPause_2 : decode cX12_goPause 2 = .ok (.iload_n 2, 1) := by decide +kernel
theorem dX12_goPause_3 : decode cX12_goPause 3 = .ok (.aload_n 0, 1) := by decide +kernel
theorem dX12_goPause_4 : decode cX12_goPause 4 = .ok (.getfield 7, 3) := by decide +kernel
theorem dX12_goPause_7 : decode cX12_goPause 7 = .ok (.if_icmp .ge 49, 3) := by decide +kernel
theorem dX12_goPause_10 : decode cX12_goPause 10 = .ok (.aload_n 0, 1) := by decide +kernel
theorem dX12_goPause_11 : decode cX12_goPause 11 = .ok (.getfield 32, 3) := by decide +kernel
theorem dX12_goPause_14 : decode cX12_goPause 14 = .ok (.iload_n 2, 1) := by decide +kernel
theorem dX12_goPause_15 : decode cX12_goPause 15 = .ok (.aload_n 0, 1) := by decide +kernel
theorem dX12_goPause_16 : decode cX12_goPause 16 = .ok (.iconst 0, 1) := by decide +kernel
theorem dX12_goPause_17 : decode cX12_goPause 17 = .ok (.aload_n 0, 1) := by decide +kernel
theorem dX12_goPause_18 : decode cX12_goPause 18 = .ok (.getfield 32, 3) := by decide +kernel
theorem dX12_goPause_21 : decode cX12_goPause 21 = .ok (.iload_n 2, 1) := by decide +kernel
theorem dX12_goPause_22 : decode cX12_goPause 22 = .ok (.iaload, 1) := by decide +kernel
theorem dX12_goPause_23 : decode cX12_goPause 23 = .ok (.iconst 3, 1) := by decide +kernel
theorem dX12_goPause_24 : decode cX12_goPause 24 = .ok (.iload_n 1, 1) := by decide +kernel
theorem dX12_goPause_25 : decode cX12_goPause 25 = .ok (.imul, 1) := by decide +kernel
theorem dX12_goPause_26 : decode cX12_goPause 26 = .ok (.isub, 1) := by decide +kernel
theorem dX12_goPause_27 : decode cX12_goPause 27 = .ok (.invokevirtual 307, 3) := by decide +kernel
theorem dX12_goPause_30 : decode cX12_goPause 30 = .ok (.iastore, 1) := by decide +kernel
theorem dX12_goPause_31 : decode cX12_goPause 31 = .ok (.aload_n 0, 1) := by decide +kernel
theorem dX12_goPause_32 : decode cX12_goPause 32 = .ok (.getfield 35, 3) := by decide +kernel
theorem dX12_goPause_35 : decode cX12_goPause 35 = .ok (.iload_n 2, 1) := by decide +kernel
theorem dX12_goPause_36 : decode cX12_goPause 36 = .ok (.aload_n 0, 1) := by decide +kernel
theorem dX12_goPause_37 : decode cX12_goPause 37 = .ok (.iconst 0, 1) := by decide +kernel
theorem dX12_goPause_38 : decode cX12_goPause 38 = .ok (.aload_n 0, 1) := by decide +kernel
theorem dX12_goPause_39 : decode cX12_goPause 39 = .ok (.getfield 35, 3) := by decide +kernel
theorem dX12_goPause_42 : decode cX12_goPause 42 = .ok (.iload_n 2, 1) := by decide +kernel
theorem dX12_goPause_43 : decode cX12_goPause 43 = .ok (.iaload, 1) := by decide +kernel
theorem dX12_goPause_44 : decode cX12_goPause 44 = .ok (.iload_n 1, 1) := by decide +kernel
theorem dX12_goPause_45 : decode cX12_goPause 45 = .ok (.isub, 1) := by decide +kernel
theorem dX12_goPause_46 : decode cX12_goPause 46 = .ok (.invokevirtual 307, 3) := by decide +kernel
theorem dX12_goPause_49 : decode cX12_goPause 49 = .ok (.iastore, 1) := by decide +kernel
theorem dX12_goPause_50 : decode cX12_goPause 50 = .ok (.iinc 2 1, 3) := by decide +kernel
theorem dX12_goPause_53 : decode cX12_goPause 53 = .ok (.goto (-51), 3) := by decide +kernel
theorem dX12_goPause_56 : decode cX12_goPause 56 = .ok (.aload_n 0, 1) := by decide +kernel
theorem dX12_goPause_57 : decode cX12_goPause 57 = .ok (.dup, 1) := by decide +kernel
theorem dX12_goPause_58 : decode cX12_goPause 58 = .ok (.getfield 13, 3) := by decide +kernel
theorem dX12_goPause_61 : decode cX12_goPause 61 = .ok (.iload_n 1, 1) := by decide +kernel
theorem dX12_goPause_62 : decode cX12_goPause 62 = .ok (.iadd, 1) := by decide +kernel
theorem dX12_goPause_63 : decode cX12_goPause 63 = .ok (.putfield 13, 3) := by decide +kernel
theorem dX12_goPause_66 : decode cX12_goPause 66 = .ok (.return_, 1) := by decide +kernel
set_option maxRecDepth 20000 in
theorem ggX12_goMinutes_X12_goMinute : GoodIn wsX12_goMinutes wsX12_goMinute := goodIn_s _ [(5, 9), (4, 1), (14, 145)] rfl (by decide +kernel)
set_option maxRecDepth 20000 in
theorem gX12_goMinutes_X12_goMinute : GoodIn wsX12_goMinutes (wsV RX12 344 RX12 yX12_goMinute wsX12_goMinute) := goodIn_app (goodIn_of _ (by decide +kernel)) ggX12_goMinutes_X12_goMinute
theorem dX12_goMinutes_0 : decode cX12_goMinutes 0 = .ok (.iconst 0, 1) := by decide +kernel
theorem dX12_goMinutes_1 : decode cX12_goMinutes 1 = .ok (.istore_n 2, 1) := by decide +kernel
theorem dX12_goMinutes_2 : decode cX12_goMinutes 2 = .ok (.iload_n 2, 1) := by decide +kernel
theorem dX12_goMinutes_3 : decode cX12_goMinutes 3 = .ok (.iload_n 1, 1) := by decide +kernel
theorem dX12_goMinutes_4 : decode cX12_goMinutes 4 = .ok (.if_icmp .ge 14, 3) := by decide +kernel
theorem dX12_goMinutes_7 : decode cX12_goMinutes 7 = .ok (.aload_n 0, 1) := by decide +kernel
theorem dX12_goMinutes_8 : decode cX12_goMinutes 8 = .ok (.invokevirtual 344, 3) := by decide +kernel
theorem dX12_goMinutes_11 : decode cX12_goMinutes 11 = .ok (.istore_n 3, 1) := by decide +kernel
theorem dX12_goMinutes_12 : decode cX12_goMinutes 12 = .ok (.iinc 2 1, 3) := by decide +kernel
theorem dX12_goMinutes_15 : decode cX12_goMinutes 15 = .ok (.goto (-13), 3) := by decide +kernel
theorem dX12_goMinutes_18 : decode cX12_goMinutes 18 = .ok (.return_, 1) := by decide +kernel
set_option maxRecDepth 20000 in
theorem ggX12_minute_X12_goMinute : GoodIn wsX12_minute wsX12_goMinute := goodIn_s _ [(6, 5), (1, 1), (11, 3), (5, 1), (14, 145)] rfl (by decide +kernel)
set_option maxRecDepth 20000 in
theorem gX12_minute_X12_goMinute : GoodIn wsX12_minute (wsV RX12 344 RX12 yX12_goMinute wsX12_goMinute) := goodIn_app (goodIn_of _ (by decide +kernel)) ggX12_minute_X12_goMinute
theorem dX12_minute_0 : decode cX12_minute 0 = .ok (.aload_n 0, 1) := by decide +kernel
theorem dX12_minute_1 : decode cX12_minute 1 = .ok (.getfield 13, 3) := by decide +kernel
theorem dX12_minute_4 : decode cX12_minute 4 = .ok (.sipush 9999, 3) := by decide +kernel
theorem dX12_minute_7 : decode cX12_minute 7 = .ok (.if_icmp .ne 8, 3) := by decide +kernel
theorem dX12_minute_10 : decode cX12_minute 10 = .ok (.bipush (-3), 2) := by decide +kernel
theorem dX12_minute_12 : decode cX12_minute 12 = .ok (.goto 7, 3) := by decide +kernel
theorem dX12_minute_15 : decode cX12_minute 15 = .ok (.aload_n 0, 1) := by decide +kernel
theorem dX12_minute_16 : decode cX12_minute 16 = .ok (.invokevirtual 344, 3) := by decide +kernel
theorem dX12_minute_19 : decode cX12_minute 19 = .ok (.ireturn, 1) := by decide +kernel
set_option maxRecDepth 20000 in
theorem ggX12_whet_X12_goWhet : GoodIn wsX12_whet wsX12_goWhet := goodIn_s _ [(6, 5), (1, 1), (11, 3), (5, 1), (14, 76)] rfl (by decide +kernel)
set_option maxRecDepth 20000 in
theorem gX12_whet_X12_goWhet : GoodIn wsX12_whet (wsV RX12 347 RX12 yX12_goWhet wsX12_goWhet) := goodIn_app (goodIn_of _ (by decide +kernel)) ggX12_whet_X12_goWhet
theorem dX12_whet_0 : decode cX12_whet 0 = .ok (.aload_n 0, 1) := by decide +kernel
theorem dX12_whet_1 : decode cX12_whet 1 = .ok (.getfield 13, 3) := by decide +kernel
theorem dX12_whet_4 : decode cX12_whet 4 = .ok (.sipush 9999, 3) := by decide +kernel
theorem dX12_whet_7 : decode cX12_whet 7 = .ok (.if_icmp .ne 6, 3) := by decide +kernel
theorem dX12_whet_10 : decode cX12_whet 10 = .ok (.bipush (-3), 2) := by decide +kernel
theorem dX12_whet_12 : decode cX12_whet 12 = .ok (.ireturn, 1) := by decide +kernel
theorem dX12_whet_13 : decode cX12_whet 13 = .ok (.aload_n 0, 1) := by decide +kernel
theorem dX12_whet_14 : decode cX12_whet 14 = .ok (.invokevirtual 347, 3) := by decide +kernel
theorem dX12_whet_17 : decode cX12_whet 17 = .ok (.aload_n 0, 1) := by decide +kernel
theorem dX12_whet_18 : decode cX12_whet 18 = .ok (.getfield 13, 3) := by decide +kernel
theorem dX12_whet_21 : decode cX12_whet 21 = .ok (.ireturn, 1) := by decide +kernel
set_option maxRecDepth 20000 in
theorem ggX12_pause_X12_in : GoodIn wsX12_pause wsX12_in := goodIn_s _ [(6, 1)] rfl (by decide +kernel)
set_option maxRecDepth 20000 in
theorem gX12_pause_X12_in : GoodIn wsX12_pause (wsV RX12 239 RX12 yX12_in wsX12_in) := goodIn_app (goodIn_of _ (by decide +kernel)) ggX12_pause_X12_in
set_option maxRecDepth 20000 in
theorem ggX12_pause_X12_goPause : GoodIn wsX12_pause wsX12_goPause := goodIn_s _ [(10, 4), (1, 1), (14, 3), (5, 1), (17, 76)] rfl (by decide +kernel)
set_option maxRecDepth 20000 in
theorem gX12_pause_X12_goPause : GoodIn wsX12_pause (wsV RX12 350 RX12 yX12_goPause wsX12_goPause) := goodIn_app (goodIn_of _ (by decide +kernel)) ggX12_pause_X12_goPause
theorem dX12_pause_0 : decode cX12_pause 0 = .ok (.aload_n 0, 1) := by decide +kernel
theorem dX12_pause_1 : decode cX12_pause 1 = .ok (.iload_n 1, 1) := by decide +kernel
theorem dX12_pause_2 : decode cX12_pause 2 = .ok (.iconst 1, 1) := by decide +kernel
theorem dX12_pause_3 : decode cX12_pause 3 = .ok (.bipush 60, 2) := by decide +kernel
theorem dX12_pause_5 : decode cX12_pause 5 = .ok (.invokevirtual 239, 3) := by decide +kernel
theorem dX12_pause_8 : decode cX12_pause 8 = .ok (.ifCond .ne 6, 3) := by decide +kernel
theorem dX12_pause_11 : decode cX12_pause 11 = .ok (.bipush (-2), 2) := by decide +kernel
theorem dX12_pause_13 : decode cX12_pause 13 = .ok (.ireturn, 1) := by decide +kernel
theorem dX12_pause_14 : decode cX12_pause 14 = .ok (.aload_n 0, 1) := by decide +kernel
theorem dX12_pause_15 : decode cX12_pause 15 = .ok (.getfield 13, 3) := by decide +kernel
theorem dX12_pause_18 : decode cX12_pause 18 = .ok (.iload_n 1, 1) := by decide +kernel
theorem dX12_pause_19 : decode cX12_pause 19 = .ok (.iadd, 1) := by decide +kernel
theorem dX12_pause_20 : decode cX12_pause 20 = .ok (.sipush 9999, 3) := by decide +kernel
theorem dX12_pause_23 : decode cX12_pause 23 = .ok (.if_icmp .le 6, 3) := by decide +kernel
theorem dX12_pause_26 : decode cX12_pause 26 = .ok (.bipush (-3), 2) := by decide +kernel
theorem dX12_pause_28 : decode cX12_pause 28 = .ok (.ireturn, 1) := by decide +kernel
theorem dX12_pause_29 : decode cX12_pause 29 = .ok (.aload_n 0, 1) := by decide +kernel
theorem dX12_pause_30 : decode cX12_pause 30 = .ok (.iload_n 1, 1) := by decide +kernel
theorem dX12_pause_31 : decode cX12_pause 31 = .ok (.invokevirtual 350, 3) := by decide +kernel
theorem dX12_pause_34 : decode cX12_pause 34 = .ok (.aload_n 0, 1) := by decide +kernel
theorem dX12_pause_35 : decode cX12_pause 35 = .ok (.getfield 13, 3) := by decide +kernel
theorem dX12_pause_38 : decode cX12_pause 38 = .ok (.ireturn, 1) := by decide +kernel
theorem dX12_save_0 : decode cX12_save 0 = .ok (.aload_n 0, 1) := by decide +kernel
theorem dX12_save_1 : decode cX12_save 1 = .ok (.aload_n 0, 1) := by decide +kernel
theorem dX12_save_2 : decode cX12_save 2 = .ok (.getfield 13, 3) := by decide +kernel
theorem dX12_save_5 : decode cX12_save 5 = .ok (.putfield 111, 3) := by decide +kernel
theorem dX12_save_8 : decode cX12_save 8 = .ok (.iconst 0, 1) := by decide +kernel
theorem dX12_save_9 : decode cX12_save 9 = .ok (.istore_n 1, 1) := by decide +kernel
theorem dX12_save_10 : decode cX12_save 10 = .ok (.iload_n 1, 1) := by decide +kernel
theorem dX12_save_11 : decode cX12_save 11 = .ok (.bipush 6, 2) := by decide +kernel
theorem dX12_save_13 : decode cX12_save 13 = .ok (.if_icmp .ge 64, 3) := by decide +kernel
theorem dX12_save_16 : decode cX12_save 16 = .ok (.aload_n 0, 1) := by decide +kernel
theorem dX12_save_17 : decode cX12_save 17 = .ok (.getfield 114, 3) := by decide +kernel
theorem dX12_save_20 : decode cX12_save 20 = .ok (.iload_n 1, 1) := by decide +kernel
theorem dX12_save_21 : decode cX12_save 21 = .ok (.aload_n 0, 1) := by decide +kernel
theorem dX12_save_22 : decode cX12_save 22 = .ok (.getfield 26, 3) := by decide +kernel
theorem dX12_save_25 : decode cX12_save 25 = .ok (.iload_n 1, 1) := by decide +kernel
theorem dX12_save_26 : decode cX12_save 26 = .ok (.iaload, 1) := by decide +kernel
theorem dX12_save_27 : decode cX12_save 27 = .ok (.iastore, 1) := by decide +kernel
theorem dX12_save_28 : decode cX12_save 28 = .ok (.aload_n 0, 1) := by decide +kernel
theorem dX12_save_29 : decode cX12_save 29 = .ok (.getfield 117, 3) := by decide +kernel
theorem dX12_save_32 : decode cX12_save 32 = .ok (.iload_n 1, 1) := by decide +kernel
theorem dX12_save_33 : decode cX12_save 33 = .ok (.aload_n 0, 1) := by decide +kernel
theorem dX12_save_34 : decode cX12_save 34 = .ok (.getfield 29, 3) := by decide +kernel
theorem dX12_save_37 : decode cX12_save 37 = .ok (.iload_n 1, 1) := by decide +kernel
theorem dX12_save_38 : decode cX12_save 38 = .ok (.iaload, 1) := by decide +kernel
theorem dX12_save_39 : decode cX12_save 39 = .ok (.iastore, 1) := by decide +kernel
theorem dX12_save_40 : decode cX12_save 40 = .ok (.aload_n 0, 1) := by decide +kernel
theorem dX12_save_41 : decode cX12_save 41 = .ok (.getfield 120, 3) := by decide +kernel
theorem dX12_save_44 : decode cX12_save 44 = .ok (.iload_n 1, 1) := by decide +kernel
theorem dX12_save_45 : decode cX12_save 45 = .ok (.aload_n 0, 1) := by decide +kernel
theorem dX12_save_46 : decode cX12_save 46 = .ok (.getfield 32, 3) := by decide +kernel
theorem dX12_save_49 : decode cX12_save 49 = .ok (.iload_n 1, 1) := by decide +kernel
theorem dX12_save_50 : decode cX12_save 50 = .ok (.iaload, 1) := by decide +kernel
theorem dX12_save_51 : decode cX12_save 51 = .ok (.iastore, 1) := by decide +kernel
theorem dX12_save_52 : decode cX12_save 52 = .ok (.aload_n 0, 1) := by decide +kernel
theorem dX12_save_53 : decode cX12_save 53 = .ok (.getfield 123, 3) := by decide +kernel
theorem dX12_save_56 : decode cX12_save 56 = .ok (.iload_n 1, 1) := by decide +kernel
theorem dX12_save_57 : decode cX12_save 57 = .ok (.aload_n 0, 1) := by decide +kernel
theorem dX12_save_58 : decode cX12_save 58 = .ok (.getfield 35, 3) := by decide +kernel
theorem dX12_save_61 : decode cX12_save 61 = .ok (.iload_n 1, 1) := by decide +kernel
theorem dX12_save_62 : decode cX12_save 62 = .ok (.iaload, 1) := by decide +kernel
theorem dX12_save_63 : decode cX12_save 63 = .ok (.iastore, 1) := by decide +kernel
theorem dX12_save_64 : decode cX12_save 64 = .ok (.aload_n 0, 1) := by decide +kernel
theorem dX12_save_65 : decode cX12_save 65 = .ok (.getfield 108, 3) := by decide +kernel
theorem dX12_save_68 : decode cX12_save 68 = .ok (.iload_n 1, 1) := by decide +kernel
theorem dX12_save_69 : decode cX12_save 69 = .ok (.iconst 0, 1) := by decide +kernel
theorem dX12_save_70 : decode cX12_save 70 = .ok (.iastore, 1) := by decide +kernel
theorem dX12_save_71 : decode cX12_save 71 = .ok (.iinc 1 1, 3) := by decide +kernel
theorem dX12_save_74 : decode cX12_save 74 = .ok (.goto (-64), 3) := by decide +kernel
theorem dX12_save_77 : decode cX12_save 77 = .ok (.return_, 1) := by decide +kernel
theorem dX12_putBack_0 : decode cX12_putBack 0 = .ok (.aload_n 0, 1) := by decide +kernel
theorem dX12_putBack_1 : decode cX12_putBack 1 = .ok (.aload_n 0, 1) := by decide +kernel
theorem dX12_putBack_2 : decode cX12_putBack 2 = .ok (.getfield 111, 3) := by decide +kernel
theorem dX12_putBack_5 : decode cX12_putBack 5 = .ok (.putfield 13, 3) := by decide +kernel
theorem dX12_putBack_8 : decode cX12_putBack 8 = .ok (.iconst 0, 1) := by decide +kernel
theorem dX12_putBack_9 : decode cX12_putBack 9 = .ok (.istore_n 1, 1) := by decide +kernel
theorem dX12_putBack_10 : decode cX12_putBack 10 = .ok (.iload_n 1, 1) := by decide +kernel
theorem dX12_putBack_11 : decode cX12_putBack 11 = .ok (.bipush 6, 2) := by decide +kernel
theorem dX12_putBack_13 : decode cX12_putBack 13 = .ok (.if_icmp .ge 57, 3) := by decide +kernel
theorem dX12_putBack_16 : decode cX12_putBack 16 = .ok (.aload_n 0, 1) := by decide +kernel
theorem dX12_putBack_17 : decode cX12_putBack 17 = .ok (.getfield 26, 3) := by decide +kernel
theorem dX12_putBack_20 : decode cX12_putBack 20 = .ok (.iload_n 1, 1) := by decide +kernel
theorem dX12_putBack_21 : decode cX12_putBack 21 = .ok (.aload_n 0, 1) := by decide +kernel
theorem dX12_putBack_22 : decode cX12_putBack 22 = .ok (.getfield 114, 3) := by decide +kernel
theorem dX12_putBack_25 : decode cX12_putBack 25 = .ok (.iload_n 1, 1) := by decide +kernel
theorem dX12_putBack_26 : decode cX12_putBack 26 = .ok (.iaload, 1) := by decide +kernel
theorem dX12_putBack_27 : decode cX12_putBack 27 = .ok (.iastore, 1) := by decide +kernel
theorem dX12_putBack_28 : decode cX12_putBack 28 = .ok (.aload_n 0, 1) := by decide +kernel
theorem dX12_putBack_29 : decode cX12_putBack 29 = .ok (.getfield 29, 3) := by decide +kernel
theorem dX12_putBack_32 : decode cX12_putBack 32 = .ok (.iload_n 1, 1) := by decide +kernel
theorem dX12_putBack_33 : decode cX12_putBack 33 = .ok (.aload_n 0, 1) := by decide +kernel
theorem dX12_putBack_34 : decode cX12_putBack 34 = .ok (.getfield 117, 3) := by decide +kernel
theorem dX12_putBack_37 : decode cX12_putBack 37 = .ok (.iload_n 1, 1) := by decide +kernel
theorem dX12_putBack_38 : decode cX12_putBack 38 = .ok (.iaload, 1) := by decide +kernel
theorem dX12_putBack_39 : decode cX12_putBack 39 = .ok (.iastore, 1) := by decide +kernel
theorem dX12_putBack_40 : decode cX12_putBack 40 = .ok (.aload_n 0, 1) := by decide +kernel
theorem dX12_putBack_41 : decode cX12_putBack 41 = .ok (.getfield 32, 3) := by decide +kernel
theorem dX12_putBack_44 : decode cX12_putBack 44 = .ok (.iload_n 1, 1) := by decide +kernel
theorem dX12_putBack_45 : decode cX12_putBack 45 = .ok (.aload_n 0, 1) := by decide +kernel
theorem dX12_putBack_46 : decode cX12_putBack 46 = .ok (.getfield 120, 3) := by decide +kernel
theorem dX12_putBack_49 : decode cX12_putBack 49 = .ok (.iload_n 1, 1) := by decide +kernel
theorem dX12_putBack_50 : decode cX12_putBack 50 = .ok (.iaload, 1) := by decide +kernel
theorem dX12_putBack_51 : decode cX12_putBack 51 = .ok (.iastore, 1) := by decide +kernel
theorem dX12_putBack_52 : decode cX12_putBack 52 = .ok (.aload_n 0, 1) := by decide +kernel
theorem dX12_putBack_53 : decode cX12_putBack 53 = .ok (.getfield 35, 3) := by decide +kernel
theorem dX12_putBack_56 : decode cX12_putBack 56 = .ok (.iload_n 1, 1) := by decide +kernel
theorem dX12_putBack_57 : decode cX12_putBack 57 = .ok (.aload_n 0, 1) := by decide +kernel
theorem dX12_putBack_58 : decode cX12_putBack 58 = .ok (.getfield 123, 3) := by decide +kernel
theorem dX12_putBack_61 : decode cX12_putBack 61 = .ok (.iload_n 1, 1) := by decide +kernel
theorem dX12_putBack_62 : decode cX12_putBack 62 = .ok (.iaload, 1) := by decide +kernel
theorem dX12_putBack_63 : decode cX12_putBack 63 = .ok (.iastore, 1) := by decide +kernel
theorem dX12_putBack_64 : decode cX12_putBack 64 = .ok (.iinc 1 1, 3) := by decide +kernel
theorem dX12_putBack_67 : decode cX12_putBack 67 = .ok (.goto (-57), 3) := by decide +kernel
theorem dX12_putBack_70 : decode cX12_putBack 70 = .ok (.return_, 1) := by decide +kernel
theorem dX12_all_0 : decode cX12_all 0 = .ok (.iconst 0, 1) := by decide +kernel
theorem dX12_all_1 : decode cX12_all 1 = .ok (.istore_n 1, 1) := by decide +kernel
theorem dX12_all_2 : decode cX12_all 2 = .ok (.iconst 0, 1) := by decide +kernel
theorem dX12_all_3 : decode cX12_all 3 = .ok (.istore_n 2, 1) := by decide +kernel
theorem dX12_all_4 : decode cX12_all 4 = .ok (.iload_n 2, 1) := by decide +kernel
theorem dX12_all_5 : decode cX12_all 5 = .ok (.aload_n 0, 1) := by decide +kernel
theorem dX12_all_6 : decode cX12_all 6 = .ok (.getfield 7, 3) := by decide +kernel
theorem dX12_all_9 : decode cX12_all 9 = .ok (.if_icmp .ge 18, 3) := by decide +kernel
theorem dX12_all_12 : decode cX12_all 12 = .ok (.iload_n 1, 1) := by decide +kernel
theorem dX12_all_13 : decode cX12_all 13 = .ok (.aload_n 0, 1) := by decide +kernel
theorem dX12_all_14 : decode cX12_all 14 = .ok (.getfield 26, 3) := by decide +kernel
theorem dX12_all_17 : decode cX12_all 17 = .ok (.iload_n 2, 1) := by decide +kernel
theorem dX12_all_18 : decode cX12_all 18 = .ok (.iaload, 1) := by decide +kernel
theorem dX12_all_19 : decode cX12_all 19 = .ok (.iadd, 1) := by decide +kernel
theorem dX12_all_20 : decode cX12_all 20 = .ok (.istore_n 1, 1) := by decide +kernel
theorem dX12_all_21 : decode cX12_all 21 = .ok (.iinc 2 1, 3) := by decide +kernel
theorem dX12_all_24 : decode cX12_all 24 = .ok (.goto (-20), 3) := by decide +kernel
theorem dX12_all_27 : decode cX12_all 27 = .ok (.iload_n 1, 1) := by decide +kernel
theorem dX12_all_28 : decode cX12_all 28 = .ok (.ireturn, 1) := by decide +kernel
set_option maxRecDepth 20000 in
theorem ggX12_allBehind_X12_save : GoodIn wsX12_allBehind wsX12_save := goodIn_s _ [(5, 12), (106, 75)] rfl (by decide +kernel)
set_option maxRecDepth 20000 in
theorem gX12_allBehind_X12_save : GoodIn wsX12_allBehind (wsV RX12 353 RX12 yX12_save wsX12_save) := goodIn_app (goodIn_of _ (by decide +kernel)) ggX12_allBehind_X12_save
set_option maxRecDepth 20000 in
theorem ggX12_allBehind_X12_goMinutes : GoodIn wsX12_allBehind wsX12_goMinutes := goodIn_s _ [(20, 4), (4, 1), (24, 4), (16, 1), (6, 1), (28, 4), (11, 1), (32, 30), (13, 1), (62, 18), (9, 1), (80, 13), (15, 1), (93, 4), (106, 75)] rfl (by decide +kernel)
set_option maxRecDepth 20000 in
theorem gX12_allBehind_X12_goMinutes : GoodIn wsX12_allBehind (wsV RX12 356 RX12 yX12_goMinutes wsX12_goMinutes) := goodIn_app (goodIn_of _ (by decide +kernel)) ggX12_allBehind_X12_goMinutes
set_option maxRecDepth 20000 in
theorem ggX12_allBehind_X12_all : GoodIn wsX12_allBehind wsX12_all := goodIn_s _ [(100, 2), (9, 1), (106, 75)] rfl (by decide +kernel)
set_option maxRecDepth 20000 in
theorem gX12_allBehind_X12_all : GoodIn wsX12_allBehind (wsV RX12 359 RX12 yX12_all wsX12_all) := goodIn_app (goodIn_of _ (by decide +kernel)) ggX12_allBehind_X12_all
set_option maxRecDepth 20000 in
theorem ggX12_allBehind_X12_putBack : GoodIn wsX12_allBehind wsX12_putBack := goodIn_s _ [(105, 1), (7, 1), (6, 1), (9, 1), (8, 1), (11, 1), (10, 1), (13, 1), (12, 1), (15, 1), (14, 1), (106, 75)] rfl (by decide +kernel)
set_option maxRecDepth 20000 in
theorem gX12_allBehind_X12_putBack : GoodIn wsX12_allBehind (wsV RX12 362 RX12 yX12_putBack wsX12_putBack) := goodIn_app (goodIn_of _ (by decide +kernel)) ggX12_allBehind_X12_putBack
theorem dX12_allBehind_0 : decode cX12_allBehind 0 = .ok (.aload_n 0, 1) := by decide +kernel
theorem dX12_allBehind_1 : decode cX12_allBehind 1 = .ok (.invokevirtual 353, 3) := by decide +kernel
theorem dX12_allBehind_4 : decode cX12_allBehind 4 = .ok (.aload_n 0, 1) := by decide +kernel
theorem dX12_allBehind_5 : decode cX12_allBehind 5 = .ok (.iload_n 1, 1) := by decide +kernel
theorem dX12_allBehind_6 : decode cX12_allBehind 6 = .ok (.invokevirtual 356, 3) := by decide +kernel
theorem dX12_allBehind_9 : decode cX12_allBehind 9 = .ok (.aload_n 0, 1) := by decide +kernel
theorem dX12_allBehind_10 : decode cX12_allBehind 10 = .ok (.invokevirtual 359, 3) := by decide +kernel
theorem dX12_allBehind_13 : decode cX12_allBehind 13 = .ok (.istore_n 2, 1) := by decide +kernel
theorem dX12_allBehind_14 : decode cX12_allBehind 14 = .ok (.aload_n 0, 1) := by decide +kernel
theorem dX12_allBehind_15 : decode cX12_allBehind 15 = .ok (.invokevirtual 362, 3) := by decide +kernel
theorem dX12_allBehind_18 : decode cX12_allBehind 18 = .ok (.iload_n 2, 1) := by decide +kernel
theorem dX12_allBehind_19 : decode cX12_allBehind 19 = .ok (.ireturn, 1) := by decide +kernel
set_option maxRecDepth 20000 in
theorem ggX12_on_X12_in : GoodIn wsX12_on wsX12_in := goodIn_s _ [(8, 1)] rfl (by decide +kernel)
set_option maxRecDepth 20000 in
theorem gX12_on_X12_in : GoodIn wsX12_on (wsV RX12 239 RX12 yX12_in wsX12_in) := goodIn_app (goodIn_of _ (by decide +kernel)) ggX12_on_X12_in
set_option maxRecDepth 20000 in
theorem ggX12_on_X12_save : GoodIn wsX12_on wsX12_save := goodIn_s _ [(12, 4), (2, 1), (16, 6), (3, 1), (110, 75)] rfl (by decide +kernel)
set_option maxRecDepth 20000 in
theorem gX12_on_X12_save : GoodIn wsX12_on (wsV RX12 353 RX12 yX12_save wsX12_save) := goodIn_app (goodIn_of _ (by decide +kernel)) ggX12_on_X12_save
set_option maxRecDepth 20000 in
theorem ggX12_on_X12_goMinutes : GoodIn wsX12_on wsX12_goMinutes := goodIn_s _ [(25, 4), (7, 1), (29, 4), (3, 1), (13, 1), (33, 4), (17, 1), (37, 30), (19, 1), (67, 18), (2, 1), (85, 13), (21, 1), (98, 4), (110, 75)] rfl (by decide +kernel)
set_option maxRecDepth 20000 in
theorem gX12_on_X12_goMinutes : GoodIn wsX12_on (wsV RX12 356 RX12 yX12_goMinutes wsX12_goMinutes) := goodIn_app (goodIn_of _ (by decide +kernel)) ggX12_on_X12_goMinutes
set_option maxRecDepth 20000 in
theorem ggX12_on_X12_all : GoodIn wsX12_on wsX12_all := goodIn_s _ [(105, 1), (1, 2), (110, 75)] rfl (by decide +kernel)
set_option maxRecDepth 20000 in
theorem gX12_on_X12_all : GoodIn wsX12_on (wsV RX12 359 RX12 yX12_all wsX12_all) := goodIn_app (goodIn_of _ (by decide +kernel)) ggX12_on_X12_all
set_option maxRecDepth 20000 in
theorem ggX12_on_X12_putBack : GoodIn wsX12_on wsX12_putBack := goodIn_s _ [(109, 1), (14, 1), (13, 1), (2, 1), (15, 1), (17, 1), (16, 1), (19, 1), (18, 1), (21, 1), (20, 1), (110, 75)] rfl (by decide +kernel)
set_option maxRecDepth 20000 in
theorem gX12_on_X12_putBack : GoodIn wsX12_on (wsV RX12 362 RX12 yX12_putBack wsX12_putBack) := goodIn_app (goodIn_of _ (by decide +kernel)) ggX12_on_X12_putBack
theorem dX12_on_0 : decode cX12_on 0 = .ok (.iload_n 2, 1) := by decide +kernel
theorem dX12_on_1 : decode cX12_on 1 = .ok (.ifCond .eq 39, 3) := by decide +kernel
theorem dX12_on_4 : decode cX12_on 4 = .ok (.aload_n 0, 1) := by decide +kernel
theorem dX12_on_5 : decode cX12_on 5 = .ok (.iload_n 2, 1) := by decide +kernel
theorem dX12_on_6 : decode cX12_on 6 = .ok (.bipush 10, 2) := by decide +kernel
theorem dX12_on_8 : decode cX12_on 8 = .ok (.bipush 9, 2) := by decide +kernel
theorem dX12_on_10 : decode cX12_on 10 = .ok (.aload_n 0, 1) := by decide +kernel
theorem dX12_on_11 : decode cX12_on 11 = .ok (.getfield 7, 3) := by decide +kernel
theorem dX12_on_14 : decode cX12_on 14 = .ok (.iadd, 1) := by decide +kernel
theorem dX12_on_15 : decode cX12_on 15 = .ok (.invokevirtual 239, 3) := by decide +kernel
theorem dX12_on_18 : decode cX12_on 18 = .ok (.ifCond .ne 22, 3) := by decide +kernel
theorem dX12_on_21 : decode cX12_on 21 = .ok (.aload_n 0, 1) := by decide +kernel
theorem dX12_on_22 : decode cX12_on 22 = .ok (.iload_n 2, 1) := by decide +kernel
theorem dX12_on_23 : decode cX12_on 23 = .ok (.bipush 20, 2) := by decide +kernel
theorem dX12_on_25 : decode cX12_on 25 = .ok (.bipush 19, 2) := by decide +kernel
theorem dX12_on_27 : decode cX12_on 27 = .ok (.aload_n 0, 1) := by decide +kernel
theorem dX12_on_28 : decode cX12_on 28 = .ok (.getfield 7, 3) := by decide +kernel
theorem dX12_on_31 : decode cX12_on 31 = .ok (.iadd, 1) := by decide +kernel
theorem dX12_on_32 : decode cX12_on 32 = .ok (.invokevirtual 239, 3) := by decide +kernel
theorem dX12_on_35 : decode cX12_on 35 = .ok (.ifCond .ne 5, 3) := by decide +kernel
theorem dX12_on_38 : decode cX12_on 38 = .ok (.iconst (-1), 1) := by decide +kernel
theorem dX12_on_39 : decode cX12_on 39 = .ok (.ireturn, 1) := by decide +kernel
theorem dX12_on_40 : decode cX12_on 40 = .ok (.aload_n 0, 1) := by decide +kernel
theorem dX12_on_41 : decode cX12_on 41 = .ok (.iload_n 1, 1) := by decide +kernel
theorem dX12_on_42 : decode cX12_on 42 = .ok (.iconst 0, 1) := by decide +kernel
theorem dX12_on_43 : decode cX12_on 43 = .ok (.bipush 60, 2) := by decide +kernel
theorem dX12_on_45 : decode cX12_on 45 = .ok (.invokevirtual 239, 3) := by decide +kernel
theorem dX12_on_48 : decode cX12_on 48 = .ok (.ifCond .ne 6, 3) := by decide +kernel
theorem dX12_on_51 : decode cX12_on 51 = .ok (.bipush (-2), 2) := by decide +kernel
theorem dX12_on_53 : decode cX12_on 53 = .ok (.ireturn, 1) := by decide +kernel
theorem dX12_on_54 : decode cX12_on 54 = .ok (.aload_n 0, 1) := by decide +kernel
theorem dX12_on_55 : decode cX12_on 55 = .ok (.invokevirtual 353, 3) := by decide +kernel
theorem dX12_on_58 : decode cX12_on 58 = .ok (.aload_n 0, 1) := by decide +kernel
theorem dX12_on_59 : decode cX12_on 59 = .ok (.iload_n 1, 1) := by decide +kernel
theorem dX12_on_60 : decode cX12_on 60 = .ok (.invokevirtual 356, 3) := by decide +kernel
theorem dX12_on_63 : decode cX12_on 63 = .ok (.iload_n 2, 1) := by decide +kernel
theorem dX12_on_64 : decode cX12_on 64 = .ok (.ifCond .ne 10, 3) := by decide +kernel
theorem dX12_on_67 : decode cX12_on 67 = .ok (.aload_n 0, 1) := by decide +kernel
theorem dX12_on_68 : decode cX12_on 68 = .ok (.invokevirtual 359, 3) := by decide +kernel
theorem dX12_on_71 : decode cX12_on 71 = .ok (.goto 30, 3) := by decide +kernel
theorem dX12_on_74 : decode cX12_on 74 = .ok (.iload_n 2, 1) := by decide +kernel
theorem dX12_on_75 : decode cX12_on 75 = .ok (.bipush 20, 2) := by decide +kernel
theorem dX12_on_77 : decode cX12_on 77 = .ok (.if_icmp .ge 15, 3) := by decide +kernel
theorem dX12_on_80 : decode cX12_on 80 = .ok (.aload_n 0, 1) := by decide +kernel
theorem dX12_on_81 : decode cX12_on 81 = .ok (.getfield 26, 3) := by decide +kernel
theorem dX12_on_84 : decode cX12_on 84 = .ok (.iload_n 2, 1) := by decide +kernel
theorem dX12_on_85 : decode cX12_on 85 = .ok (.bipush 10, 2) := by decide +kernel
theorem dX12_on_87 : decode cX12_on 87 = .ok (.isub, 1) := by decide +kernel
theorem dX12_on_88 : decode cX12_on 88 = .ok (.iaload, 1) := by decide +kernel
theorem dX12_on_89 : decode cX12_on 89 = .ok (.goto 12, 3) := by decide +kernel
theorem dX12_on_92 : decode cX12_on 92 = .ok (.aload_n 0, 1) := by decide +kernel
theorem dX12_on_93 : decode cX12_on 93 = .ok (.getfield 108, 3) := by decide +kernel
theorem dX12_on_96 : decode cX12_on 96 = .ok (.iload_n 2, 1) := by decide +kernel
theorem dX12_on_97 : decode cX12_on 97 = .ok (.bipush 20, 2) := by decide +kernel
theorem dX12_on_99 : decode cX12_on 99 = .ok (.isub, 1) := by decide +kernel
theorem dX12_on_100 : decode cX12_on 100 = .ok (.iaload, 1) := by decide +kernel
theorem dX12_on_101 : decode cX12_on 101 = .ok (.istore_n 3, 1) := by decide +kernel
theorem dX12_on_102 : decode cX12_on 102 = .ok (.aload_n 0, 1) := by decide +kernel
theorem dX12_on_103 : decode cX12_on 103 = .ok (.invokevirtual 362, 3) := by decide +kernel
theorem dX12_on_106 : decode cX12_on 106 = .ok (.iload_n 3, 1) := by decide +kernel
theorem dX12_on_107 : decode cX12_on 107 = .ok (.ireturn, 1) := by decide +kernel
set_option maxRecDepth 20000 in
theorem ggX12_isDone_X12_fieldLong : GoodIn wsX12_isDone wsX12_fieldLong := goodIn_s _ [(7, 4), (6, 1), (11, 92)] rfl (by decide +kernel)
set_option maxRecDepth 20000 in
theorem gX12_isDone_X12_fieldLong : GoodIn wsX12_isDone (wsV RX12 335 RX12 yX12_fieldLong wsX12_fieldLong) := goodIn_app (goodIn_of _ (by decide +kernel)) ggX12_isDone_X12_fieldLong
theorem dX12_isDone_0 : decode cX12_isDone 0 = .ok (.iconst 0, 1) := by decide +kernel
theorem dX12_isDone_1 : decode cX12_isDone 1 = .ok (.istore_n 1, 1) := by decide +kernel
theorem dX12_isDone_2 : decode cX12_isDone 2 = .ok (.iload_n 1, 1) := by decide +kernel
theorem dX12_isDone_3 : decode cX12_isDone 3 = .ok (.aload_n 0, 1) := by decide +kernel
theorem dX12_isDone_4 : decode cX12_isDone 4 = .ok (.getfield 7, 3) := by decide +kernel
theorem dX12_isDone_7 : decode cX12_isDone 7 = .ok (.if_icmp .ge 24, 3) := by decide +kernel
theorem dX12_isDone_10 : decode cX12_isDone 10 = .ok (.aload_n 0, 1) := by decide +kernel
theorem dX12_isDone_11 : decode cX12_isDone 11 = .ok (.getfield 26, 3) := by decide +kernel
theorem dX12_isDone_14 : decode cX12_isDone 14 = .ok (.iload_n 1, 1) := by decide +kernel
theorem dX12_isDone_15 : decode cX12_isDone 15 = .ok (.iaload, 1) := by decide +kernel
theorem dX12_isDone_16 : decode cX12_isDone 16 = .ok (.aload_n 0, 1) := by decide +kernel
theorem dX12_isDone_17 : decode cX12_isDone 17 = .ok (.invokevirtual 335, 3) := by decide +kernel
theorem dX12_isDone_20 : decode cX12_isDone 20 = .ok (.if_icmp .ge 5, 3) := by decide +kernel
theorem dX12_isDone_23 : decode cX12_isDone 23 = .ok (.iconst 0, 1) := by decide +kernel
theorem dX12_isDone_24 : decode cX12_isDone 24 = .ok (.ireturn, 1) := by decide +kernel
theorem dX12_isDone_25 : decode cX12_isDone 25 = .ok (.iinc 1 1, 3) := by decide +kernel
theorem dX12_isDone_28 : decode cX12_isDone 28 = .ok (.goto (-26), 3) := by decide +kernel
theorem dX12_isDone_31 : decode cX12_isDone 31 = .ok (.iconst 1, 1) := by decide +kernel
theorem dX12_isDone_32 : decode cX12_isDone 32 = .ok (.ireturn, 1) := by decide +kernel
set_option maxRecDepth 20000 in
theorem ggX12_done_X12_save : GoodIn wsX12_done wsX12_save := goodIn_s _ [(5, 12), (110, 75)] rfl (by decide +kernel)
set_option maxRecDepth 20000 in
theorem gX12_done_X12_save : GoodIn wsX12_done (wsV RX12 353 RX12 yX12_save wsX12_save) := goodIn_app (goodIn_of _ (by decide +kernel)) ggX12_done_X12_save
set_option maxRecDepth 20000 in
theorem ggX12_done_X12_isDone : GoodIn wsX12_done wsX12_isDone := goodIn_s _ [(20, 2), (9, 1), (22, 3), (4, 1), (25, 21), (110, 75)] rfl (by decide +kernel)
set_option maxRecDepth 20000 in
theorem gX12_done_X12_isDone : GoodIn wsX12_done (wsV RX12 365 RX12 yX12_isDone wsX12_isDone) := goodIn_app (goodIn_of _ (by decide +kernel)) ggX12_done_X12_isDone
set_option maxRecDepth 20000 in
theorem ggX12_done_X12_goMinutes : GoodIn wsX12_done wsX12_goMinutes := goodIn_s _ [(49, 4), (4, 1), (53, 4), (16, 1), (6, 1), (57, 4), (11, 1), (61, 5), (30, 12), (66, 13), (13, 1), (42, 4), (79, 14), (9, 1), (93, 5), (26, 4), (98, 4), (15, 1), (102, 4), (110, 75)] rfl (by decide +kernel)
set_option maxRecDepth 20000 in
theorem gX12_done_X12_goMinutes : GoodIn wsX12_done (wsV RX12 356 RX12 yX12_goMinutes wsX12_goMinutes) := goodIn_app (goodIn_of _ (by decide +kernel)) ggX12_done_X12_goMinutes
set_option maxRecDepth 20000 in
theorem ggX12_done_X12_putBack : GoodIn wsX12_done wsX12_putBack := goodIn_s _ [(109, 1), (7, 1), (6, 1), (9, 1), (8, 1), (11, 1), (10, 1), (13, 1), (12, 1), (15, 1), (14, 1), (110, 75)] rfl (by decide +kernel)
set_option maxRecDepth 20000 in
theorem gX12_done_X12_putBack : GoodIn wsX12_done (wsV RX12 362 RX12 yX12_putBack wsX12_putBack) := goodIn_app (goodIn_of _ (by decide +kernel)) ggX12_done_X12_putBack
theorem dX12_done_0 : decode cX12_done 0 = .ok (.aload_n 0, 1) := by decide +kernel
theorem dX12_done_1 : decode cX12_done 1 = .ok (.invokevirtual 353, 3) := by decide +kernel
theorem dX12_done_4 : decode cX12_done 4 = .ok (.iconst 0, 1) := by decide +kernel
theorem dX12_done_5 : decode cX12_done 5 = .ok (.istore_n 1, 1) := by decide +kernel
theorem dX12_done_6 : decode cX12_done 6 = .ok (.iload_n 1, 1) := by decide +kernel
theorem dX12_done_7 : decode cX12_done 7 = .ok (.bipush 120, 2) := by decide +kernel
theorem dX12_done_9 : decode cX12_done 9 = .ok (.if_icmp .gt 21, 3) := by decide +kernel
theorem dX12_done_12 : decode cX12_done 12 = .ok (.aload_n 0, 1) := by decide +kernel
theorem dX12_done_13 : decode cX12_done 13 = .ok (.invokevirtual 365, 3) := by decide +kernel
theorem dX12_done_16 : decode cX12_done 16 = .ok (.ifCond .ne 14, 3) := by decide +kernel
theorem dX12_done_19 : decode cX12_done 19 = .ok (.aload_n 0, 1) := by decide +kernel
theorem dX12_done_20 : decode cX12_done 20 = .ok (.iconst 1, 1) := by decide +kernel
theorem dX12_done_21 : decode cX12_done 21 = .ok (.invokevirtual 356, 3) := by decide +kernel
theorem dX12_done_24 : decode cX12_done 24 = .ok (.iinc 1 1, 3) := by decide +kernel
theorem dX12_done_27 : decode cX12_done 27 = .ok (.goto (-21), 3) := by decide +kernel
theorem dX12_done_30 : decode cX12_done 30 = .ok (.aload_n 0, 1) := by decide +kernel
theorem dX12_done_31 : decode cX12_done 31 = .ok (.invokevirtual 362, 3) := by decide +kernel
theorem dX12_done_34 : decode cX12_done 34 = .ok (.iload_n 1, 1) := by decide +kernel
theorem dX12_done_35 : decode cX12_done 35 = .ok (.bipush 120, 2) := by decide +kernel
theorem dX12_done_37 : decode cX12_done 37 = .ok (.if_icmp .gt 7, 3) := by decide +kernel
theorem dX12_done_40 : decode cX12_done 40 = .ok (.iload_n 1, 1) := by decide +kernel
theorem dX12_done_41 : decode cX12_done 41 = .ok (.goto 5, 3) := by decide +kernel
theorem dX12_done_44 : decode cX12_done 44 = .ok (.bipush (-5), 2) := by decide +kernel
theorem dX12_done_46 : decode cX12_done 46 = .ok (.ireturn, 1) := by decide +kernel
set_option maxRecDepth 20000 in
theorem ggX12_layOrder_X12_has : GoodIn wsX12_layOrder wsX12_has := goodIn_s _ [(7, 1)] rfl (by decide +kernel)
set_option maxRecDepth 20000 in
theorem gX12_layOrder_X12_has : GoodIn wsX12_layOrder (wsV RX12 368 RX12 yX12_has wsX12_has) := goodIn_app (goodIn_of _ (by decide +kernel)) ggX12_layOrder_X12_has
theorem dX12_layOrder_0 : decode cX12_layOrder 0 = .ok (.iconst 1, 1) := by decide +kernel
