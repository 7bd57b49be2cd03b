theorem dX11_findsBestOrder_8 : decode cX11_findsBestOrder 8 = .ok (.invokestatic 209, 3) := o_184 (by decide +kernel)
theorem dX11_findsBestOrder_11 : decode cX11_findsBestOrder 11 = .ok (.istore_n 2, 1) := o_61 (by decide +kernel)
theorem dX11_findsBestOrder_12 : decode cX11_findsBestOrder 12 = .ok (.iconst 0, 1) := o_3 (by decide +kernel)
theorem dX11_findsBestOrder_13 : decode cX11_findsBestOrder 13 = .ok (.istore_n 3, 1) := o_62 (by decide +kernel)
theorem dX11_findsBestOrder_14 : decode cX11_findsBestOrder 14 = .ok (.iload_n 3, 1) := o_29 (by decide +kernel)
theorem dX11_findsBestOrder_15 : decode cX11_findsBestOrder 15 = .ok (.iload_n 2, 1) := o_28 (by decide +kernel)
theorem dX11_findsBestOrder_16 : decode cX11_findsBestOrder 16 = .ok (.if_icmp .ge 16, 3) := o_162 (by decide +kernel)
theorem dX11_findsBestOrder_19 : decode cX11_findsBestOrder 19 = .ok (.aload_n 0, 1) := o_42 (by decide +kernel)
theorem dX11_findsBestOrder_20 : decode cX11_findsBestOrder 20 = .ok (.getfield 60, 3) := o_180 (by decide +kernel)
theorem dX11_findsBestOrder_23 : decode cX11_findsBestOrder 23 = .ok (.iload_n 3, 1) := o_29 (by decide +kernel)
theorem dX11_findsBestOrder_24 : decode cX11_findsBestOrder 24 = .ok (.iload_n 3, 1) := o_29 (by decide +kernel)
theorem dX11_findsBestOrder_25 : decode cX11_findsBestOrder 25 = .ok (.iastore, 1) := o_79 (by decide +kernel)
theorem dX11_findsBestOrder_26 : decode cX11_findsBestOrder 26 = .ok (.iinc 3 1, 3) := o_132 (by decide +kernel)
theorem dX11_findsBestOrder_29 : decode cX11_findsBestOrder 29 = .ok (.goto (-15), 3) := o_167 (by decide +kernel)
theorem dX11_findsBestOrder_32 : decode cX11_findsBestOrder 32 = .ok (.iconst (-1), 1) := o_2 (by decide +kernel)
theorem dX11_findsBestOrder_33 : decode cX11_findsBestOrder 33 = .ok (.istore_n 3, 1) := o_62 (by decide +kernel)
theorem dX11_findsBestOrder_34 : decode cX11_findsBestOrder 34 = .ok (.iconst 1, 1) := o_4 (by decide +kernel)
theorem dX11_findsBestOrder_35 : decode cX11_findsBestOrder 35 = .ok (.istore 4, 2) := o_54 (by decide +kernel)
theorem dX11_findsBestOrder_37 : decode cX11_findsBestOrder 37 = .ok (.iconst 0, 1) := o_3 (by decide +kernel)
theorem dX11_findsBestOrder_38 : decode cX11_findsBestOrder 38 = .ok (.istore 5, 2) := o_54 (by decide +kernel)
theorem dX11_findsBestOrder_40 : decode cX11_findsBestOrder 40 = .ok (.iload 5, 2) := o_21 (by decide +kernel)
theorem dX11_findsBestOrder_42 : decode cX11_findsBestOrder 42 = .ok (.bipush 120, 2) := o_16 (by decide +kernel)
theorem dX11_findsBestOrder_44 : decode cX11_findsBestOrder 44 = .ok (.if_icmp .ge 51, 3) := o_162 (by decide +kernel)
theorem dX11_findsBestOrder_47 : decode cX11_findsBestOrder 47 = .ok (.iload 4, 2) := o_21 (by decide +kernel)
theorem dX11_findsBestOrder_49 : decode cX11_findsBestOrder 49 = .ok (.ifCond .eq 46, 3) := o_153 (by decide +kernel)
theorem dX11_findsBestOrder_52 : decode cX11_findsBestOrder 52 = .ok (.aload_n 0, 1) := o_42 (by decide +kernel)
theorem dX11_findsBestOrder_53 : decode cX11_findsBestOrder 53 = .ok (.iload_n 1, 1) := o_27 (by decide +kernel)
theorem dX11_findsBestOrder_54 : decode cX11_findsBestOrder 54 = .ok (.invokevirtual 214, 3) := o_182 (by decide +kernel)
theorem dX11_findsBestOrder_57 : decode cX11_findsBestOrder 57 = .ok (.istore 6, 2) := o_54 (by decide +kernel)
theorem dX11_findsBestOrder_59 : decode cX11_findsBestOrder 59 = .ok (.iload 6, 2) := o_21 (by decide +kernel)
theorem dX11_findsBestOrder_61 : decode cX11_findsBestOrder 61 = .ok (.iload_n 3, 1) := o_29 (by decide +kernel)
theorem dX11_findsBestOrder_62 : decode cX11_findsBestOrder 62 = .ok (.if_icmp .le 20, 3) := o_164 (by decide +kernel)
theorem dX11_findsBestOrder_65 : decode cX11_findsBestOrder 65 = .ok (.iload 6, 2) := o_21 (by decide +kernel)
theorem dX11_findsBestOrder_67 : decode cX11_findsBestOrder 67 = .ok (.istore_n 3, 1) := o_62 (by decide +kernel)
theorem dX11_findsBestOrder_68 : decode cX11_findsBestOrder 68 = .ok (.aload_n 0, 1) := o_42 (by decide +kernel)
theorem dX11_findsBestOrder_69 : decode cX11_findsBestOrder 69 = .ok (.getfield 60, 3) := o_180 (by decide +kernel)
theorem dX11_findsBestOrder_72 : decode cX11_findsBestOrder 72 = .ok (.iconst 0, 1) := o_3 (by decide +kernel)
theorem dX11_findsBestOrder_73 : decode cX11_findsBestOrder 73 = .ok (.aload_n 0, 1) := o_42 (by decide +kernel)
theorem dX11_findsBestOrder_74 : decode cX11_findsBestOrder 74 = .ok (.getfield 64, 3) := o_180 (by decide +kernel)
theorem dX11_findsBestOrder_77 : decode cX11_findsBestOrder 77 = .ok (.iconst 0, 1) := o_3 (by decide +kernel)
theorem dX11_findsBestOrder_78 : decode cX11_findsBestOrder 78 = .ok (.iload_n 2, 1) := o_28 (by decide +kernel)
theorem dX11_findsBestOrder_79 : decode cX11_findsBestOrder 79 = .ok (.invokestatic 217, 3) := o_184 (by decide +kernel)
theorem dX11_findsBestOrder_82 : decode cX11_findsBestOrder 82 = .ok (.aload_n 0, 1) := o_42 (by decide +kernel)
theorem dX11_findsBestOrder_83 : decode cX11_findsBestOrder 83 = .ok (.iload_n 2, 1) := o_28 (by decide +kernel)
theorem dX11_findsBestOrder_84 : decode cX11_findsBestOrder 84 = .ok (.invokevirtual 223, 3) := o_182 (by decide +kernel)
theorem dX11_findsBestOrder_87 : decode cX11_findsBestOrder 87 = .ok (.istore 4, 2) := o_54 (by decide +kernel)
theorem dX11_findsBestOrder_89 : decode cX11_findsBestOrder 89 = .ok (.iinc 5 1, 3) := o_132 (by decide +kernel)
theorem dX11_findsBestOrder_92 : decode cX11_findsBestOrder 92 = .ok (.goto (-52), 3) := o_167 (by decide +kernel)
theorem dX11_findsBestOrder_95 : decode cX11_findsBestOrder 95 = .ok (.iload_n 3, 1) := o_29 (by decide +kernel)
theorem dX11_findsBestOrder_96 : decode cX11_findsBestOrder 96 = .ok (.ireturn, 1) := o_172 (by decide +kernel)
theorem gt_wsX11_totalInOrder_wsX10 : GoodIn wsX11_totalInOrder wsX10 := fun w h => ⟨List.mem_cons_of_mem _ (List.mem_append_left _ (List.mem_append_left _ (List.mem_append_left _ (List.mem_append_left _ (List.mem_append_left _ (List.mem_append_left _ (List.mem_append_left _ (List.mem_append_left _ (List.mem_append_right _ h))))))))), good_of_word (gq_wsX10 w h)⟩
set_option maxRecDepth 20000 in
theorem ggX11_totalInOrder_X1_becomes : GoodIn wsX11_totalInOrder wsX1_becomes := goodIn_ca (goodIn_s _ [(11, 17)] rfl (by decide +kernel)) gt_wsX11_totalInOrder_wsX10
set_option maxRecDepth 20000 in
theorem gX11_totalInOrder_X1_becomes : GoodIn wsX11_totalInOrder (wsV RX11 189 RX1 yX1_becomes wsX1_becomes) := goodIn_app (goodIn_of _ (by decide +kernel)) ggX11_totalInOrder_X1_becomes
theorem gt_wsX11_totalInOrder_wsX00 : GoodIn wsX11_totalInOrder wsX00 := fun w h => ⟨List.mem_cons_of_mem _ (List.mem_append_left _ (List.mem_append_left _ (List.mem_append_left _ (List.mem_append_left _ (List.mem_append_left _ (List.mem_append_left _ (List.mem_append_left _ (List.mem_append_right _ h)))))))), good_of_word (gq_wsX00 w h)⟩
theorem gt_wsX11_totalInOrder_wsX30 : GoodIn wsX11_totalInOrder wsX30 := fun w h => ⟨List.mem_cons_of_mem _ (List.mem_append_left _ (List.mem_append_left _ (List.mem_append_left _ (List.mem_append_left _ (List.mem_append_left _ (List.mem_append_left _ (List.mem_append_right _ h))))))), good_of_word (gq_wsX30 w h)⟩
theorem gt_wsX11_totalInOrder_wsX40 : GoodIn wsX11_totalInOrder wsX40 := fun w h => ⟨List.mem_cons_of_mem _ (List.mem_append_left _ (List.mem_append_left _ (List.mem_append_left _ (List.mem_append_left _ (List.mem_append_left _ (List.mem_append_right _ h)))))), good_of_word (gq_wsX40 w h)⟩
theorem gt_wsX11_totalInOrder_wsX60 : GoodIn wsX11_totalInOrder wsX60 := fun w h => ⟨List.mem_cons_of_mem _ (List.mem_append_left _ (List.mem_append_left _ (List.mem_append_left _ (List.mem_append_left _ (List.mem_append_right _ h))))), good_of_word (gq_wsX60 w h)⟩
theorem gt_wsX11_totalInOrder_wsX70 : GoodIn wsX11_totalInOrder wsX70 := fun w h => ⟨List.mem_cons_of_mem _ (List.mem_append_left _ (List.mem_append_left _ (List.mem_append_left _ (List.mem_append_right _ h)))), good_of_word (gq_wsX70 w h)⟩
theorem gt_wsX11_totalInOrder_wsX80 : GoodIn wsX11_totalInOrder wsX80 := fun w h => ⟨List.mem_cons_of_mem _ (List.mem_append_left _ (List.mem_append_left _ (List.mem_append_right _ h))), good_of_word (gq_wsX80 w h)⟩
theorem gt_wsX11_totalInOrder_wsX100 : GoodIn wsX11_totalInOrder wsX100 := fun w h => ⟨List.mem_cons_of_mem _ (List.mem_append_left _ (List.mem_append_right _ h)), good_of_word (gq_wsX100 w h)⟩
theorem gt_wsX11_totalInOrder_wsX20 : GoodIn wsX11_totalInOrder wsX20 := fun w h => ⟨List.mem_cons_of_mem _ (List.mem_append_right _ h), good_of_word (gq_wsX20 w h)⟩
set_option maxRecDepth 20000 in
theorem ggX11_totalInOrder_X1_goesMinute : GoodIn wsX11_totalInOrder wsX1_goesMinute := goodIn_ca (goodIn_ca (goodIn_ca (goodIn_ca (goodIn_ca (goodIn_ca (goodIn_ca (goodIn_ca (goodIn_ca (goodIn_s _ [(31, 1), (13, 1), (32, 1), (18, 1), (22, 1), (19, 1), (14, 1), (33, 3), (10, 1), (36, 1), (17, 1), (20, 1), (37, 6), (21, 1), (15, 1), (43, 69), (16, 1), (112, 29)] rfl (by decide +kernel)) gt_wsX11_totalInOrder_wsX10) gt_wsX11_totalInOrder_wsX00) gt_wsX11_totalInOrder_wsX30) gt_wsX11_totalInOrder_wsX40) gt_wsX11_totalInOrder_wsX60) gt_wsX11_totalInOrder_wsX70) gt_wsX11_totalInOrder_wsX80) gt_wsX11_totalInOrder_wsX100) gt_wsX11_totalInOrder_wsX20
set_option maxRecDepth 20000 in
theorem gX11_totalInOrder_X1_goesMinute : GoodIn wsX11_totalInOrder (wsV RX11 180 RX1 yX1_goesMinute wsX1_goesMinute) := goodIn_app (goodIn_of _ (by decide +kernel)) ggX11_totalInOrder_X1_goesMinute
set_option maxRecDepth 20000 in
theorem ggX11_totalInOrder_X1_allAt : GoodIn wsX11_totalInOrder wsX1_allAt := goodIn_ca (goodIn_s _ [(144, 1), (12, 1), (19, 1)] rfl (by decide +kernel)) gt_wsX11_totalInOrder_wsX10
set_option maxRecDepth 20000 in
theorem gX11_totalInOrder_X1_allAt : GoodIn wsX11_totalInOrder (wsV RX11 199 RX1 yX1_allAt wsX1_allAt) := goodIn_app (goodIn_of _ (by decide +kernel)) ggX11_totalInOrder_X1_allAt
theorem dX11_totalInOrder_0 : decode cX11_totalInOrder 0 = .ok (.aload_n 0, 1) := o_42 (by decide +kernel)
theorem dX11_totalInOrder_1 : decode cX11_totalInOrder 1 = .ok (.getfield 21, 3) := o_180 (by decide +kernel)
theorem dX11_totalInOrder_4 : decode cX11_totalInOrder 4 = .ok (.aload_n 0, 1) := o_42 (by decide +kernel)
theorem dX11_totalInOrder_5 : decode cX11_totalInOrder 5 = .ok (.getfield 12, 3) := o_180 (by decide +kernel)
theorem dX11_totalInOrder_8 : decode cX11_totalInOrder 8 = .ok (.invokevirtual 189, 3) := o_182 (by decide +kernel)
theorem dX11_totalInOrder_11 : decode cX11_totalInOrder 11 = .ok (.iconst 0, 1) := o_3 (by decide +kernel)
theorem dX11_totalInOrder_12 : decode cX11_totalInOrder 12 = .ok (.istore_n 2, 1) := o_61 (by decide +kernel)
theorem dX11_totalInOrder_13 : decode cX11_totalInOrder 13 = .ok (.iload_n 2, 1) := o_28 (by decide +kernel)
theorem dX11_totalInOrder_14 : decode cX11_totalInOrder 14 = .ok (.aload_n 0, 1) := o_42 (by decide +kernel)
theorem dX11_totalInOrder_15 : decode cX11_totalInOrder 15 = .ok (.getfield 21, 3) := o_180 (by decide +kernel)
theorem dX11_totalInOrder_18 : decode cX11_totalInOrder 18 = .ok (.getfield 76, 3) := o_180 (by decide +kernel)
theorem dX11_totalInOrder_21 : decode cX11_totalInOrder 21 = .ok (.if_icmp .ge 39, 3) := o_162 (by decide +kernel)
theorem dX11_totalInOrder_24 : decode cX11_totalInOrder 24 = .ok (.iload_n 2, 1) := o_28 (by decide +kernel)
theorem dX11_totalInOrder_25 : decode cX11_totalInOrder 25 = .ok (.iconst 5, 1) := o_8 (by decide +kernel)
theorem dX11_totalInOrder_26 : decode cX11_totalInOrder 26 = .ok (.if_icmp .ge 34, 3) := o_162 (by decide +kernel)
theorem dX11_totalInOrder_29 : decode cX11_totalInOrder 29 = .ok (.aload_n 0, 1) := o_42 (by decide +kernel)
theorem dX11_totalInOrder_30 : decode cX11_totalInOrder 30 = .ok (.getfield 21, 3) := o_180 (by decide +kernel)
theorem dX11_totalInOrder_33 : decode cX11_totalInOrder 33 = .ok (.getfield 177, 3) := o_180 (by decide +kernel)
theorem dX11_totalInOrder_36 : decode cX11_totalInOrder 36 = .ok (.iload_n 2, 1) := o_28 (by decide +kernel)
theorem dX11_totalInOrder_37 : decode cX11_totalInOrder 37 = .ok (.aload_n 0, 1) := o_42 (by decide +kernel)
theorem dX11_totalInOrder_38 : decode cX11_totalInOrder 38 = .ok (.getfield 60, 3) := o_180 (by decide +kernel)
theorem dX11_totalInOrder_41 : decode cX11_totalInOrder 41 = .ok (.iload_n 2, 1) := o_28 (by decide +kernel)
theorem dX11_totalInOrder_42 : decode cX11_totalInOrder 42 = .ok (.iaload, 1) := o_46 (by decide +kernel)
theorem dX11_totalInOrder_43 : decode cX11_totalInOrder 43 = .ok (.iastore, 1) := o_79 (by decide +kernel)
theorem dX11_totalInOrder_44 : decode cX11_totalInOrder 44 = .ok (.aload_n 0, 1) := o_42 (by decide +kernel)
theorem dX11_totalInOrder_45 : decode cX11_totalInOrder 45 = .ok (.getfield 21, 3) := o_180 (by decide +kernel)
theorem dX11_totalInOrder_48 : decode cX11_totalInOrder 48 = .ok (.getfield 124, 3) := o_180 (by decide +kernel)
theorem dX11_totalInOrder_51 : decode cX11_totalInOrder 51 = .ok (.iload_n 2, 1) := o_28 (by decide +kernel)
theorem dX11_totalInOrder_52 : decode cX11_totalInOrder 52 = .ok (.iconst 0, 1) := o_3 (by decide +kernel)
theorem dX11_totalInOrder_53 : decode cX11_totalInOrder 53 = .ok (.iastore, 1) := o_79 (by decide +kernel)
theorem dX11_totalInOrder_54 : decode cX11_totalInOrder 54 = .ok (.iinc 2 1, 3) := o_132 (by decide +kernel)
theorem dX11_totalInOrder_57 : decode cX11_totalInOrder 57 = .ok (.goto (-44), 3) := o_167 (by decide +kernel)
theorem dX11_totalInOrder_60 : decode cX11_totalInOrder 60 = .ok (.iconst 0, 1) := o_3 (by decide +kernel)
theorem dX11_totalInOrder_61 : decode cX11_totalInOrder 61 = .ok (.istore_n 2, 1) := o_61 (by decide +kernel)
theorem dX11_totalInOrder_62 : decode cX11_totalInOrder 62 = .ok (.iload_n 2, 1) := o_28 (by decide +kernel)
theorem dX11_totalInOrder_63 : decode cX11_totalInOrder 63 = .ok (.iload_n 1, 1) := o_27 (by decide +kernel)
theorem dX11_totalInOrder_64 : decode cX11_totalInOrder 64 = .ok (.if_icmp .ge 17, 3) := o_162 (by decide +kernel)
theorem dX11_totalInOrder_67 : decode cX11_totalInOrder 67 = .ok (.aload_n 0, 1) := o_42 (by decide +kernel)
theorem dX11_totalInOrder_68 : decode cX11_totalInOrder 68 = .ok (.getfield 21, 3) := o_180 (by decide +kernel)
theorem dX11_totalInOrder_71 : decode cX11_totalInOrder 71 = .ok (.invokevirtual 180, 3) := o_182 (by decide +kernel)
theorem dX11_totalInOrder_74 : decode cX11_totalInOrder 74 = .ok (.pop, 1) := o_87 (by decide +kernel)
theorem dX11_totalInOrder_75 : decode cX11_totalInOrder 75 = .ok (.iinc 2 1, 3) := o_132 (by decide +kernel)
theorem dX11_totalInOrder_78 : decode cX11_totalInOrder 78 = .ok (.goto (-16), 3) := o_167 (by decide +kernel)
theorem dX11_totalInOrder_81 : decode cX11_totalInOrder 81 = .ok (.aload_n 0, 1) := o_42 (by decide +kernel)
theorem dX11_totalInOrder_82 : decode cX11_totalInOrder 82 = .ok (.getfield 21, 3) := o_180 (by decide +kernel)
theorem dX11_totalInOrder_85 : decode cX11_totalInOrder 85 = .ok (.invokevirtual 199, 3) := o_182 (by decide +kernel)
theorem dX11_totalInOrder_88 : decode cX11_totalInOrder 88 = .ok (.ireturn, 1) := o_172 (by decide +kernel)
theorem gt_wsX11_triesNextOrder_wsX110 : GoodIn wsX11_triesNextOrder wsX110 := fun w h => ⟨List.mem_cons_of_mem _ (List.mem_append_right _ h), good_of_word (gq_wsX110 w h)⟩
set_option maxRecDepth 20000 in
theorem ggX11_triesNextOrder_X11_swapsTried : GoodIn wsX11_triesNextOrder wsX11_swapsTried := goodIn_ca (goodIn_s _ [(6, 1), (1, 1)] rfl (by decide +kernel)) gt_wsX11_triesNextOrder_wsX110
set_option maxRecDepth 20000 in
theorem gX11_triesNextOrder_X11_swapsTried : GoodIn wsX11_triesNextOrder (wsV RX11 226 RX11 yX11_swapsTried wsX11_swapsTried) := goodIn_app (goodIn_of _ (by decide +kernel)) ggX11_triesNextOrder_X11_swapsTried
theorem dX11_triesNextOrder_0 : decode cX11_triesNextOrder 0 = .ok (.iload_n 1, 1) := o_27 (by decide +kernel)
theorem dX11_triesNextOrder_1 : decode cX11_triesNextOrder 1 = .ok (.iconst 2, 1) := o_5 (by decide +kernel)
theorem dX11_triesNextOrder_2 : decode cX11_triesNextOrder 2 = .ok (.isub, 1) := o_100 (by decide +kernel)
theorem dX11_triesNextOrder_3 : decode cX11_triesNextOrder 3 = .ok (.istore_n 2, 1) := o_61 (by decide +kernel)
theorem dX11_triesNextOrder_4 : decode cX11_triesNextOrder 4 = .ok (.iload_n 2, 1) := o_28 (by decide +kernel)
theorem dX11_triesNextOrder_5 : decode cX11_triesNextOrder 5 = .ok (.ifCond .lt 26, 3) := o_155 (by decide +kernel)
theorem dX11_triesNextOrder_8 : decode cX11_triesNextOrder 8 = .ok (.aload_n 0, 1) := o_42 (by decide +kernel)
theorem dX11_triesNextOrder_9 : decode cX11_triesNextOrder 9 = .ok (.getfield 60, 3) := o_180 (by decide +kernel)
theorem dX11_triesNextOrder_12 : decode cX11_triesNextOrder 12 = .ok (.iload_n 2, 1) := o_28 (by decide +kernel)
theorem dX11_triesNextOrder_13 : decode cX11_triesNextOrder 13 = .ok (.iaload, 1) := o_46 (by decide +kernel)
theorem dX11_triesNextOrder_14 : decode cX11_triesNextOrder 14 = .ok (.aload_n 0, 1) := o_42 (by decide +kernel)
theorem dX11_triesNextOrder_15 : decode cX11_triesNextOrder 15 = .ok (.getfield 60, 3) := o_180 (by decide +kernel)
theorem dX11_triesNextOrder_18 : decode cX11_triesNextOrder 18 = .ok (.iload_n 2, 1) := o_28 (by decide +kernel)
theorem dX11_triesNextOrder_19 : decode cX11_triesNextOrder 19 = .ok (.iconst 1, 1) := o_4 (by decide +kernel)
theorem dX11_triesNextOrder_20 : decode cX11_triesNextOrder 20 = .ok (.iadd, 1) := o_96 (by decide +kernel)
theorem dX11_triesNextOrder_21 : decode cX11_triesNextOrder 21 = .ok (.iaload, 1) := o_46 (by decide +kernel)
theorem dX11_triesNextOrder_22 : decode cX11_triesNextOrder 22 = .ok (.if_icmp .le 9, 3) := o_164 (by decide +kernel)
theorem dX11_triesNextOrder_25 : decode cX11_triesNextOrder 25 = .ok (.iinc 2 (-1), 3) := o_132 (by decide +kernel)
theorem dX11_triesNextOrder_28 : decode cX11_triesNextOrder 28 = .ok (.goto (-24), 3) := o_167 (by decide +kernel)
theorem dX11_triesNextOrder_31 : decode cX11_triesNextOrder 31 = .ok (.iload_n 2, 1) := o_28 (by decide +kernel)
theorem dX11_triesNextOrder_32 : decode cX11_triesNextOrder 32 = .ok (.ifCond .ge 5, 3) := o_156 (by decide +kernel)
theorem dX11_triesNextOrder_35 : decode cX11_triesNextOrder 35 = .ok (.iconst 0, 1) := o_3 (by decide +kernel)
theorem dX11_triesNextOrder_36 : decode cX11_triesNextOrder 36 = .ok (.ireturn, 1) := o_172 (by decide +kernel)
theorem dX11_triesNextOrder_37 : decode cX11_triesNextOrder 37 = .ok (.iload_n 1, 1) := o_27 (by decide +kernel)
theorem dX11_triesNextOrder_38 : decode cX11_triesNextOrder 38 = .ok (.iconst 1, 1) := o_4 (by decide +kernel)
theorem dX11_triesNextOrder_39 : decode cX11_triesNextOrder 39 = .ok (.isub, 1) := o_100 (by decide +kernel)
theorem dX11_triesNextOrder_40 : decode cX11_triesNextOrder 40 = .ok (.istore_n 3, 1) := o_62 (by decide +kernel)
theorem dX11_triesNextOrder_41 : decode cX11_triesNextOrder 41 = .ok (.iload_n 3, 1) := o_29 (by decide +kernel)
theorem dX11_triesNextOrder_42 : decode cX11_triesNextOrder 42 = .ok (.iload_n 2, 1) := o_28 (by decide +kernel)
theorem dX11_triesNextOrder_43 : decode cX11_triesNextOrder 43 = .ok (.if_icmp .le 24, 3) := o_164 (by decide +kernel)
theorem dX11_triesNextOrder_46 : decode cX11_triesNextOrder 46 = .ok (.aload_n 0, 1) := o_42 (by decide +kernel)
theorem dX11_triesNextOrder_47 : decode cX11_triesNextOrder 47 = .ok (.getfield 60, 3) := o_180 (by decide +kernel)
theorem dX11_triesNextOrder_50 : decode cX11_triesNextOrder 50 = .ok (.iload_n 3, 1) := o_29 (by decide +kernel)
theorem dX11_triesNextOrder_51 : decode cX11_triesNextOrder 51 = .ok (.iaload, 1) := o_46 (by decide +kernel)
theorem dX11_triesNextOrder_52 : decode cX11_triesNextOrder 52 = .ok (.aload_n 0, 1) := o_42 (by decide +kernel)
theorem dX11_triesNextOrder_53 : decode cX11_triesNextOrder 53 = .ok (.getfield 60, 3) := o_180 (by decide +kernel)
theorem dX11_triesNextOrder_56 : decode cX11_triesNextOrder 56 = .ok (.iload_n 2, 1) := o_28 (by decide +kernel)
theorem dX11_triesNextOrder_57 : decode cX11_triesNextOrder 57 = .ok (.iaload, 1) := o_46 (by decide +kernel)
theorem dX11_triesNextOrder_58 : decode cX11_triesNextOrder 58 = .ok (.if_icmp .ge 9, 3) := o_162 (by decide +kernel)
theorem dX11_triesNextOrder_61 : decode cX11_triesNextOrder 61 = .ok (.iinc 3 (-1), 3) := o_132 (by decide +kernel)
theorem dX11_triesNextOrder_64 : decode cX11_triesNextOrder 64 = .ok (.goto (-23), 3) := o_167 (by decide +kernel)
theorem dX11_triesNextOrder_67 : decode cX11_triesNextOrder 67 = .ok (.aload_n 0, 1) := o_42 (by decide +kernel)
theorem dX11_triesNextOrder_68 : decode cX11_triesNextOrder 68 = .ok (.iload_n 2, 1) := o_28 (by decide +kernel)
theorem dX11_triesNextOrder_69 : decode cX11_triesNextOrder 69 = .ok (.iload_n 3, 1) := o_29 (by decide +kernel)
theorem dX11_triesNextOrder_70 : decode cX11_triesNextOrder 70 = .ok (.invokevirtual 226, 3) := o_182 (by decide +kernel)
theorem dX11_triesNextOrder_73 : decode cX11_triesNextOrder 73 = .ok (.iload_n 2, 1) := o_28 (by decide +kernel)
theorem dX11_triesNextOrder_74 : decode cX11_triesNextOrder 74 = .ok (.iconst 1, 1) := o_4 (by decide +kernel)
theorem dX11_triesNextOrder_75 : decode cX11_triesNextOrder 75 = .ok (.iadd, 1) := o_96 (by decide +kernel)
theorem dX11_triesNextOrder_76 : decode cX11_triesNextOrder 76 = .ok (.istore 4, 2) := o_54 (by decide +kernel)
theorem dX11_triesNextOrder_78 : decode cX11_triesNextOrder 78 = .ok (.iload_n 1, 1) := o_27 (by decide +kernel)
theorem dX11_triesNextOrder_79 : decode cX11_triesNextOrder 79 = .ok (.iconst 1, 1) := o_4 (by decide +kernel)
theorem dX11_triesNextOrder_80 : decode cX11_triesNextOrder 80 = .ok (.isub, 1) := o_100 (by decide +kernel)
theorem dX11_triesNextOrder_81 : decode cX11_triesNextOrder 81 = .ok (.istore 5, 2) := o_54 (by decide +kernel)
theorem dX11_triesNextOrder_83 : decode cX11_triesNextOrder 83 = .ok (.iload 4, 2) := o_21 (by decide +kernel)
theorem dX11_triesNextOrder_85 : decode cX11_triesNextOrder 85 = .ok (.iload 5, 2) := o_21 (by decide +kernel)
theorem dX11_triesNextOrder_87 : decode cX11_triesNextOrder 87 = .ok (.if_icmp .ge 20, 3) := o_162 (by decide +kernel)
theorem dX11_triesNextOrder_90 : decode cX11_triesNextOrder 90 = .ok (.aload_n 0, 1) := o_42 (by decide +kernel)
theorem dX11_triesNextOrder_91 : decode cX11_triesNextOrder 91 = .ok (.iload 4, 2) := o_21 (by decide +kernel)
theorem dX11_triesNextOrder_93 : decode cX11_triesNextOrder 93 = .ok (.iload 5, 2) := o_21 (by decide +kernel)
theorem dX11_triesNextOrder_95 : decode cX11_triesNextOrder 95 = .ok (.invokevirtual 226, 3) := o_182 (by decide +kernel)
theorem dX11_triesNextOrder_98 : decode cX11_triesNextOrder 98 = .ok (.iinc 4 1, 3) := o_132 (by decide +kernel)
theorem dX11_triesNextOrder_101 : decode cX11_triesNextOrder 101 = .ok (.iinc 5 (-1), 3) := o_132 (by decide +kernel)
theorem dX11_triesNextOrder_104 : decode cX11_triesNextOrder 104 = .ok (.goto (-21), 3) := o_167 (by decide +kernel)
theorem dX11_triesNextOrder_107 : decode cX11_triesNextOrder 107 = .ok (.iconst 1, 1) := o_4 (by decide +kernel)
theorem dX11_triesNextOrder_108 : decode cX11_triesNextOrder 108 = .ok (.ireturn, 1) := o_172 (by decide +kernel)
theorem dX11_swapsTried_0 : decode cX11_swapsTried 0 = .ok (.aload_n 0, 1) := o_42 (by decide +kernel)
theorem dX11_swapsTried_1 : decode cX11_swapsTried 1 = .ok (.getfield 60, 3) := o_180 (by decide +kernel)
theorem dX11_swapsTried_4 : decode cX11_swapsTried 4 = .ok (.iload_n 1, 1) := o_27 (by decide +kernel)
theorem dX11_swapsTried_5 : decode cX11_swapsTried 5 = .ok (.iaload, 1) := o_46 (by decide +kernel)
theorem dX11_swapsTried_6 : decode cX11_swapsTried 6 = .ok (.istore_n 3, 1) := o_62 (by decide +kernel)
theorem dX11_swapsTried_7 : decode cX11_swapsTried 7 = .ok (.aload_n 0, 1) := o_42 (by decide +kernel)
theorem dX11_swapsTried_8 : decode cX11_swapsTried 8 = .ok (.getfield 60, 3) := o_180 (by decide +kernel)
theorem dX11_swapsTried_11 : decode cX11_swapsTried 11 = .ok (.iload_n 1, 1) := o_27 (by decide +kernel)
theorem dX11_swapsTried_12 : decode cX11_swapsTried 12 = .ok (.aload_n 0, 1) := o_42 (by decide +kernel)
theorem dX11_swapsTried_13 : decode cX11_swapsTried 13 = .ok (.getfield 60, 3) := o_180 (by decide +kernel)
theorem dX11_swapsTried_16 : decode cX11_swapsTried 16 = .ok (.iload_n 2, 1) := o_28 (by decide +kernel)
theorem dX11_swapsTried_17 : decode cX11_swapsTried 17 = .ok (.iaload, 1) := o_46 (by decide +kernel)
theorem dX11_swapsTried_18 : decode cX11_swapsTried 18 = .ok (.iastore, 1) := o_79 (by decide +kernel)
theorem dX11_swapsTried_19 : decode cX11_swapsTried 19 = .ok (.aload_n 0, 1) := o_42 (by decide +kernel)
theorem dX11_swapsTried_20 : decode cX11_swapsTried 20 = .ok (.getfield 60, 3) := o_180 (by decide +kernel)
theorem dX11_swapsTried_23 : decode cX11_swapsTried 23 = .ok (.iload_n 2, 1) := o_28 (by decide +kernel)
theorem dX11_swapsTried_24 : decode cX11_swapsTried 24 = .ok (.iload_n 3, 1) := o_29 (by decide +kernel)
theorem dX11_swapsTried_25 : decode cX11_swapsTried 25 = .ok (.iastore, 1) := o_79 (by decide +kernel)
theorem dX11_swapsTried_26 : decode cX11_swapsTried 26 = .ok (.return_, 1) := o_177 (by decide +kernel)
theorem gt_wsX11_whets_wsX110 : GoodIn wsX11_whets wsX110 := fun w h => ⟨List.mem_cons_of_mem _ (List.mem_append_left _ (List.mem_append_left _ (List.mem_append_left _ (List.mem_append_left _ (List.mem_append_left _ (List.mem_append_left _ (List.mem_append_left _ (List.mem_append_left _ (List.mem_append_left _ (List.mem_append_right _ h)))))))))), good_of_word (gq_wsX110 w h)⟩
theorem gt_wsX11_whets_wsX10 : GoodIn wsX11_whets wsX10 := fun w h => ⟨List.mem_cons_of_mem _ (List.mem_append_left _ (List.mem_append_left _ (List.mem_append_left _ (List.mem_append_left _ (List.mem_append_left _ (List.mem_append_left _ (List.mem_append_left _ (List.mem_append_left _ (List.mem_append_right _ h))))))))), good_of_word (gq_wsX10 w h)⟩
theorem gt_wsX11_whets_wsX00 : GoodIn wsX11_whets wsX00 := fun w h => ⟨List.mem_cons_of_mem _ (List.mem_append_left _ (List.mem_append_left _ (List.mem_append_left _ (List.mem_append_left _ (List.mem_append_left _ (List.mem_append_left _ (List.mem_append_left _ (List.mem_append_right _ h)))))))), good_of_word (gq_wsX00 w h)⟩
theorem gt_wsX11_whets_wsX30 : GoodIn wsX11_whets wsX30 := fun w h => ⟨List.mem_cons_of_mem _ (List.mem_append_left _ (List.mem_append_left _ (List.mem_append_left _ (List.mem_append_left _ (List.mem_append_left _ (List.mem_append_left _ (List.mem_append_right _ h))))))), good_of_word (gq_wsX30 w h)⟩
theorem gt_wsX11_whets_wsX40 : GoodIn wsX11_whets wsX40 := fun w h => ⟨List.mem_cons_of_mem _ (List.mem_append_left _ (List.mem_append_left _ (List.mem_append_left _ (List.mem_append_left _ (List.mem_append_left _ (List.mem_append_right _ h)))))), good_of_word (gq_wsX40 w h)⟩
theorem gt_wsX11_whets_wsX60 : GoodIn wsX11_whets wsX60 := fun w h => ⟨List.mem_cons_of_mem _ (List.mem_append_left _ (List.mem_append_left _ (List.mem_append_left _ (List.mem_append_left _ (List.mem_append_right _ h))))), good_of_word (gq_wsX60 w h)⟩
theorem gt_wsX11_whets_wsX70 : GoodIn wsX11_whets wsX70 := fun w h => ⟨List.mem_cons_of_mem _ (List.mem_append_left _ (List.mem_append_left _ (List.mem_append_left _ (List.mem_append_right _ h)))), good_of_word (gq_wsX70 w h)⟩
theorem gt_wsX11_whets_wsX80 : GoodIn wsX11_whets wsX80 := fun w h => ⟨List.mem_cons_of_mem _ (List.mem_append_left _ (List.mem_append_left _ (List.mem_append_right _ h))), good_of_word (gq_wsX80 w h)⟩
theorem gt_wsX11_whets_wsX100 : GoodIn wsX11_whets wsX100 := fun w h => ⟨List.mem_cons_of_mem _ (List.mem_append_left _ (List.mem_append_right _ h)), good_of_word (gq_wsX100 w h)⟩
theorem gt_wsX11_whets_wsX20 : GoodIn wsX11_whets wsX20 := fun w h => ⟨List.mem_cons_of_mem _ (List.mem_append_right _ h), good_of_word (gq_wsX20 w h)⟩
set_option maxRecDepth 20000 in
theorem ggX11_whets_X11_mostBy : GoodIn wsX11_whets wsX11_mostBy := goodIn_ca (goodIn_ca (goodIn_ca (goodIn_ca (goodIn_ca (goodIn_ca (goodIn_ca (goodIn_ca (goodIn_ca (goodIn_ca (goodIn_s _ [(5, 4), (4, 1), (9, 163)] rfl (by decide +kernel)) gt_wsX11_whets_wsX110) gt_wsX11_whets_wsX10) gt_wsX11_whets_wsX00) gt_wsX11_whets_wsX30) gt_wsX11_whets_wsX40) gt_wsX11_whets_wsX60) gt_wsX11_whets_wsX70) gt_wsX11_whets_wsX80) gt_wsX11_whets_wsX100) gt_wsX11_whets_wsX20
set_option maxRecDepth 20000 in
theorem gX11_whets_X11_mostBy : GoodIn wsX11_whets (wsV RX11 230 RX11 yX11_mostBy wsX11_mostBy) := goodIn_app (goodIn_of _ (by decide +kernel)) ggX11_whets_X11_mostBy
theorem dX11_whets_0 : decode cX11_whets 0 = .ok (.iload_n 2, 1) := o_28 (by decide +kernel)
theorem dX11_whets_1 : decode cX11_whets 1 = .ok (.ifCond .eq 10, 3) := o_153 (by decide +kernel)
theorem dX11_whets_4 : decode cX11_whets 4 = .ok (.iload_n 2, 1) := o_28 (by decide +kernel)
theorem dX11_whets_5 : decode cX11_whets 5 = .ok (.iconst 1, 1) := o_4 (by decide +kernel)
theorem dX11_whets_6 : decode cX11_whets 6 = .ok (.if_icmp .eq 5, 3) := o_159 (by decide +kernel)
theorem dX11_whets_9 : decode cX11_whets 9 = .ok (.iconst (-1), 1) := o_2 (by decide +kernel)
theorem dX11_whets_10 : decode cX11_whets 10 = .ok (.ireturn, 1) := o_172 (by decide +kernel)
theorem dX11_whets_11 : decode cX11_whets 11 = .ok (.iload_n 1, 1) := o_27 (by decide +kernel)
theorem dX11_whets_12 : decode cX11_whets 12 = .ok (.iconst 1, 1) := o_4 (by decide +kernel)
theorem dX11_whets_13 : decode cX11_whets 13 = .ok (.if_icmp .lt 9, 3) := o_161 (by decide +kernel)
theorem dX11_whets_16 : decode cX11_whets 16 = .ok (.iload_n 1, 1) := o_27 (by decide +kernel)
theorem dX11_whets_17 : decode cX11_whets 17 = .ok (.bipush 60, 2) := o_16 (by decide +kernel)
theorem dX11_whets_19 : decode cX11_whets 19 = .ok (.if_icmp .le 8, 3) := o_164 (by decide +kernel)
theorem dX11_whets_22 : decode cX11_whets 22 = .ok (.bipush (-2), 2) := o_16 (by decide +kernel)
theorem dX11_whets_24 : decode cX11_whets 24 = .ok (.goto 13, 3) := o_167 (by decide +kernel)
theorem dX11_whets_27 : decode cX11_whets 27 = .ok (.aload_n 0, 1) := o_42 (by decide +kernel)
theorem dX11_whets_28 : decode cX11_whets 28 = .ok (.iconst 0, 1) := o_3 (by decide +kernel)
theorem dX11_whets_29 : decode cX11_whets 29 = .ok (.iload_n 1, 1) := o_27 (by decide +kernel)
theorem dX11_whets_30 : decode cX11_whets 30 = .ok (.iconst 1, 1) := o_4 (by decide +kernel)
theorem dX11_whets_31 : decode cX11_whets 31 = .ok (.bipush 16, 2) := o_16 (by decide +kernel)
theorem dX11_whets_33 : decode cX11_whets 33 = .ok (.iload_n 2, 1) := o_28 (by decide +kernel)
theorem dX11_whets_34 : decode cX11_whets 34 = .ok (.invokevirtual 230, 3) := o_182 (by decide +kernel)
theorem dX11_whets_37 : decode cX11_whets 37 = .ok (.ireturn, 1) := o_172 (by decide +kernel)
theorem gt_wsX11_apart_wsX110 : GoodIn wsX11_apart wsX110 := fun w h => ⟨List.mem_cons_of_mem _ (List.mem_append_left _ (List.mem_append_left _ (List.mem_append_left _ (List.mem_append_left _ (List.mem_append_left _ (List.mem_append_left _ (List.mem_append_left _ (List.mem_append_left _ (List.mem_append_left _ (List.mem_append_right _ h)))))))))), good_of_word (gq_wsX110 w h)⟩
theorem gt_wsX11_apart_wsX10 : GoodIn wsX11_apart wsX10 := fun w h => ⟨List.mem_cons_of_mem _ (List.mem_append_left _ (List.mem_append_left _ (List.mem_append_left _ (List.mem_append_left _ (List.mem_append_left _ (List.mem_append_left _ (List.mem_append_left _ (List.mem_append_left _ (List.mem_append_right _ h))))))))), good_of_word (gq_wsX10 w h)⟩
theorem gt_wsX11_apart_wsX00 : GoodIn wsX11_apart wsX00 := fun w h => ⟨List.mem_cons_of_mem _ (List.mem_append_left _ (List.mem_append_left _ (List.mem_append_left _ (List.mem_append_left _ (List.mem_append_left _ (List.mem_append_left _ (List.mem_append_left _ (List.mem_append_right _ h)))))))), good_of_word (gq_wsX00 w h)⟩
theorem gt_wsX11_apart_wsX30 : GoodIn wsX11_apart wsX30 := fun w h => ⟨List.mem_cons_of_mem _ (List.mem_append_left _ (List.mem_append_left _ (List.mem_append_left _ (List.mem_append_left _ (List.mem_append_left _ (List.mem_append_left _ (List.mem_append_right _ h))))))), good_of_word (gq_wsX30 w h)⟩
theorem gt_wsX11_apart_wsX40 : GoodIn wsX11_apart wsX40 := fun w h => ⟨List.mem_cons_of_mem _ (List.mem_append_left _ (List.mem_append_left _ (List.mem_append_left _ (List.mem_append_left _ (List.mem_append_left _ (List.mem_append_right _ h)))))), good_of_word (gq_wsX40 w h)⟩
theorem gt_wsX11_apart_wsX60 : GoodIn wsX11_apart wsX60 := fun w h => ⟨List.mem_cons_of_mem _ (List.mem_append_left _ (List.mem_append_left _ (List.mem_append_left _ (List.mem_append_left _ (List.mem_append_right _ h))))), good_of_word (gq_wsX60 w h)⟩
theorem gt_wsX11_apart_wsX70 : GoodIn wsX11_apart wsX70 := fun w h => ⟨List.mem_cons_of_mem _ (List.mem_append_left _ (List.mem_append_left _ (List.mem_append_left _ (List.mem_append_right _ h)))), good_of_word (gq_wsX70 w h)⟩
theorem gt_wsX11_apart_wsX80 : GoodIn wsX11_apart wsX80 := fun w h => ⟨List.mem_cons_of_mem _ (List.mem_append_left _ (List.mem_append_left _ (List.mem_append_right _ h))), good_of_word (gq_wsX80 w h)⟩
theorem gt_wsX11_apart_wsX100 : GoodIn wsX11_apart wsX100 := fun w h => ⟨List.mem_cons_of_mem _ (List.mem_append_left _ (List.mem_append_right _ h)), good_of_word (gq_wsX100 w h)⟩
theorem gt_wsX11_apart_wsX20 : GoodIn wsX11_apart wsX20 := fun w h => ⟨List.mem_cons_of_mem _ (List.mem_append_right _ h), good_of_word (gq_wsX20 w h)⟩
set_option maxRecDepth 20000 in
theorem ggX11_apart_X11_mostBy : GoodIn wsX11_apart wsX11_mostBy := goodIn_ca (goodIn_ca (goodIn_ca (goodIn_ca (goodIn_ca (goodIn_ca (goodIn_ca (goodIn_ca (goodIn_ca (goodIn_ca (goodIn_s _ [(5, 4), (4, 1), (9, 163)] rfl (by decide +kernel)) gt_wsX11_apart_wsX110) gt_wsX11_apart_wsX10) gt_wsX11_apart_wsX00) gt_wsX11_apart_wsX30) gt_wsX11_apart_wsX40) gt_wsX11_apart_wsX60) gt_wsX11_apart_wsX70) gt_wsX11_apart_wsX80) gt_wsX11_apart_wsX100) gt_wsX11_apart_wsX20
set_option maxRecDepth 20000 in
theorem gX11_apart_X11_mostBy : GoodIn wsX11_apart (wsV RX11 230 RX11 yX11_mostBy wsX11_mostBy) := goodIn_app (goodIn_of _ (by decide +kernel)) ggX11_apart_X11_mostBy
theorem dX11_apart_0 : decode cX11_apart 0 = .ok (.iload_n 2, 1) := o_28 (by decide +kernel)
theorem dX11_apart_1 : decode cX11_apart 1 = .ok (.ifCond .eq 10, 3) := o_153 (by decide +kernel)
theorem dX11_apart_4 : decode cX11_apart 4 = .ok (.iload_n 2, 1) := o_28 (by decide +kernel)
theorem dX11_apart_5 : decode cX11_apart 5 = .ok (.iconst 1, 1) := o_4 (by decide +kernel)
theorem dX11_apart_6 : decode cX11_apart 6 = .ok (.if_icmp .eq 5, 3) := o_159 (by decide +kernel)
theorem dX11_apart_9 : decode cX11_apart 9 = .ok (.iconst (-1), 1) := o_2 (by decide +kernel)
theorem dX11_apart_10 : decode cX11_apart 10 = .ok (.ireturn, 1) := o_172 (by decide +kernel)
theorem dX11_apart_11 : decode cX11_apart 11 = .ok (.iload_n 1, 1) := o_27 (by decide +kernel)
theorem dX11_apart_12 : decode cX11_apart 12 = .ok (.iconst 1, 1) := o_4 (by decide +kernel)
theorem dX11_apart_13 : decode cX11_apart 13 = .ok (.if_icmp .lt 9, 3) := o_161 (by decide +kernel)
theorem dX11_apart_16 : decode cX11_apart 16 = .ok (.iload_n 1, 1) := o_27 (by decide +kernel)
theorem dX11_apart_17 : decode cX11_apart 17 = .ok (.bipush 60, 2) := o_16 (by decide +kernel)
theorem dX11_apart_19 : decode cX11_apart 19 = .ok (.if_icmp .le 8, 3) := o_164 (by decide +kernel)
theorem dX11_apart_22 : decode cX11_apart 22 = .ok (.bipush (-2), 2) := o_16 (by decide +kernel)
theorem dX11_apart_24 : decode cX11_apart 24 = .ok (.goto 13, 3) := o_167 (by decide +kernel)
theorem dX11_apart_27 : decode cX11_apart 27 = .ok (.aload_n 0, 1) := o_42 (by decide +kernel)
theorem dX11_apart_28 : decode cX11_apart 28 = .ok (.iconst 1, 1) := o_4 (by decide +kernel)
theorem dX11_apart_29 : decode cX11_apart 29 = .ok (.iload_n 1, 1) := o_27 (by decide +kernel)
theorem dX11_apart_30 : decode cX11_apart 30 = .ok (.iconst 0, 1) := o_3 (by decide +kernel)
theorem dX11_apart_31 : decode cX11_apart 31 = .ok (.bipush 9, 2) := o_16 (by decide +kernel)
theorem dX11_apart_33 : decode cX11_apart 33 = .ok (.iload_n 2, 1) := o_28 (by decide +kernel)
theorem dX11_apart_34 : decode cX11_apart 34 = .ok (.invokevirtual 230, 3) := o_182 (by decide +kernel)
theorem dX11_apart_37 : decode cX11_apart 37 = .ok (.ireturn, 1) := o_172 (by decide +kernel)
theorem gt_wsX11_mostBy_wsX110 : GoodIn wsX11_mostBy wsX110 := fun w h => ⟨List.mem_cons_of_mem _ (List.mem_append_left _ (List.mem_append_left _ (List.mem_append_left _ (List.mem_append_left _ (List.mem_append_left _ (List.mem_append_left _ (List.mem_append_left _ (List.mem_append_left _ (List.mem_append_left _ (List.mem_append_right _ h)))))))))), good_of_word (gq_wsX110 w h)⟩
theorem gt_wsX11_mostBy_wsX10 : GoodIn wsX11_mostBy wsX10 := fun w h => ⟨List.mem_cons_of_mem _ (List.mem_append_left _ (List.mem_append_left _ (List.mem_append_left _ (List.mem_append_left _ (List.mem_append_left _ (List.mem_append_left _ (List.mem_append_left _ (List.mem_append_left _ (List.mem_append_right _ h))))))))), good_of_word (gq_wsX10 w h)⟩
theorem gt_wsX11_mostBy_wsX00 : GoodIn wsX11_mostBy wsX00 := fun w h => ⟨List.mem_cons_of_mem _ (List.mem_append_left _ (List.mem_append_left _ (List.mem_append_left _ (List.mem_append_left _ (List.mem_append_left _ (List.mem_append_left _ (List.mem_append_left _ (List.mem_append_right _ h)))))))), good_of_word (gq_wsX00 w h)⟩
theorem gt_wsX11_mostBy_wsX30 : GoodIn wsX11_mostBy wsX30 := fun w h => ⟨List.mem_cons_of_mem _ (List.mem_append_left _ (List.mem_append_left _ (List.mem_append_left _ (List.mem_append_left _ (List.mem_append_left _ (List.mem_append_left _ (List.mem_append_right _ h))))))), good_of_word (gq_wsX30 w h)⟩
theorem gt_wsX11_mostBy_wsX40 : GoodIn wsX11_mostBy wsX40 := fun w h => ⟨List.mem_cons_of_mem _ (List.mem_append_left _ (List.mem_append_left _ (List.mem_append_left _ (List.mem_append_left _ (List.mem_append_left _ (List.mem_append_right _ h)))))), good_of_word (gq_wsX40 w h)⟩
theorem gt_wsX11_mostBy_wsX60 : GoodIn wsX11_mostBy wsX60 := fun w h => ⟨List.mem_cons_of_mem _ (List.mem_append_left _ (List.mem_append_left _ (List.mem_append_left _ (List.mem_append_left _ (List.mem_append_right _ h))))), good_of_word (gq_wsX60 w h)⟩
theorem gt_wsX11_mostBy_wsX70 : GoodIn wsX11_mostBy wsX70 := fun w h => ⟨List.mem_cons_of_mem _ (List.mem_append_left _ (List.mem_append_left _ (List.mem_append_left _ (List.mem_append_right _ h)))), good_of_word (gq_wsX70 w h)⟩
theorem gt_wsX11_mostBy_wsX80 : GoodIn wsX11_mostBy wsX80 := fun w h => ⟨List.mem_cons_of_mem _ (List.mem_append_left _ (List.mem_append_left _ (List.mem_append_right _ h))), good_of_word (gq_wsX80 w h)⟩
theorem gt_wsX11_mostBy_wsX100 : GoodIn wsX11_mostBy wsX100 := fun w h => ⟨List.mem_cons_of_mem _ (List.mem_append_left _ (List.mem_append_right _ h)), good_of_word (gq_wsX100 w h)⟩
theorem gt_wsX11_mostBy_wsX20 : GoodIn wsX11_mostBy wsX20 := fun w h => ⟨List.mem_cons_of_mem _ (List.mem_append_right _ h), good_of_word (gq_wsX20 w h)⟩
set_option maxRecDepth 20000 in
theorem ggX11_mostBy_X11_totalBy : GoodIn wsX11_mostBy wsX11_totalBy := goodIn_ca (goodIn_ca (goodIn_ca (goodIn_ca (goodIn_ca (goodIn_ca (goodIn_ca (goodIn_ca (goodIn_ca (goodIn_ca (goodIn_s _ [(5, 29), (4, 1), (34, 134)] rfl (by decide +kernel)) gt_wsX11_mostBy_wsX110) gt_wsX11_mostBy_wsX10) gt_wsX11_mostBy_wsX00) gt_wsX11_mostBy_wsX30) gt_wsX11_mostBy_wsX40) gt_wsX11_mostBy_wsX60) gt_wsX11_mostBy_wsX70) gt_wsX11_mostBy_wsX80) gt_wsX11_mostBy_wsX100) gt_wsX11_mostBy_wsX20
set_option maxRecDepth 20000 in
theorem gX11_mostBy_X11_totalBy : GoodIn wsX11_mostBy (wsV RX11 234 RX11 yX11_totalBy wsX11_totalBy) := goodIn_app (goodIn_of _ (by decide +kernel)) ggX11_mostBy_X11_totalBy
theorem dX11_mostBy_0 : decode cX11_mostBy 0 = .ok (.iload_n 3, 1) := o_29 (by decide +kernel)
theorem dX11_mostBy_1 : decode cX11_mostBy 1 = .ok (.istore 6, 2) := o_54 (by decide +kernel)
theorem dX11_mostBy_3 : decode cX11_mostBy 3 = .ok (.aload_n 0, 1) := o_42 (by decide +kernel)
theorem dX11_mostBy_4 : decode cX11_mostBy 4 = .ok (.iload_n 1, 1) := o_27 (by decide +kernel)
theorem dX11_mostBy_5 : decode cX11_mostBy 5 = .ok (.iload_n 2, 1) := o_28 (by decide +kernel)
theorem dX11_mostBy_6 : decode cX11_mostBy 6 = .ok (.iload_n 3, 1) := o_29 (by decide +kernel)
theorem dX11_mostBy_7 : decode cX11_mostBy 7 = .ok (.invokevirtual 234, 3) := o_182 (by decide +kernel)
theorem dX11_mostBy_10 : decode cX11_mostBy 10 = .ok (.istore 7, 2) := o_54 (by decide +kernel)
theorem dX11_mostBy_12 : decode cX11_mostBy 12 = .ok (.iload_n 3, 1) := o_29 (by decide +kernel)
theorem dX11_mostBy_13 : decode cX11_mostBy 13 = .ok (.iconst 1, 1) := o_4 (by decide +kernel)
theorem dX11_mostBy_14 : decode cX11_mostBy 14 = .ok (.iadd, 1) := o_96 (by decide +kernel)
theorem dX11_mostBy_15 : decode cX11_mostBy 15 = .ok (.istore 8, 2) := o_54 (by decide +kernel)
theorem dX11_mostBy_17 : decode cX11_mostBy 17 = .ok (.iload 8, 2) := o_21 (by decide +kernel)
theorem dX11_mostBy_19 : decode cX11_mostBy 19 = .ok (.iload 4, 2) := o_21 (by decide +kernel)
theorem dX11_mostBy_21 : decode cX11_mostBy 21 = .ok (.if_icmp .gt 34, 3) := o_163 (by decide +kernel)
theorem dX11_mostBy_24 : decode cX11_mostBy 24 = .ok (.aload_n 0, 1) := o_42 (by decide +kernel)
theorem dX11_mostBy_25 : decode cX11_mostBy 25 = .ok (.iload_n 1, 1) := o_27 (by decide +kernel)
theorem dX11_mostBy_26 : decode cX11_mostBy 26 = .ok (.iload_n 2, 1) := o_28 (by decide +kernel)
theorem dX11_mostBy_27 : decode cX11_mostBy 27 = .ok (.iload 8, 2) := o_21 (by decide +kernel)
theorem dX11_mostBy_29 : decode cX11_mostBy 29 = .ok (.invokevirtual 234, 3) := o_182 (by decide +kernel)
theorem dX11_mostBy_32 : decode cX11_mostBy 32 = .ok (.istore 9, 2) := o_54 (by decide +kernel)
theorem dX11_mostBy_34 : decode cX11_mostBy 34 = .ok (.iload 9, 2) := o_21 (by decide +kernel)
theorem dX11_mostBy_36 : decode cX11_mostBy 36 = .ok (.iload 7, 2) := o_21 (by decide +kernel)
theorem dX11_mostBy_38 : decode cX11_mostBy 38 = .ok (.if_icmp .le 11, 3) := o_164 (by decide +kernel)
theorem dX11_mostBy_41 : decode cX11_mostBy 41 = .ok (.iload 8, 2) := o_21 (by decide +kernel)
theorem dX11_mostBy_43 : decode cX11_mostBy 43 = .ok (.istore 6, 2) := o_54 (by decide +kernel)
theorem dX11_mostBy_45 : decode cX11_mostBy 45 = .ok (.iload 9, 2) := o_21 (by decide +kernel)
theorem dX11_mostBy_47 : decode cX11_mostBy 47 = .ok (.istore 7, 2) := o_54 (by decide +kernel)
theorem dX11_mostBy_49 : decode cX11_mostBy 49 = .ok (.iinc 8 1, 3) := o_132 (by decide +kernel)
theorem dX11_mostBy_52 : decode cX11_mostBy 52 = .ok (.goto (-35), 3) := o_167 (by decide +kernel)
theorem dX11_mostBy_55 : decode cX11_mostBy 55 = .ok (.iload 5, 2) := o_21 (by decide +kernel)
theorem dX11_mostBy_57 : decode cX11_mostBy 57 = .ok (.ifCond .ne 8, 3) := o_154 (by decide +kernel)
theorem dX11_mostBy_60 : decode cX11_mostBy 60 = .ok (.iload 6, 2) := o_21 (by decide +kernel)
theorem dX11_mostBy_62 : decode cX11_mostBy 62 = .ok (.goto 5, 3) := o_167 (by decide +kernel)
theorem dX11_mostBy_65 : decode cX11_mostBy 65 = .ok (.iload 7, 2) := o_21 (by decide +kernel)
theorem dX11_mostBy_67 : decode cX11_mostBy 67 = .ok (.ireturn, 1) := o_172 (by decide +kernel)
theorem gt_wsX11_totalBy_wsX10 : GoodIn wsX11_totalBy wsX10 := fun w h => ⟨List.mem_cons_of_mem _ (List.mem_append_left _ (List.mem_append_left _ (List.mem_append_left _ (List.mem_append_left _ (List.mem_append_left _ (List.mem_append_left _ (List.mem_append_left _ (List.mem_append_left _ (List.mem_append_right _ h))))))))), good_of_word (gq_wsX10 w h)⟩
set_option maxRecDepth 20000 in
theorem ggX11_totalBy_X1_becomes : GoodIn wsX11_totalBy wsX1_becomes := goodIn_ca (goodIn_s _ [(9, 17)] rfl (by decide +kernel)) gt_wsX11_totalBy_wsX10
set_option maxRecDepth 20000 in
theorem gX11_totalBy_X1_becomes : GoodIn wsX11_totalBy (wsV RX11 189 RX1 yX1_becomes wsX1_becomes) := goodIn_app (goodIn_of _ (by decide +kernel)) ggX11_totalBy_X1_becomes
theorem gt_wsX11_totalBy_wsX110 : GoodIn wsX11_totalBy wsX110 := fun w h => ⟨List.mem_cons_of_mem _ (List.mem_append_left _ (List.mem_append_left _ (List.mem_append_left _ (List.mem_append_left _ (List.mem_append_left _ (List.mem_append_left _ (List.mem_append_left _ (List.mem_append_left _ (List.mem_append_left _ (List.mem_append_right _ h)))))))))), good_of_word (gq_wsX110 w h)⟩
set_option maxRecDepth 20000 in
theorem ggX11_totalBy_X11_isMower : GoodIn wsX11_totalBy wsX11_isMower := goodIn_ca (goodIn_ca (goodIn_s _ [(30, 1), (2, 1), (31, 1)] rfl (by decide +kernel)) gt_wsX11_totalBy_wsX110) gt_wsX11_totalBy_wsX10
set_option maxRecDepth 20000 in
theorem gX11_totalBy_X11_isMower : GoodIn wsX11_totalBy (wsV RX11 110 RX11 yX11_isMower wsX11_isMower) := goodIn_app (goodIn_of _ (by decide +kernel)) ggX11_totalBy_X11_isMower
set_option maxRecDepth 20000 in
theorem ggX11_totalBy_X1_rests : GoodIn wsX11_totalBy wsX1_rests := goodIn_ca (goodIn_s _ [(35, 4), (8, 1), (39, 1), (10, 1), (19, 1), (40, 4), (20, 1), (12, 1)] rfl (by decide +kernel)) gt_wsX11_totalBy_wsX10
set_option maxRecDepth 20000 in
theorem gX11_totalBy_X1_rests : GoodIn wsX11_totalBy (wsV RX11 186 RX1 yX1_rests wsX1_rests) := goodIn_app (goodIn_of _ (by decide +kernel)) ggX11_totalBy_X1_rests
set_option maxRecDepth 20000 in
theorem ggX11_totalBy_X11_whetsIn : GoodIn wsX11_totalBy wsX11_whetsIn := goodIn_s _ [(46, 1)] rfl (by decide +kernel)
set_option maxRecDepth 20000 in
theorem gX11_totalBy_X11_whetsIn : GoodIn wsX11_totalBy (va_wsS RX11 241 yX11_whetsIn wsX11_whetsIn) := goodIn_app (goodIn_of _ (by decide +kernel)) ggX11_totalBy_X11_whetsIn
set_option maxRecDepth 20000 in
theorem ggX11_totalBy_X1_whetsAll : GoodIn wsX11_totalBy wsX1_whetsAll := goodIn_ca (goodIn_s _ [(50, 1), (10, 1), (18, 1), (36, 3), (8, 1), (39, 1), (19, 1), (40, 4), (20, 1), (12, 1)] rfl (by decide +kernel)) gt_wsX11_totalBy_wsX10
set_option maxRecDepth 20000 in
theorem gX11_totalBy_X1_whetsAll : GoodIn wsX11_totalBy (wsV RX11 183 RX1 yX1_whetsAll wsX1_whetsAll) := goodIn_app (goodIn_of _ (by decide +kernel)) ggX11_totalBy_X1_whetsAll
theorem gt_wsX11_totalBy_wsX00 : GoodIn wsX11_totalBy wsX00 := fun w h => ⟨List.mem_cons_of_mem _ (List.mem_append_left _ (List.mem_append_left _ (List.mem_append_left _ (List.mem_append_left _ (List.mem_append_left _ (List.mem_append_left _ (List.mem_append_left _ (List.mem_append_right _ h)))))))), good_of_word (gq_wsX00 w h)⟩
theorem gt_wsX11_totalBy_wsX30 : GoodIn wsX11_totalBy wsX30 := fun w h => ⟨List.mem_cons_of_mem _ (List.mem_append_left _ (List.mem_append_left _ (List.mem_append_left _ (List.mem_append_left _ (List.mem_append_left _ (List.mem_append_left _ (List.mem_append_right _ h))))))), good_of_word (gq_wsX30 w h)⟩
theorem gt_wsX11_totalBy_wsX40 : GoodIn wsX11_totalBy wsX40 := fun w h => ⟨List.mem_cons_of_mem _ (List.mem_append_left _ (List.mem_append_left _ (List.mem_append_left _ (List.mem_append_left _ (List.mem_append_left _ (List.mem_append_right _ h)))))), good_of_word (gq_wsX40 w h)⟩
theorem gt_wsX11_totalBy_wsX60 : GoodIn wsX11_totalBy wsX60 := fun w h => ⟨List.mem_cons_of_mem _ (List.mem_append_left _ (List.mem_append_left _ (List.mem_append_left _ (List.mem_append_left _ (List.mem_append_right _ h))))), good_of_word (gq_wsX60 w h)⟩
theorem gt_wsX11_totalBy_wsX70 : GoodIn wsX11_totalBy wsX70 := fun w h => ⟨List.mem_cons_of_mem _ (List.mem_append_left _ (List.mem_append_left _ (List.mem_append_left _ (List.mem_append_right _ h)))), good_of_word (gq_wsX70 w h)⟩
theorem gt_wsX11_totalBy_wsX80 : GoodIn wsX11_totalBy wsX80 := fun w h => ⟨List.mem_cons_of_mem _ (List.mem_append_left _ (List.mem_append_left _ (List.mem_append_right _ h))), good_of_word (gq_wsX80 w h)⟩
theorem gt_wsX11_totalBy_wsX100 : GoodIn wsX11_totalBy wsX100 := fun w h => ⟨List.mem_cons_of_mem _ (List.mem_append_left _ (List.mem_append_right _ h)), good_of_word (gq_wsX100 w h)⟩
theorem gt_wsX11_totalBy_wsX20 : GoodIn wsX11_totalBy wsX20 := fun w h => ⟨List.mem_cons_of_mem _ (List.mem_append_right _ h), good_of_word (gq_wsX20 w h)⟩
set_option maxRecDepth 20000 in
theorem ggX11_totalBy_X1_goesMinute : GoodIn wsX11_totalBy wsX1_goesMinute := goodIn_ca (goodIn_ca (goodIn_ca (goodIn_ca (goodIn_ca (goodIn_ca (goodIn_ca (goodIn_ca (goodIn_ca (goodIn_s _ [(54, 1), (11, 1), (55, 1), (16, 1), (20, 1), (17, 1), (12, 1), (56, 3), (8, 1), (59, 1), (15, 1), (18, 1), (60, 6), (19, 1), (13, 1), (66, 69), (14, 1), (135, 19), (42, 1), (154, 1), (40, 2), (43, 1), (155, 5)] rfl (by decide +kernel)) gt_wsX11_totalBy_wsX10) gt_wsX11_totalBy_wsX00) gt_wsX11_totalBy_wsX30) gt_wsX11_totalBy_wsX40) gt_wsX11_totalBy_wsX60) gt_wsX11_totalBy_wsX70) gt_wsX11_totalBy_wsX80) gt_wsX11_totalBy_wsX100) gt_wsX11_totalBy_wsX20
set_option maxRecDepth 20000 in
theorem gX11_totalBy_X1_goesMinute : GoodIn wsX11_totalBy (wsV RX11 180 RX1 yX1_goesMinute wsX1_goesMinute) := goodIn_app (goodIn_of _ (by decide +kernel)) ggX11_totalBy_X1_goesMinute
set_option maxRecDepth 20000 in
theorem ggX11_totalBy_X1_allAt : GoodIn wsX11_totalBy wsX1_allAt := goodIn_ca (goodIn_s _ [(163, 1), (10, 1), (17, 1)] rfl (by decide +kernel)) gt_wsX11_totalBy_wsX10
set_option maxRecDepth 20000 in
theorem gX11_totalBy_X1_allAt : GoodIn wsX11_totalBy (wsV RX11 199 RX1 yX1_allAt wsX1_allAt) := goodIn_app (goodIn_of _ (by decide +kernel)) ggX11_totalBy_X1_allAt
theorem dX11_totalBy_0 : decode cX11_totalBy 0 = .ok (.aload_n 0, 1) := o_42 (by decide +kernel)
theorem dX11_totalBy_1 : decode cX11_totalBy 1 = .ok (.getfield 21, 3) := o_180 (by decide +kernel)
theorem dX11_totalBy_4 : decode cX11_totalBy 4 = .ok (.aload_n 0, 1) := o_42 (by decide +kernel)
theorem dX11_totalBy_5 : decode cX11_totalBy 5 = .ok (.getfield 12, 3) := o_180 (by decide +kernel)
theorem dX11_totalBy_8 : decode cX11_totalBy 8 = .ok (.invokevirtual 189, 3) := o_182 (by decide +kernel)
theorem dX11_totalBy_11 : decode cX11_totalBy 11 = .ok (.iload_n 1, 1) := o_27 (by decide +kernel)
theorem dX11_totalBy_12 : decode cX11_totalBy 12 = .ok (.iconst 1, 1) := o_4 (by decide +kernel)
theorem dX11_totalBy_13 : decode cX11_totalBy 13 = .ok (.if_icmp .ne 11, 3) := o_160 (by decide +kernel)
theorem dX11_totalBy_16 : decode cX11_totalBy 16 = .ok (.aload_n 0, 1) := o_42 (by decide +kernel)
theorem dX11_totalBy_17 : decode cX11_totalBy 17 = .ok (.getfield 21, 3) := o_180 (by decide +kernel)
theorem dX11_totalBy_20 : decode cX11_totalBy 20 = .ok (.iload_n 3, 1) := o_29 (by decide +kernel)
theorem dX11_totalBy_21 : decode cX11_totalBy 21 = .ok (.putfield 238, 3) := o_181 (by decide +kernel)
theorem dX11_totalBy_24 : decode cX11_totalBy 24 = .ok (.iload_n 1, 1) := o_27 (by decide +kernel)
theorem dX11_totalBy_25 : decode cX11_totalBy 25 = .ok (.iconst 2, 1) := o_5 (by decide +kernel)
theorem dX11_totalBy_26 : decode cX11_totalBy 26 = .ok (.if_icmp .ne 24, 3) := o_160 (by decide +kernel)
theorem dX11_totalBy_29 : decode cX11_totalBy 29 = .ok (.aload_n 0, 1) := o_42 (by decide +kernel)
theorem dX11_totalBy_30 : decode cX11_totalBy 30 = .ok (.iload_n 3, 1) := o_29 (by decide +kernel)
theorem dX11_totalBy_31 : decode cX11_totalBy 31 = .ok (.invokevirtual 110, 3) := o_182 (by decide +kernel)
theorem dX11_totalBy_34 : decode cX11_totalBy 34 = .ok (.ifCond .eq 16, 3) := o_153 (by decide +kernel)
theorem dX11_totalBy_37 : decode cX11_totalBy 37 = .ok (.aload_n 0, 1) := o_42 (by decide +kernel)
theorem dX11_totalBy_38 : decode cX11_totalBy 38 = .ok (.getfield 21, 3) := o_180 (by decide +kernel)
theorem dX11_totalBy_41 : decode cX11_totalBy 41 = .ok (.getfield 133, 3) := o_180 (by decide +kernel)
theorem dX11_totalBy_44 : decode cX11_totalBy 44 = .ok (.iload_n 3, 1) := o_29 (by decide +kernel)
theorem dX11_totalBy_45 : decode cX11_totalBy 45 = .ok (.dup2, 1) := o_92 (by decide +kernel)
theorem dX11_totalBy_46 : decode cX11_totalBy 46 = .ok (.iaload, 1) := o_46 (by decide +kernel)
theorem dX11_totalBy_47 : decode cX11_totalBy 47 = .ok (.iconst 5, 1) := o_8 (by decide +kernel)
theorem dX11_totalBy_48 : decode cX11_totalBy 48 = .ok (.iadd, 1) := o_96 (by decide +kernel)
theorem dX11_totalBy_49 : decode cX11_totalBy 49 = .ok (.iastore, 1) := o_79 (by decide +kernel)
theorem dX11_totalBy_50 : decode cX11_totalBy 50 = .ok (.iconst 0, 1) := o_3 (by decide +kernel)
theorem dX11_totalBy_51 : decode cX11_totalBy 51 = .ok (.istore 4, 2) := o_54 (by decide +kernel)
theorem dX11_totalBy_53 : decode cX11_totalBy 53 = .ok (.iload 4, 2) := o_21 (by decide +kernel)
theorem dX11_totalBy_55 : decode cX11_totalBy 55 = .ok (.iload_n 2, 1) := o_28 (by decide +kernel)
theorem dX11_totalBy_56 : decode cX11_totalBy 56 = .ok (.if_icmp .ge 61, 3) := o_162 (by decide +kernel)
theorem dX11_totalBy_59 : decode cX11_totalBy 59 = .ok (.iload_n 1, 1) := o_27 (by decide +kernel)
theorem dX11_totalBy_60 : decode cX11_totalBy 60 = .ok (.iconst 3, 1) := o_6 (by decide +kernel)
theorem dX11_totalBy_61 : decode cX11_totalBy 61 = .ok (.if_icmp .ne 17, 3) := o_160 (by decide +kernel)
theorem dX11_totalBy_64 : decode cX11_totalBy 64 = .ok (.iload 4, 2) := o_21 (by decide +kernel)
theorem dX11_totalBy_66 : decode cX11_totalBy 66 = .ok (.iload_n 3, 1) := o_29 (by decide +kernel)
theorem dX11_totalBy_67 : decode cX11_totalBy 67 = .ok (.if_icmp .ne 11, 3) := o_160 (by decide +kernel)
theorem dX11_totalBy_70 : decode cX11_totalBy 70 = .ok (.aload_n 0, 1) := o_42 (by decide +kernel)
theorem dX11_totalBy_71 : decode cX11_totalBy 71 = .ok (.getfield 21, 3) := o_180 (by decide +kernel)
theorem dX11_totalBy_74 : decode cX11_totalBy 74 = .ok (.iconst 5, 1) := o_8 (by decide +kernel)
theorem dX11_totalBy_75 : decode cX11_totalBy 75 = .ok (.invokevirtual 186, 3) := o_182 (by decide +kernel)
theorem dX11_totalBy_78 : decode cX11_totalBy 78 = .ok (.iload_n 1, 1) := o_27 (by decide +kernel)
theorem dX11_totalBy_79 : decode cX11_totalBy 79 = .ok (.ifCond .ne 24, 3) := o_154 (by decide +kernel)
theorem dX11_totalBy_82 : decode cX11_totalBy 82 = .ok (.iload 4, 2) := o_21 (by decide +kernel)
theorem dX11_totalBy_84 : decode cX11_totalBy 84 = .ok (.iconst 1, 1) := o_4 (by decide +kernel)
theorem dX11_totalBy_85 : decode cX11_totalBy 85 = .ok (.iadd, 1) := o_96 (by decide +kernel)
theorem dX11_totalBy_86 : decode cX11_totalBy 86 = .ok (.iload_n 3, 1) := o_29 (by decide +kernel)
theorem dX11_totalBy_87 : decode cX11_totalBy 87 = .ok (.invokestatic 241, 3) := o_184 (by decide +kernel)
theorem dX11_totalBy_90 : decode cX11_totalBy 90 = .ok (.ifCond .eq 13, 3) := o_153 (by decide +kernel)
theorem dX11_totalBy_93 : decode cX11_totalBy 93 = .ok (.aload_n 0, 1) := o_42 (by decide +kernel)
theorem dX11_totalBy_94 : decode cX11_totalBy 94 = .ok (.getfield 21, 3) := o_180 (by decide +kernel)
theorem dX11_totalBy_97 : decode cX11_totalBy 97 = .ok (.invokevirtual 183, 3) := o_182 (by decide +kernel)
theorem dX11_totalBy_100 : decode cX11_totalBy 100 = .ok (.goto 11, 3) := o_167 (by decide +kernel)
theorem dX11_totalBy_103 : decode cX11_totalBy 103 = .ok (.aload_n 0, 1) := o_42 (by decide +kernel)
theorem dX11_totalBy_104 : decode cX11_totalBy 104 = .ok (.getfield 21, 3) := o_180 (by decide +kernel)
theorem dX11_totalBy_107 : decode cX11_totalBy 107 = .ok (.invokevirtual 180, 3) := o_182 (by decide +kernel)
theorem dX11_totalBy_110 : decode cX11_totalBy 110 = .ok (.pop, 1) := o_87 (by decide +kernel)
theorem dX11_totalBy_111 : decode cX11_totalBy 111 = .ok (.iinc 4 1, 3) := o_132 (by decide +kernel)
theorem dX11_totalBy_114 : decode cX11_totalBy 114 = .ok (.goto (-61), 3) := o_167 (by decide +kernel)
theorem dX11_totalBy_117 : decode cX11_totalBy 117 = .ok (.aload_n 0, 1) := o_42 (by decide +kernel)
theorem dX11_totalBy_118 : decode cX11_totalBy 118 = .ok (.getfield 21, 3) := o_180 (by decide +kernel)
theorem dX11_totalBy_121 : decode cX11_totalBy 121 = .ok (.invokevirtual 199, 3) := o_182 (by decide +kernel)
theorem dX11_totalBy_124 : decode cX11_totalBy 124 = .ok (.ireturn, 1) := o_172 (by decide +kernel)
theorem dX11_whetsIn_0 : decode cX11_whetsIn 0 = .ok (.iload_n 1, 1) := o_27 (by decide +kernel)
theorem dX11_whetsIn_1 : decode cX11_whetsIn 1 = .ok (.iconst 1, 1) := o_4 (by decide +kernel)
theorem dX11_whetsIn_2 : decode cX11_whetsIn 2 = .ok (.if_icmp .lt 19, 3) := o_161 (by decide +kernel)
theorem dX11_whetsIn_5 : decode cX11_whetsIn 5 = .ok (.iload_n 1, 1) := o_27 (by decide +kernel)
theorem dX11_whetsIn_6 : decode cX11_whetsIn 6 = .ok (.bipush 16, 2) := o_16 (by decide +kernel)
theorem dX11_whetsIn_8 : decode cX11_whetsIn 8 = .ok (.if_icmp .ge 13, 3) := o_162 (by decide +kernel)
theorem dX11_whetsIn_11 : decode cX11_whetsIn 11 = .ok (.iload_n 0, 1) := o_26 (by decide +kernel)
theorem dX11_whetsIn_12 : decode cX11_whetsIn 12 = .ok (.iload_n 1, 1) := o_27 (by decide +kernel)
theorem dX11_whetsIn_13 : decode cX11_whetsIn 13 = .ok (.irem, 1) := o_112 (by decide +kernel)
theorem dX11_whetsIn_14 : decode cX11_whetsIn 14 = .ok (.ifCond .ne 7, 3) := o_154 (by decide +kernel)
theorem dX11_whetsIn_17 : decode cX11_whetsIn 17 = .ok (.iconst 1, 1) := o_4 (by decide +kernel)
theorem dX11_whetsIn_18 : decode cX11_whetsIn 18 = .ok (.goto 4, 3) := o_167 (by decide +kernel)
theorem dX11_whetsIn_21 : decode cX11_whetsIn 21 = .ok (.iconst 0, 1) := o_3 (by decide +kernel)
theorem dX11_whetsIn_22 : decode cX11_whetsIn 22 = .ok (.ireturn, 1) := o_172 (by decide +kernel)
theorem gt_wsX11_stop_wsX110 : GoodIn wsX11_stop wsX110 := fun w h => ⟨List.mem_cons_of_mem _ (List.mem_append_left _ (List.mem_append_left _ (List.mem_append_left _ (List.mem_append_left _ (List.mem_append_left _ (List.mem_append_left _ (List.mem_append_left _ (List.mem_append_left _ (List.mem_append_left _ (List.mem_append_right _ h)))))))))), good_of_word (gq_wsX110 w h)⟩
theorem gt_wsX11_stop_wsX10 : GoodIn wsX11_stop wsX10 := fun w h => ⟨List.mem_cons_of_mem _ (List.mem_append_left _ (List.mem_append_left _ (List.mem_append_left _ (List.mem_append_left _ (List.mem_append_left _ (List.mem_append_left _ (List.mem_append_left _ (List.mem_append_left _ (List.mem_append_right _ h))))))))), good_of_word (gq_wsX10 w h)⟩
set_option maxRecDepth 20000 in
theorem ggX11_stop_X11_isMower : GoodIn wsX11_stop wsX11_isMower := goodIn_ca (goodIn_ca (goodIn_s _ [(16, 1), (4, 1), (17, 1)] rfl (by decide +kernel)) gt_wsX11_stop_wsX110) gt_wsX11_stop_wsX10
set_option maxRecDepth 20000 in
theorem gX11_stop_X11_isMower : GoodIn wsX11_stop (wsV RX11 110 RX11 yX11_isMower wsX11_isMower) := goodIn_app (goodIn_of _ (by decide +kernel)) ggX11_stop_X11_isMower
set_option maxRecDepth 20000 in
theorem ggX11_stop_X1_becomes : GoodIn wsX11_stop wsX1_becomes := goodIn_ca (goodIn_s _ [(22, 14), (8, 3)] rfl (by decide +kernel)) gt_wsX11_stop_wsX10
set_option maxRecDepth 20000 in
theorem gX11_stop_X1_becomes : GoodIn wsX11_stop (wsV RX11 189 RX1 yX1_becomes wsX1_becomes) := goodIn_app (goodIn_of _ (by decide +kernel)) ggX11_stop_X1_becomes
theorem gt_wsX11_stop_wsX00 : GoodIn wsX11_stop wsX00 := fun w h => ⟨List.mem_cons_of_mem _ (List.mem_append_left _ (List.mem_append_left _ (List.mem_append_left _ (List.mem_append_left _ (List.mem_append_left _ (List.mem_append_left _ (List.mem_append_left _ (List.mem_append_right _ h)))))))), good_of_word (gq_wsX00 w h)⟩
theorem gt_wsX11_stop_wsX30 : GoodIn wsX11_stop wsX30 := fun w h => ⟨List.mem_cons_of_mem _ (List.mem_append_left _ (List.mem_append_left _ (List.mem_append_left _ (List.mem_append_left _ (List.mem_append_left _ (List.mem_append_left _ (List.mem_append_right _ h))))))), good_of_word (gq_wsX30 w h)⟩
theorem gt_wsX11_stop_wsX40 : GoodIn wsX11_stop wsX40 := fun w h => ⟨List.mem_cons_of_mem _ (List.mem_append_left _ (List.mem_append_left _ (List.mem_append_left _ (List.mem_append_left _ (List.mem_append_left _ (List.mem_append_right _ h)))))), good_of_word (gq_wsX40 w h)⟩
theorem gt_wsX11_stop_wsX60 : GoodIn wsX11_stop wsX60 := fun w h => ⟨List.mem_cons_of_mem _ (List.mem_append_left _ (List.mem_append_left _ (List.mem_append_left _ (List.mem_append_left _ (List.mem_append_right _ h))))), good_of_word (gq_wsX60 w h)⟩
theorem gt_wsX11_stop_wsX70 : GoodIn wsX11_stop wsX70 := fun w h => ⟨List.mem_cons_of_mem _ (List.mem_append_left _ (List.mem_append_left _ (List.mem_append_left _ (List.mem_append_right _ h)))), good_of_word (gq_wsX70 w h)⟩
theorem gt_wsX11_stop_wsX80 : GoodIn wsX11_stop wsX80 := fun w h => ⟨List.mem_cons_of_mem _ (List.mem_append_left _ (List.mem_append_left _ (List.mem_append_right _ h))), good_of_word (gq_wsX80 w h)⟩
theorem gt_wsX11_stop_wsX100 : GoodIn wsX11_stop wsX100 := fun w h => ⟨List.mem_cons_of_mem _ (List.mem_append_left _ (List.mem_append_right _ h)), good_of_word (gq_wsX100 w h)⟩
theorem gt_wsX11_stop_wsX20 : GoodIn wsX11_stop wsX20 := fun w h => ⟨List.mem_cons_of_mem _ (List.mem_append_right _ h), good_of_word (gq_wsX20 w h)⟩
set_option maxRecDepth 20000 in
theorem ggX11_stop_X1_goes : GoodIn wsX11_stop wsX1_goes := goodIn_ca (goodIn_ca (goodIn_ca (goodIn_ca (goodIn_ca (goodIn_ca (goodIn_ca (goodIn_ca (goodIn_ca (goodIn_s _ [(39, 4), (21, 1), (43, 1), (24, 1), (44, 1), (29, 1), (33, 1), (30, 1), (25, 1), (45, 4), (28, 1), (31, 1), (49, 6), (32, 1), (26, 1), (55, 69), (27, 1), (124, 29)] rfl (by decide +kernel)) gt_wsX11_stop_wsX10) gt_wsX11_stop_wsX00) gt_wsX11_stop_wsX30) gt_wsX11_stop_wsX40) gt_wsX11_stop_wsX60) gt_wsX11_stop_wsX70) gt_wsX11_stop_wsX80) gt_wsX11_stop_wsX100) gt_wsX11_stop_wsX20
set_option maxRecDepth 20000 in
theorem gX11_stop_X1_goes : GoodIn wsX11_stop (wsV RX11 196 RX1 yX1_goes wsX1_goes) := goodIn_app (goodIn_of _ (by decide +kernel)) ggX11_stop_X1_goes
set_option maxRecDepth 20000 in
theorem ggX11_stop_X1_allAt : GoodIn wsX11_stop wsX1_allAt := goodIn_ca (goodIn_s _ [(156, 1), (23, 1), (30, 1)] rfl (by decide +kernel)) gt_wsX11_stop_wsX10
set_option maxRecDepth 20000 in
theorem gX11_stop_X1_allAt : GoodIn wsX11_stop (wsV RX11 199 RX1 yX1_allAt wsX1_allAt) := goodIn_app (goodIn_of _ (by decide +kernel)) ggX11_stop_X1_allAt
set_option maxRecDepth 20000 in
theorem ggX11_stop_X11_hits : GoodIn wsX11_stop wsX11_hits := goodIn_ca (goodIn_ca (goodIn_s _ [(160, 1), (3, 1), (17, 1), (5, 2)] rfl (by decide +kernel)) gt_wsX11_stop_wsX110) gt_wsX11_stop_wsX10
set_option maxRecDepth 20000 in
theorem gX11_stop_X11_hits : GoodIn wsX11_stop (wsV RX11 247 RX11 yX11_hits wsX11_hits) := goodIn_app (goodIn_of _ (by decide +kernel)) ggX11_stop_X11_hits
theorem dX11_stop_0 : decode cX11_stop 0 = .ok (.aload_n 0, 1) := o_42 (by decide +kernel)
theorem dX11_stop_1 : decode cX11_stop 1 = .ok (.iload_n 1, 1) := o_27 (by decide +kernel)
theorem dX11_stop_2 : decode cX11_stop 2 = .ok (.invokevirtual 110, 3) := o_182 (by decide +kernel)
theorem dX11_stop_5 : decode cX11_stop 5 = .ok (.ifCond .eq 14, 3) := o_153 (by decide +kernel)
theorem dX11_stop_8 : decode cX11_stop 8 = .ok (.iload 4, 2) := o_21 (by decide +kernel)
theorem dX11_stop_10 : decode cX11_stop 10 = .ok (.ifCond .eq 12, 3) := o_153 (by decide +kernel)
theorem dX11_stop_13 : decode cX11_stop 13 = .ok (.iload 4, 2) := o_21 (by decide +kernel)
theorem dX11_stop_15 : decode cX11_stop 15 = .ok (.iconst 1, 1) := o_4 (by decide +kernel)
theorem dX11_stop_16 : decode cX11_stop 16 = .ok (.if_icmp .eq 6, 3) := o_159 (by decide +kernel)
theorem dX11_stop_19 : decode cX11_stop 19 = .ok (.ldc 245, 2) := o_18 (by decide +kernel)
theorem dX11_stop_21 : decode cX11_stop 21 = .ok (.ireturn, 1) := o_172 (by decide +kernel)
theorem dX11_stop_22 : decode cX11_stop 22 = .ok (.iload_n 2, 1) := o_28 (by decide +kernel)
theorem dX11_stop_23 : decode cX11_stop 23 = .ok (.iconst 1, 1) := o_4 (by decide +kernel)
theorem dX11_stop_24 : decode cX11_stop 24 = .ok (.if_icmp .lt 20, 3) := o_161 (by decide +kernel)
theorem dX11_stop_27 : decode cX11_stop 27 = .ok (.iload_n 2, 1) := o_28 (by decide +kernel)
theorem dX11_stop_28 : decode cX11_stop 28 = .ok (.bipush 20, 2) := o_16 (by decide +kernel)
theorem dX11_stop_30 : decode cX11_stop 30 = .ok (.if_icmp .gt 14, 3) := o_163 (by decide +kernel)
theorem dX11_stop_33 : decode cX11_stop 33 = .ok (.iload_n 3, 1) := o_29 (by decide +kernel)
theorem dX11_stop_34 : decode cX11_stop 34 = .ok (.iconst 1, 1) := o_4 (by decide +kernel)
theorem dX11_stop_35 : decode cX11_stop 35 = .ok (.if_icmp .lt 9, 3) := o_161 (by decide +kernel)
theorem dX11_stop_38 : decode cX11_stop 38 = .ok (.iload_n 3, 1) := o_29 (by decide +kernel)
theorem dX11_stop_39 : decode cX11_stop 39 = .ok (.bipush 60, 2) := o_16 (by decide +kernel)
theorem dX11_stop_41 : decode cX11_stop 41 = .ok (.if_icmp .le 6, 3) := o_164 (by decide +kernel)
theorem dX11_stop_44 : decode cX11_stop 44 = .ok (.ldc 246, 2) := o_18 (by decide +kernel)
theorem dX11_stop_46 : decode cX11_stop 46 = .ok (.ireturn, 1) := o_172 (by decide +kernel)
theorem dX11_stop_47 : decode cX11_stop 47 = .ok (.aload_n 0, 1) := o_42 (by decide +kernel)
theorem dX11_stop_48 : decode cX11_stop 48 = .ok (.getfield 21, 3) := o_180 (by decide +kernel)
theorem dX11_stop_51 : decode cX11_stop 51 = .ok (.aload_n 0, 1) := o_42 (by decide +kernel)
theorem dX11_stop_52 : decode cX11_stop 52 = .ok (.getfield 12, 3) := o_180 (by decide +kernel)
theorem dX11_stop_55 : decode cX11_stop 55 = .ok (.invokevirtual 189, 3) := o_182 (by decide +kernel)
theorem dX11_stop_58 : decode cX11_stop 58 = .ok (.aload_n 0, 1) := o_42 (by decide +kernel)
theorem dX11_stop_59 : decode cX11_stop 59 = .ok (.getfield 21, 3) := o_180 (by decide +kernel)
theorem dX11_stop_62 : decode cX11_stop 62 = .ok (.iload_n 3, 1) := o_29 (by decide +kernel)
theorem dX11_stop_63 : decode cX11_stop 63 = .ok (.invokevirtual 196, 3) := o_182 (by decide +kernel)
theorem dX11_stop_66 : decode cX11_stop 66 = .ok (.aload_n 0, 1) := o_42 (by decide +kernel)
theorem dX11_stop_67 : decode cX11_stop 67 = .ok (.getfield 21, 3) := o_180 (by decide +kernel)
theorem dX11_stop_70 : decode cX11_stop 70 = .ok (.invokevirtual 199, 3) := o_182 (by decide +kernel)
theorem dX11_stop_73 : decode cX11_stop 73 = .ok (.istore 5, 2) := o_54 (by decide +kernel)
theorem dX11_stop_75 : decode cX11_stop 75 = .ok (.aload_n 0, 1) := o_42 (by decide +kernel)
theorem dX11_stop_76 : decode cX11_stop 76 = .ok (.getfield 21, 3) := o_180 (by decide +kernel)
theorem dX11_stop_79 : decode cX11_stop 79 = .ok (.getfield 124, 3) := o_180 (by decide +kernel)
theorem dX11_stop_82 : decode cX11_stop 82 = .ok (.iconst 0, 1) := o_3 (by decide +kernel)
theorem dX11_stop_83 : decode cX11_stop 83 = .ok (.aload_n 0, 1) := o_42 (by decide +kernel)
theorem dX11_stop_84 : decode cX11_stop 84 = .ok (.getfield 67, 3) := o_180 (by decide +kernel)
theorem dX11_stop_87 : decode cX11_stop 87 = .ok (.iconst 0, 1) := o_3 (by decide +kernel)
theorem dX11_stop_88 : decode cX11_stop 88 = .ok (.bipush 6, 2) := o_16 (by decide +kernel)
theorem dX11_stop_90 : decode cX11_stop 90 = .ok (.invokestatic 217, 3) := o_184 (by decide +kernel)
theorem dX11_stop_93 : decode cX11_stop 93 = .ok (.aload_n 0, 1) := o_42 (by decide +kernel)
theorem dX11_stop_94 : decode cX11_stop 94 = .ok (.getfield 21, 3) := o_180 (by decide +kernel)
theorem dX11_stop_97 : decode cX11_stop 97 = .ok (.aload_n 0, 1) := o_42 (by decide +kernel)
theorem dX11_stop_98 : decode cX11_stop 98 = .ok (.getfield 12, 3) := o_180 (by decide +kernel)
theorem dX11_stop_101 : decode cX11_stop 101 = .ok (.invokevirtual 189, 3) := o_182 (by decide +kernel)
theorem dX11_stop_104 : decode cX11_stop 104 = .ok (.aload_n 0, 1) := o_42 (by decide +kernel)
theorem dX11_stop_105 : decode cX11_stop 105 = .ok (.getfield 21, 3) := o_180 (by decide +kernel)
theorem dX11_stop_108 : decode cX11_stop 108 = .ok (.getfield 133, 3) := o_180 (by decide +kernel)
theorem dX11_stop_111 : decode cX11_stop 111 = .ok (.iload_n 1, 1) := o_27 (by decide +kernel)
theorem dX11_stop_112 : decode cX11_stop 112 = .ok (.dup2, 1) := o_92 (by decide +kernel)
theorem dX11_stop_113 : decode cX11_stop 113 = .ok (.iaload, 1) := o_46 (by decide +kernel)
theorem dX11_stop_114 : decode cX11_stop 114 = .ok (.iload_n 2, 1) := o_28 (by decide +kernel)
theorem dX11_stop_115 : decode cX11_stop 115 = .ok (.iadd, 1) := o_96 (by decide +kernel)
theorem dX11_stop_116 : decode cX11_stop 116 = .ok (.iastore, 1) := o_79 (by decide +kernel)
theorem dX11_stop_117 : decode cX11_stop 117 = .ok (.aload_n 0, 1) := o_42 (by decide +kernel)
theorem dX11_stop_118 : decode cX11_stop 118 = .ok (.getfield 21, 3) := o_180 (by decide +kernel)
theorem dX11_stop_121 : decode cX11_stop 121 = .ok (.iload_n 3, 1) := o_29 (by decide +kernel)
theorem dX11_stop_122 : decode cX11_stop 122 = .ok (.invokevirtual 196, 3) := o_182 (by decide +kernel)
theorem dX11_stop_125 : decode cX11_stop 125 = .ok (.iload 4, 2) := o_21 (by decide +kernel)
theorem dX11_stop_127 : decode cX11_stop 127 = .ok (.ifCond .ne 16, 3) := o_154 (by decide +kernel)
theorem dX11_stop_130 : decode cX11_stop 130 = .ok (.iload 5, 2) := o_21 (by decide +kernel)
theorem dX11_stop_132 : decode cX11_stop 132 = .ok (.aload_n 0, 1) := o_42 (by decide +kernel)
theorem dX11_stop_133 : decode cX11_stop 133 = .ok (.getfield 21, 3) := o_180 (by decide +kernel)
theorem dX11_stop_136 : decode cX11_stop 136 = .ok (.invokevirtual 199, 3) := o_182 (by decide +kernel)
theorem dX11_stop_139 : decode cX11_stop 139 = .ok (.isub, 1) := o_100 (by decide +kernel)
theorem dX11_stop_140 : decode cX11_stop 140 = .ok (.goto 8, 3) := o_167 (by decide +kernel)
theorem dX11_stop_143 : decode cX11_stop 143 = .ok (.aload_n 0, 1) := o_42 (by decide +kernel)
theorem dX11_stop_144 : decode cX11_stop 144 = .ok (.iload_n 1, 1) := o_27 (by decide +kernel)
theorem dX11_stop_145 : decode cX11_stop 145 = .ok (.invokevirtual 247, 3) := o_182 (by decide +kernel)
theorem dX11_stop_148 : decode cX11_stop 148 = .ok (.ireturn, 1) := o_172 (by decide +kernel)
theorem dX11_hits_0 : decode cX11_hits 0 = .ok (.iconst 0, 1) := o_3 (by decide +kernel)
theorem dX11_hits_1 : decode cX11_hits 1 = .ok (.istore_n 2, 1) := o_61 (by decide +kernel)
theorem dX11_hits_2 : decode cX11_hits 2 = .ok (.iconst 0, 1) := o_3 (by decide +kernel)
theorem dX11_hits_3 : decode cX11_hits 3 = .ok (.istore_n 3, 1) := o_62 (by decide +kernel)
theorem dX11_hits_4 : decode cX11_hits 4 = .ok (.iload_n 3, 1) := o_29 (by decide +kernel)
theorem dX11_hits_5 : decode cX11_hits 5 = .ok (.aload_n 0, 1) := o_42 (by decide +kernel)
theorem dX11_hits_6 : decode cX11_hits 6 = .ok (.getfield 21, 3) := o_180 (by decide +kernel)
theorem dX11_hits_9 : decode cX11_hits 9 = .ok (.getfield 76, 3) := o_180 (by decide +kernel)
theorem dX11_hits_12 : decode cX11_hits 12 = .ok (.if_icmp .ge 38, 3) := o_162 (by decide +kernel)
theorem dX11_hits_15 : decode cX11_hits 15 = .ok (.iload_n 3, 1) := o_29 (by decide +kernel)
theorem dX11_hits_16 : decode cX11_hits 16 = .ok (.iload_n 1, 1) := o_27 (by decide +kernel)
theorem dX11_hits_17 : decode cX11_hits 17 = .ok (.if_icmp .eq 27, 3) := o_159 (by decide +kernel)
theorem dX11_hits_20 : decode cX11_hits 20 = .ok (.aload_n 0, 1) := o_42 (by decide +kernel)
theorem dX11_hits_21 : decode cX11_hits 21 = .ok (.getfield 21, 3) := o_180 (by decide +kernel)
theorem dX11_hits_24 : decode cX11_hits 24 = .ok (.getfield 124, 3) := o_180 (by decide +kernel)
theorem dX11_hits_27 : decode cX11_hits 27 = .ok (.iload_n 3, 1) := o_29 (by decide +kernel)
theorem dX11_hits_28 : decode cX11_hits 28 = .ok (.iaload, 1) := o_46 (by decide +kernel)
theorem dX11_hits_29 : decode cX11_hits 29 = .ok (.aload_n 0, 1) := o_42 (by decide +kernel)
theorem dX11_hits_30 : decode cX11_hits 30 = .ok (.getfield 67, 3) := o_180 (by decide +kernel)
theorem dX11_hits_33 : decode cX11_hits 33 = .ok (.iload_n 3, 1) := o_29 (by decide +kernel)
theorem dX11_hits_34 : decode cX11_hits 34 = .ok (.iaload, 1) := o_46 (by decide +kernel)
theorem dX11_hits_35 : decode cX11_hits 35 = .ok (.if_icmp .ge 9, 3) := o_162 (by decide +kernel)
theorem dX11_hits_38 : decode cX11_hits 38 = .ok (.iload_n 2, 1) := o_28 (by decide +kernel)
theorem dX11_hits_39 : decode cX11_hits 39 = .ok (.iconst 1, 1) := o_4 (by decide +kernel)
theorem dX11_hits_40 : decode cX11_hits 40 = .ok (.iload_n 3, 1) := o_29 (by decide +kernel)
theorem dX11_hits_41 : decode cX11_hits 41 = .ok (.ishl, 1) := o_120 (by decide +kernel)
theorem dX11_hits_42 : decode cX11_hits 42 = .ok (.ior, 1) := o_128 (by decide +kernel)
theorem dX11_hits_43 : decode cX11_hits 43 = .ok (.istore_n 2, 1) := o_61 (by decide +kernel)
theorem dX11_hits_44 : decode cX11_hits 44 = .ok (.iinc 3 1, 3) := o_132 (by decide +kernel)
theorem dX11_hits_47 : decode cX11_hits 47 = .ok (.goto (-43), 3) := o_167 (by decide +kernel)
theorem dX11_hits_50 : decode cX11_hits 50 = .ok (.iload_n 2, 1) := o_28 (by decide +kernel)
theorem dX11_hits_51 : decode cX11_hits 51 = .ok (.ireturn, 1) := o_172 (by decide +kernel)
theorem gt_wsX11_alone_wsX10 : GoodIn wsX11_alone wsX10 := fun w h => ⟨List.mem_cons_of_mem _ (List.mem_append_left _ (List.mem_append_left _ (List.mem_append_left _ (List.mem_append_left _ (List.mem_append_left _ (List.mem_append_left _ (List.mem_append_left _ (List.mem_append_left _ (List.mem_append_right _ h))))))))), good_of_word (gq_wsX10 w h)⟩
set_option maxRecDepth 20000 in
theorem ggX11_alone_X1_becomes : GoodIn wsX11_alone wsX1_becomes := goodIn_ca (goodIn_s _ [(12, 17)] rfl (by decide +kernel)) gt_wsX11_alone_wsX10
set_option maxRecDepth 20000 in
theorem gX11_alone_X1_becomes : GoodIn wsX11_alone (wsV RX11 189 RX1 yX1_becomes wsX1_becomes) := goodIn_app (goodIn_of _ (by decide +kernel)) ggX11_alone_X1_becomes
theorem gt_wsX11_alone_wsX00 : GoodIn wsX11_alone wsX00 := fun w h => ⟨List.mem_cons_of_mem _ (List.mem_append_left _ (List.mem_append_left _ (List.mem_append_left _ (List.mem_append_left _ (List.mem_append_left _ (List.mem_append_left _ (List.mem_append_left _ (List.mem_append_right _ h)))))))), good_of_word (gq_wsX00 w h)⟩
theorem gt_wsX11_alone_wsX30 : GoodIn wsX11_alone wsX30 := fun w h => ⟨List.mem_cons_of_mem _ (List.mem_append_left _ (List.mem_append_left _ (List.mem_append_left _ (List.mem_append_left _ (List.mem_append_left _ (List.mem_append_left _ (List.mem_append_right _ h))))))), good_of_word (gq_wsX30 w h)⟩
theorem gt_wsX11_alone_wsX40 : GoodIn wsX11_alone wsX40 := fun w h => ⟨List.mem_cons_of_mem _ (List.mem_append_left _ (List.mem_append_left _ (List.mem_append_left _ (List.mem_append_left _ (List.mem_append_left _ (List.mem_append_right _ h)))))), good_of_word (gq_wsX40 w h)⟩
theorem gt_wsX11_alone_wsX60 : GoodIn wsX11_alone wsX60 := fun w h => ⟨List.mem_cons_of_mem _ (List.mem_append_left _ (List.mem_append_left _ (List.mem_append_left _ (List.mem_append_left _ (List.mem_append_right _ h))))), good_of_word (gq_wsX60 w h)⟩
theorem gt_wsX11_alone_wsX70 : GoodIn wsX11_alone wsX70 := fun w h => ⟨List.mem_cons_of_mem _ (List.mem_append_left _ (List.mem_append_left _ (List.mem_append_left _ (List.mem_append_right _ h)))), good_of_word (gq_wsX70 w h)⟩
theorem gt_wsX11_alone_wsX80 : GoodIn wsX11_alone wsX80 := fun w h => ⟨List.mem_cons_of_mem _ (List.mem_append_left _ (List.mem_append_left _ (List.mem_append_right _ h))), good_of_word (gq_wsX80 w h)⟩
theorem gt_wsX11_alone_wsX100 : GoodIn wsX11_alone wsX100 := fun w h => ⟨List.mem_cons_of_mem _ (List.mem_append_left _ (List.mem_append_right _ h)), good_of_word (gq_wsX100 w h)⟩
theorem gt_wsX11_alone_wsX20 : GoodIn wsX11_alone wsX20 := fun w h => ⟨List.mem_cons_of_mem _ (List.mem_append_right _ h), good_of_word (gq_wsX20 w h)⟩
set_option maxRecDepth 20000 in
theorem ggX11_alone_X1_goes : GoodIn wsX11_alone wsX1_goes := goodIn_ca (goodIn_ca (goodIn_ca (goodIn_ca (goodIn_ca (goodIn_ca (goodIn_ca (goodIn_ca (goodIn_ca (goodIn_s _ [(32, 4), (11, 1), (36, 1), (14, 1), (37, 1), (19, 1), (23, 1), (20, 1), (15, 1), (38, 4), (18, 1), (21, 1), (42, 6), (22, 1), (16, 1), (48, 69), (17, 1), (117, 29)] rfl (by decide +kernel)) gt_wsX11_alone_wsX10) gt_wsX11_alone_wsX00) gt_wsX11_alone_wsX30) gt_wsX11_alone_wsX40) gt_wsX11_alone_wsX60) gt_wsX11_alone_wsX70) gt_wsX11_alone_wsX80) gt_wsX11_alone_wsX100) gt_wsX11_alone_wsX20
set_option maxRecDepth 20000 in
theorem gX11_alone_X1_goes : GoodIn wsX11_alone (wsV RX11 196 RX1 yX1_goes wsX1_goes) := goodIn_app (goodIn_of _ (by decide +kernel)) ggX11_alone_X1_goes
set_option maxRecDepth 20000 in
theorem ggX11_alone_X1_allAt : GoodIn wsX11_alone wsX1_allAt := goodIn_ca (goodIn_s _ [(149, 1), (13, 1), (20, 1)] rfl (by decide +kernel)) gt_wsX11_alone_wsX10
set_option maxRecDepth 20000 in
theorem gX11_alone_X1_allAt : GoodIn wsX11_alone (wsV RX11 199 RX1 yX1_allAt wsX1_allAt) := goodIn_app (goodIn_of _ (by decide +kernel)) ggX11_alone_X1_allAt
theorem dX11_alone_0 : decode cX11_alone 0 = .ok (.iload_n 1, 1) := o_27 (by decide +kernel)
theorem dX11_alone_1 : decode cX11_alone 1 = .ok (.iconst 1, 1) := o_4 (by decide +kernel)
theorem dX11_alone_2 : decode cX11_alone 2 = .ok (.if_icmp .lt 9, 3) := o_161 (by decide +kernel)
theorem dX11_alone_5 : decode cX11_alone 5 = .ok (.iload_n 1, 1) := o_27 (by decide +kernel)
theorem dX11_alone_6 : decode cX11_alone 6 = .ok (.bipush 60, 2) := o_16 (by decide +kernel)
theorem dX11_alone_8 : decode cX11_alone 8 = .ok (.if_icmp .le 6, 3) := o_164 (by decide +kernel)
theorem dX11_alone_11 : decode cX11_alone 11 = .ok (.ldc 246, 2) := o_18 (by decide +kernel)
theorem dX11_alone_13 : decode cX11_alone 13 = .ok (.ireturn, 1) := o_172 (by decide +kernel)
theorem dX11_alone_14 : decode cX11_alone 14 = .ok (.aload_n 0, 1) := o_42 (by decide +kernel)
theorem dX11_alone_15 : decode cX11_alone 15 = .ok (.getfield 21, 3) := o_180 (by decide +kernel)
theorem dX11_alone_18 : decode cX11_alone 18 = .ok (.aload_n 0, 1) := o_42 (by decide +kernel)
theorem dX11_alone_19 : decode cX11_alone 19 = .ok (.getfield 12, 3) := o_180 (by decide +kernel)
theorem dX11_alone_22 : decode cX11_alone 22 = .ok (.invokevirtual 189, 3) := o_182 (by decide +kernel)
theorem dX11_alone_25 : decode cX11_alone 25 = .ok (.aload_n 0, 1) := o_42 (by decide +kernel)
theorem dX11_alone_26 : decode cX11_alone 26 = .ok (.getfield 21, 3) := o_180 (by decide +kernel)
theorem dX11_alone_29 : decode cX11_alone 29 = .ok (.iload_n 1, 1) := o_27 (by decide +kernel)
theorem dX11_alone_30 : decode cX11_alone 30 = .ok (.invokevirtual 196, 3) := o_182 (by decide +kernel)
theorem dX11_alone_33 : decode cX11_alone 33 = .ok (.aload_n 0, 1) := o_42 (by decide +kernel)
theorem dX11_alone_34 : decode cX11_alone 34 = .ok (.getfield 21, 3) := o_180 (by decide +kernel)
theorem dX11_alone_37 : decode cX11_alone 37 = .ok (.invokevirtual 199, 3) := o_182 (by decide +kernel)
theorem dX11_alone_40 : decode cX11_alone 40 = .ok (.istore_n 2, 1) := o_61 (by decide +kernel)
theorem dX11_alone_41 : decode cX11_alone 41 = .ok (.iconst 0, 1) := o_3 (by decide +kernel)
theorem dX11_alone_42 : decode cX11_alone 42 = .ok (.istore_n 3, 1) := o_62 (by decide +kernel)
theorem dX11_alone_43 : decode cX11_alone 43 = .ok (.iload_n 3, 1) := o_29 (by decide +kernel)
theorem dX11_alone_44 : decode cX11_alone 44 = .ok (.aload_n 0, 1) := o_42 (by decide +kernel)
theorem dX11_alone_45 : decode cX11_alone 45 = .ok (.getfield 12, 3) := o_180 (by decide +kernel)
theorem dX11_alone_48 : decode cX11_alone 48 = .ok (.getfield 76, 3) := o_180 (by decide +kernel)
theorem dX11_alone_51 : decode cX11_alone 51 = .ok (.if_icmp .ge 58, 3) := o_162 (by decide +kernel)
theorem dX11_alone_54 : decode cX11_alone 54 = .ok (.aload_n 0, 1) := o_42 (by decide +kernel)
theorem dX11_alone_55 : decode cX11_alone 55 = .ok (.getfield 21, 3) := o_180 (by decide +kernel)
theorem dX11_alone_58 : decode cX11_alone 58 = .ok (.aload_n 0, 1) := o_42 (by decide +kernel)
theorem dX11_alone_59 : decode cX11_alone 59 = .ok (.getfield 12, 3) := o_180 (by decide +kernel)
theorem dX11_alone_62 : decode cX11_alone 62 = .ok (.invokevirtual 189, 3) := o_182 (by decide +kernel)
theorem dX11_alone_65 : decode cX11_alone 65 = .ok (.aload_n 0, 1) := o_42 (by decide +kernel)
theorem dX11_alone_66 : decode cX11_alone 66 = .ok (.getfield 21, 3) := o_180 (by decide +kernel)
theorem dX11_alone_69 : decode cX11_alone 69 = .ok (.getfield 177, 3) := o_180 (by decide +kernel)
theorem dX11_alone_72 : decode cX11_alone 72 = .ok (.iconst 0, 1) := o_3 (by decide +kernel)
theorem dX11_alone_73 : decode cX11_alone 73 = .ok (.iload_n 3, 1) := o_29 (by decide +kernel)
theorem dX11_alone_74 : decode cX11_alone 74 = .ok (.iastore, 1) := o_79 (by decide +kernel)
theorem dX11_alone_75 : decode cX11_alone 75 = .ok (.aload_n 0, 1) := o_42 (by decide +kernel)
theorem dX11_alone_76 : decode cX11_alone 76 = .ok (.getfield 21, 3) := o_180 (by decide +kernel)
theorem dX11_alone_79 : decode cX11_alone 79 = .ok (.iconst 1, 1) := o_4 (by decide +kernel)
theorem dX11_alone_80 : decode cX11_alone 80 = .ok (.putfield 250, 3) := o_181 (by decide +kernel)
theorem dX11_alone_83 : decode cX11_alone 83 = .ok (.aload_n 0, 1) := o_42 (by decide +kernel)
theorem dX11_alone_84 : decode cX11_alone 84 = .ok (.getfield 21, 3) := o_180 (by decide +kernel)
theorem dX11_alone_87 : decode cX11_alone 87 = .ok (.iload_n 1, 1) := o_27 (by decide +kernel)
theorem dX11_alone_88 : decode cX11_alone 88 = .ok (.invokevirtual 196, 3) := o_182 (by decide +kernel)
theorem dX11_alone_91 : decode cX11_alone 91 = .ok (.iload_n 2, 1) := o_28 (by decide +kernel)
theorem dX11_alone_92 : decode cX11_alone 92 = .ok (.aload_n 0, 1) := o_42 (by decide +kernel)
theorem dX11_alone_93 : decode cX11_alone 93 = .ok (.getfield 21, 3) := o_180 (by decide +kernel)
theorem dX11_alone_96 : decode cX11_alone 96 = .ok (.getfield 124, 3) := o_180 (by decide +kernel)
theorem dX11_alone_99 : decode cX11_alone 99 = .ok (.iload_n 3, 1) := o_29 (by decide +kernel)
theorem dX11_alone_100 : decode cX11_alone 100 = .ok (.iaload, 1) := o_46 (by decide +kernel)
theorem dX11_alone_101 : decode cX11_alone 101 = .ok (.isub, 1) := o_100 (by decide +kernel)
theorem dX11_alone_102 : decode cX11_alone 102 = .ok (.istore_n 2, 1) := o_61 (by decide +kernel)
theorem dX11_alone_103 : decode cX11_alone 103 = .ok (.iinc 3 1, 3) := o_132 (by decide +kernel)
theorem dX11_alone_106 : decode cX11_alone 106 = .ok (.goto (-63), 3) := o_167 (by decide +kernel)
theorem dX11_alone_109 : decode cX11_alone 109 = .ok (.iload_n 2, 1) := o_28 (by decide +kernel)
theorem dX11_alone_110 : decode cX11_alone 110 = .ok (.ireturn, 1) := o_172 (by decide +kernel)
theorem gt_wsX11_rest_wsX110 : GoodIn wsX11_rest wsX110 := fun w h => ⟨List.mem_cons_of_mem _ (List.mem_append_left _ (List.mem_append_left _ (List.mem_append_left _ (List.mem_append_left _ (List.mem_append_left _ (List.mem_append_left _ (List.mem_append_left _ (List.mem_append_left _ (List.mem_append_left _ (List.mem_append_right _ h)))))))))), good_of_word (gq_wsX110 w h)⟩
theorem gt_wsX11_rest_wsX10 : GoodIn wsX11_rest wsX10 := fun w h => ⟨List.mem_cons_of_mem _ (List.mem_append_left _ (List.mem_append_left _ (List.mem_append_left _ (List.mem_append_left _ (List.mem_append_left _ (List.mem_append_left _ (List.mem_append_left _ (List.mem_append_left _ (List.mem_append_right _ h))))))))), good_of_word (gq_wsX10 w h)⟩
theorem gt_wsX11_rest_wsX00 : GoodIn wsX11_rest wsX00 := fun w h => ⟨List.mem_cons_of_mem _ (List.mem_append_left _ (List.mem_append_left _ (List.mem_append_left _ (List.mem_append_left _ (List.mem_append_left _ (List.mem_append_left _ (List.mem_append_left _ (List.mem_append_right _ h)))))))), good_of_word (gq_wsX00 w h)⟩
theorem gt_wsX11_rest_wsX30 : GoodIn wsX11_rest wsX30 := fun w h => ⟨List.mem_cons_of_mem _ (List.mem_append_left _ (List.mem_append_left _ (List.mem_append_left _ (List.mem_append_left _ (List.mem_append_left _ (List.mem_append_left _ (List.mem_append_right _ h))))))), good_of_word (gq_wsX30 w h)⟩
theorem gt_wsX11_rest_wsX40 : GoodIn wsX11_rest wsX40 := fun w h => ⟨List.mem_cons_of_mem _ (List.mem_append_left _ (List.mem_append_left _ (List.mem_append_left _ (List.mem_append_left _ (List.mem_append_left _ (List.mem_append_right _ h)))))), good_of_word (gq_wsX40 w h)⟩
theorem gt_wsX11_rest_wsX60 : GoodIn wsX11_rest wsX60 := fun w h => ⟨List.mem_cons_of_mem _ (List.mem_append_left _ (List.mem_append_left _ (List.mem_append_left _ (List.mem_append_left _ (List.mem_append_right _ h))))), good_of_word (gq_wsX60 w h)⟩
theorem gt_wsX11_rest_wsX70 : GoodIn wsX11_rest wsX70 := fun w h => ⟨List.mem_cons_of_mem _ (List.mem_append_left _ (List.mem_append_left _ (List.mem_append_left _ (List.mem_append_right _ h)))), good_of_word (gq_wsX70 w h)⟩
theorem gt_wsX11_rest_wsX80 : GoodIn wsX11_rest wsX80 := fun w h => ⟨List.mem_cons_of_mem _ (List.mem_append_left _ (List.mem_append_left _ (List.mem_append_right _ h))), good_of_word (gq_wsX80 w h)⟩
theorem gt_wsX11_rest_wsX100 : GoodIn wsX11_rest wsX100 := fun w h => ⟨List.mem_cons_of_mem _ (List.mem_append_left _ (List.mem_append_right _ h)), good_of_word (gq_wsX100 w h)⟩
theorem gt_wsX11_rest_wsX20 : GoodIn wsX11_rest wsX20 := fun w h => ⟨List.mem_cons_of_mem _ (List.mem_append_right _ h), good_of_word (gq_wsX20 w h)⟩
set_option maxRecDepth 20000 in
theorem ggX11_rest_X11_mostBy : GoodIn wsX11_rest wsX11_mostBy := goodIn_ca (goodIn_ca (goodIn_ca (goodIn_ca (goodIn_ca (goodIn_ca (goodIn_ca (goodIn_ca (goodIn_ca (goodIn_ca (goodIn_s _ [(7, 4), (6, 1), (11, 2), (1, 1), (13, 27), (2, 1), (40, 132)] rfl (by decide +kernel)) gt_wsX11_rest_wsX110) gt_wsX11_rest_wsX10) gt_wsX11_rest_wsX00) gt_wsX11_rest_wsX30) gt_wsX11_rest_wsX40) gt_wsX11_rest_wsX60) gt_wsX11_rest_wsX70) gt_wsX11_rest_wsX80) gt_wsX11_rest_wsX100) gt_wsX11_rest_wsX20
set_option maxRecDepth 20000 in
theorem gX11_rest_X11_mostBy : GoodIn wsX11_rest (wsV RX11 230 RX11 yX11_mostBy wsX11_mostBy) := goodIn_app (goodIn_of _ (by decide +kernel)) ggX11_rest_X11_mostBy
set_option maxRecDepth 20000 in
theorem ggX11_rest_X11_totalBy : GoodIn wsX11_rest wsX11_totalBy := goodIn_ca (goodIn_ca (goodIn_ca (goodIn_ca (goodIn_ca (goodIn_ca (goodIn_ca (goodIn_ca (goodIn_ca (goodIn_ca (goodIn_s _ [(11, 2), (1, 1), (13, 26), (6, 1), (39, 1), (2, 1), (40, 132)] rfl (by decide +kernel)) gt_wsX11_rest_wsX110) gt_wsX11_rest_wsX10) gt_wsX11_rest_wsX00) gt_wsX11_rest_wsX30) gt_wsX11_rest_wsX40) gt_wsX11_rest_wsX60) gt_wsX11_rest_wsX70) gt_wsX11_rest_wsX80) gt_wsX11_rest_wsX100) gt_wsX11_rest_wsX20
set_option maxRecDepth 20000 in
theorem gX11_rest_X11_totalBy : GoodIn wsX11_rest (wsV RX11 234 RX11 yX11_totalBy wsX11_totalBy) := goodIn_app (goodIn_of _ (by decide +kernel)) ggX11_rest_X11_totalBy
theorem dX11_rest_0 : decode cX11_rest 0 = .ok (.iload_n 2, 1) := o_28 (by decide +kernel)
theorem dX11_rest_1 : decode cX11_rest 1 = .ok (.ifCond .eq 10, 3) := o_153 (by decide +kernel)
theorem dX11_rest_4 : decode cX11_rest 4 = .ok (.iload_n 2, 1) := o_28 (by decide +kernel)
theorem dX11_rest_5 : decode cX11_rest 5 = .ok (.iconst 1, 1) := o_4 (by decide +kernel)
theorem dX11_rest_6 : decode cX11_rest 6 = .ok (.if_icmp .eq 5, 3) := o_159 (by decide +kernel)
theorem dX11_rest_9 : decode cX11_rest 9 = .ok (.iconst (-1), 1) := o_2 (by decide +kernel)
theorem dX11_rest_10 : decode cX11_rest 10 = .ok (.ireturn, 1) := o_172 (by decide +kernel)
theorem dX11_rest_11 : decode cX11_rest 11 = .ok (.iload_n 1, 1) := o_27 (by decide +kernel)
theorem dX11_rest_12 : decode cX11_rest 12 = .ok (.iconst 1, 1) := o_4 (by decide +kernel)
theorem dX11_rest_13 : decode cX11_rest 13 = .ok (.if_icmp .lt 9, 3) := o_161 (by decide +kernel)
theorem dX11_rest_16 : decode cX11_rest 16 = .ok (.iload_n 1, 1) := o_27 (by decide +kernel)
theorem dX11_rest_17 : decode cX11_rest 17 = .ok (.bipush 60, 2) := o_16 (by decide +kernel)
theorem dX11_rest_19 : decode cX11_rest 19 = .ok (.if_icmp .le 6, 3) := o_164 (by decide +kernel)
theorem dX11_rest_22 : decode cX11_rest 22 = .ok (.bipush (-2), 2) := o_16 (by decide +kernel)
theorem dX11_rest_24 : decode cX11_rest 24 = .ok (.ireturn, 1) := o_172 (by decide +kernel)
theorem dX11_rest_25 : decode cX11_rest 25 = .ok (.aload_n 0, 1) := o_42 (by decide +kernel)
theorem dX11_rest_26 : decode cX11_rest 26 = .ok (.iconst 2, 1) := o_5 (by decide +kernel)
theorem dX11_rest_27 : decode cX11_rest 27 = .ok (.iload_n 1, 1) := o_27 (by decide +kernel)
theorem dX11_rest_28 : decode cX11_rest 28 = .ok (.iconst (-1), 1) := o_2 (by decide +kernel)
theorem dX11_rest_29 : decode cX11_rest 29 = .ok (.aload_n 0, 1) := o_42 (by decide +kernel)
theorem dX11_rest_30 : decode cX11_rest 30 = .ok (.getfield 12, 3) := o_180 (by decide +kernel)
theorem dX11_rest_33 : decode cX11_rest 33 = .ok (.getfield 76, 3) := o_180 (by decide +kernel)
theorem dX11_rest_36 : decode cX11_rest 36 = .ok (.iconst 1, 1) := o_4 (by decide +kernel)
theorem dX11_rest_37 : decode cX11_rest 37 = .ok (.isub, 1) := o_100 (by decide +kernel)
theorem dX11_rest_38 : decode cX11_rest 38 = .ok (.iconst 0, 1) := o_3 (by decide +kernel)
theorem dX11_rest_39 : decode cX11_rest 39 = .ok (.invokevirtual 230, 3) := o_182 (by decide +kernel)
theorem dX11_rest_42 : decode cX11_rest 42 = .ok (.istore_n 3, 1) := o_62 (by decide +kernel)
theorem dX11_rest_43 : decode cX11_rest 43 = .ok (.iload_n 3, 1) := o_29 (by decide +kernel)
theorem dX11_rest_44 : decode cX11_rest 44 = .ok (.ifCond .ge 6, 3) := o_156 (by decide +kernel)
theorem dX11_rest_47 : decode cX11_rest 47 = .ok (.bipush (-5), 2) := o_16 (by decide +kernel)
theorem dX11_rest_49 : decode cX11_rest 49 = .ok (.ireturn, 1) := o_172 (by decide +kernel)
theorem dX11_rest_50 : decode cX11_rest 50 = .ok (.iload_n 2, 1) := o_28 (by decide +kernel)
theorem dX11_rest_51 : decode cX11_rest 51 = .ok (.ifCond .ne 7, 3) := o_154 (by decide +kernel)
theorem dX11_rest_54 : decode cX11_rest 54 = .ok (.iload_n 3, 1) := o_29 (by decide +kernel)
theorem dX11_rest_55 : decode cX11_rest 55 = .ok (.goto 10, 3) := o_167 (by decide +kernel)
theorem dX11_rest_58 : decode cX11_rest 58 = .ok (.aload_n 0, 1) := o_42 (by decide +kernel)
theorem dX11_rest_59 : decode cX11_rest 59 = .ok (.iconst 2, 1) := o_5 (by decide +kernel)
theorem dX11_rest_60 : decode cX11_rest 60 = .ok (.iload_n 1, 1) := o_27 (by decide +kernel)
theorem dX11_rest_61 : decode cX11_rest 61 = .ok (.iload_n 3, 1) := o_29 (by decide +kernel)
theorem dX11_rest_62 : decode cX11_rest 62 = .ok (.invokevirtual 234, 3) := o_182 (by decide +kernel)
theorem dX11_rest_65 : decode cX11_rest 65 = .ok (.ireturn, 1) := o_172 (by decide +kernel)
theorem gt_wsX11_paused_wsX110 : GoodIn wsX11_paused wsX110 := fun w h => ⟨List.mem_cons_of_mem _ (List.mem_append_left _ (List.mem_append_left _ (List.mem_append_left _ (List.mem_append_left _ (List.mem_append_left _ (List.mem_append_left _ (List.mem_append_left _ (List.mem_append_left _ (List.mem_append_left _ (List.mem_append_right _ h)))))))))), good_of_word (gq_wsX110 w h)⟩
theorem gt_wsX11_paused_wsX10 : GoodIn wsX11_paused wsX10 := fun w h => ⟨List.mem_cons_of_mem _ (List.mem_append_left _ (List.mem_append_left _ (List.mem_append_left _ (List.mem_append_left _ (List.mem_append_left _ (List.mem_append_left _ (List.mem_append_left _ (List.mem_append_left _ (List.mem_append_right _ h))))))))), good_of_word (gq_wsX10 w h)⟩
theorem gt_wsX11_paused_wsX00 : GoodIn wsX11_paused wsX00 := fun w h => ⟨List.mem_cons_of_mem _ (List.mem_append_left _ (List.mem_append_left _ (List.mem_append_left _ (List.mem_append_left _ (List.mem_append_left _ (List.mem_append_left _ (List.mem_append_left _ (List.mem_append_right _ h)))))))), good_of_word (gq_wsX00 w h)⟩
theorem gt_wsX11_paused_wsX30 : GoodIn wsX11_paused wsX30 := fun w h => ⟨List.mem_cons_of_mem _ (List.mem_append_left _ (List.mem_append_left _ (List.mem_append_left _ (List.mem_append_left _ (List.mem_append_left _ (List.mem_append_left _ (List.mem_append_right _ h))))))), good_of_word (gq_wsX30 w h)⟩
theorem gt_wsX11_paused_wsX40 : GoodIn wsX11_paused wsX40 := fun w h => ⟨List.mem_cons_of_mem _ (List.mem_append_left _ (List.mem_append_left _ (List.mem_append_left _ (List.mem_append_left _ (List.mem_append_left _ (List.mem_append_right _ h)))))), good_of_word (gq_wsX40 w h)⟩
theorem gt_wsX11_paused_wsX60 : GoodIn wsX11_paused wsX60 := fun w h => ⟨List.mem_cons_of_mem _ (List.mem_append_left _ (List.mem_append_left _ (List.mem_append_left _ (List.mem_append_left _ (List.mem_append_right _ h))))), good_of_word (gq_wsX60 w h)⟩
theorem gt_wsX11_paused_wsX70 : GoodIn wsX11_paused wsX70 := fun w h => ⟨List.mem_cons_of_mem _ (List.mem_append_left _ (List.mem_append_left _ (List.mem_append_left _ (List.mem_append_right _ h)))), good_of_word (gq_wsX70 w h)⟩
theorem gt_wsX11_paused_wsX80 : GoodIn wsX11_paused wsX80 := fun w h => ⟨List.mem_cons_of_mem _ (List.mem_append_left _ (List.mem_append_left _ (List.mem_append_right _ h))), good_of_word (gq_wsX80 w h)⟩
theorem gt_wsX11_paused_wsX100 : GoodIn wsX11_paused wsX100 := fun w h => ⟨List.mem_cons_of_mem _ (List.mem_append_left _ (List.mem_append_right _ h)), good_of_word (gq_wsX100 w h)⟩
theorem gt_wsX11_paused_wsX20 : GoodIn wsX11_paused wsX20 := fun w h => ⟨List.mem_cons_of_mem _ (List.mem_append_right _ h), good_of_word (gq_wsX20 w h)⟩
set_option maxRecDepth 20000 in
theorem ggX11_paused_X11_mostBy : GoodIn wsX11_paused wsX11_mostBy := goodIn_ca (goodIn_ca (goodIn_ca (goodIn_ca (goodIn_ca (goodIn_ca (goodIn_ca (goodIn_ca (goodIn_ca (goodIn_ca (goodIn_s _ [(5, 4), (4, 1), (9, 163)] rfl (by decide +kernel)) gt_wsX11_paused_wsX110) gt_wsX11_paused_wsX10) gt_wsX11_paused_wsX00) gt_wsX11_paused_wsX30) gt_wsX11_paused_wsX40) gt_wsX11_paused_wsX60) gt_wsX11_paused_wsX70) gt_wsX11_paused_wsX80) gt_wsX11_paused_wsX100) gt_wsX11_paused_wsX20
set_option maxRecDepth 20000 in
theorem gX11_paused_X11_mostBy : GoodIn wsX11_paused (wsV RX11 230 RX11 yX11_mostBy wsX11_mostBy) := goodIn_app (goodIn_of _ (by decide +kernel)) ggX11_paused_X11_mostBy
theorem dX11_paused_0 : decode cX11_paused 0 = .ok (.iload_n 2, 1) := o_28 (by decide +kernel)
theorem dX11_paused_1 : decode cX11_paused 1 = .ok (.ifCond .eq 10, 3) := o_153 (by decide +kernel)
theorem dX11_paused_4 : decode cX11_paused 4 = .ok (.iload_n 2, 1) := o_28 (by decide +kernel)
theorem dX11_paused_5 : decode cX11_paused 5 = .ok (.iconst 1, 1) := o_4 (by decide +kernel)
theorem dX11_paused_6 : decode cX11_paused 6 = .ok (.if_icmp .eq 5, 3) := o_159 (by decide +kernel)
theorem dX11_paused_9 : decode cX11_paused 9 = .ok (.iconst (-1), 1) := o_2 (by decide +kernel)
theorem dX11_paused_10 : decode cX11_paused 10 = .ok (.ireturn, 1) := o_172 (by decide +kernel)
theorem dX11_paused_11 : decode cX11_paused 11 = .ok (.iload_n 1, 1) := o_27 (by decide +kernel)
theorem dX11_paused_12 : decode cX11_paused 12 = .ok (.iconst 1, 1) := o_4 (by decide +kernel)
theorem dX11_paused_13 : decode cX11_paused 13 = .ok (.if_icmp .lt 9, 3) := o_161 (by decide +kernel)
theorem dX11_paused_16 : decode cX11_paused 16 = .ok (.iload_n 1, 1) := o_27 (by decide +kernel)
theorem dX11_paused_17 : decode cX11_paused 17 = .ok (.bipush 30, 2) := o_16 (by decide +kernel)
theorem dX11_paused_19 : decode cX11_paused 19 = .ok (.if_icmp .le 8, 3) := o_164 (by decide +kernel)
theorem dX11_paused_22 : decode cX11_paused 22 = .ok (.bipush (-2), 2) := o_16 (by decide +kernel)
theorem dX11_paused_24 : decode cX11_paused 24 = .ok (.goto 12, 3) := o_167 (by decide +kernel)
theorem dX11_paused_27 : decode cX11_paused 27 = .ok (.aload_n 0, 1) := o_42 (by decide +kernel)
theorem dX11_paused_28 : decode cX11_paused 28 = .ok (.iconst 3, 1) := o_6 (by decide +kernel)
theorem dX11_paused_29 : decode cX11_paused 29 = .ok (.iload_n 1, 1) := o_27 (by decide +kernel)
theorem dX11_paused_30 : decode cX11_paused 30 = .ok (.iconst 0, 1) := o_3 (by decide +kernel)
theorem dX11_paused_31 : decode cX11_paused 31 = .ok (.iload_n 1, 1) := o_27 (by decide +kernel)
theorem dX11_paused_32 : decode cX11_paused 32 = .ok (.iload_n 2, 1) := o_28 (by decide +kernel)
theorem dX11_paused_33 : decode cX11_paused 33 = .ok (.invokevirtual 230, 3) := o_182 (by decide +kernel)
theorem dX11_paused_36 : decode cX11_paused 36 = .ok (.ireturn, 1) := o_172 (by decide +kernel)
theorem gt_wsX11_see_wsX110 : GoodIn wsX11_see wsX110 := fun w h => ⟨List.mem_cons_of_mem _ (List.mem_append_left _ (List.mem_append_left _ (List.mem_append_right _ h))), good_of_word (gq_wsX110 w h)⟩
theorem gt_wsX11_see_wsX10 : GoodIn wsX11_see wsX10 := fun w h => ⟨List.mem_cons_of_mem _ (List.mem_append_left _ (List.mem_append_right _ h)), good_of_word (gq_wsX10 w h)⟩
set_option maxRecDepth 20000 in
theorem ggX11_see_X11_isMower : GoodIn wsX11_see wsX11_isMower := goodIn_ca (goodIn_ca (goodIn_s _ [(8, 1), (1, 1), (9, 1)] rfl (by decide +kernel)) gt_wsX11_see_wsX110) gt_wsX11_see_wsX10
set_option maxRecDepth 20000 in
theorem gX11_see_X11_isMower : GoodIn wsX11_see (wsV RX11 110 RX11 yX11_isMower wsX11_isMower) := goodIn_app (goodIn_of _ (by decide +kernel)) ggX11_see_X11_isMower
theorem gt_wsX11_see_wsX50 : GoodIn wsX11_see wsX50 := fun w h => ⟨List.mem_cons_of_mem _ (List.mem_append_right _ h), good_of_word (gq_wsX50 w h)⟩
set_option maxRecDepth 20000 in
theorem ggX11_see_X5_isFull : GoodIn wsX11_see wsX5_isFull := goodIn_ca (goodIn_s _ [(14, 3)] rfl (by decide +kernel)) gt_wsX11_see_wsX50
set_option maxRecDepth 20000 in
theorem gX11_see_X5_isFull : GoodIn wsX11_see (wsV RX11 259 RX5 yX5_isFull wsX5_isFull) := goodIn_app (goodIn_of _ (by decide +kernel)) ggX11_see_X5_isFull
set_option maxRecDepth 20000 in
theorem ggX11_see_X5_comes : GoodIn wsX11_see wsX5_comes := goodIn_ca (goodIn_s _ [(20, 1), (15, 2)] rfl (by decide +kernel)) gt_wsX11_see_wsX50
set_option maxRecDepth 20000 in
theorem gX11_see_X5_comes : GoodIn wsX11_see (wsV RX11 262 RX5 yX5_comes wsX5_comes) := goodIn_app (goodIn_of _ (by decide +kernel)) ggX11_see_X5_comes
theorem dX11_see_0 : decode cX11_see 0 = .ok (.iload_n 1, 1) := o_27 (by decide +kernel)
theorem dX11_see_1 : decode cX11_see 1 = .ok (.iconst (-1), 1) := o_2 (by decide +kernel)
theorem dX11_see_2 : decode cX11_see 2 = .ok (.if_icmp .ne 16, 3) := o_160 (by decide +kernel)
theorem dX11_see_5 : decode cX11_see 5 = .ok (.aload_n 0, 1) := o_42 (by decide +kernel)
theorem dX11_see_6 : decode cX11_see 6 = .ok (.getfield 12, 3) := o_180 (by decide +kernel)
theorem dX11_see_9 : decode cX11_see 9 = .ok (.getfield 253, 3) := o_180 (by decide +kernel)
theorem dX11_see_12 : decode cX11_see 12 = .ok (.iconst 0, 1) := o_3 (by decide +kernel)
theorem dX11_see_13 : decode cX11_see 13 = .ok (.putfield 256, 3) := o_181 (by decide +kernel)
theorem dX11_see_16 : decode cX11_see 16 = .ok (.iconst 0, 1) := o_3 (by decide +kernel)
theorem dX11_see_17 : decode cX11_see 17 = .ok (.ireturn, 1) := o_172 (by decide +kernel)
theorem dX11_see_18 : decode cX11_see 18 = .ok (.aload_n 0, 1) := o_42 (by decide +kernel)
theorem dX11_see_19 : decode cX11_see 19 = .ok (.iload_n 1, 1) := o_27 (by decide +kernel)
theorem dX11_see_20 : decode cX11_see 20 = .ok (.invokevirtual 110, 3) := o_182 (by decide +kernel)
theorem dX11_see_23 : decode cX11_see 23 = .ok (.ifCond .ne 5, 3) := o_154 (by decide +kernel)
theorem dX11_see_26 : decode cX11_see 26 = .ok (.iconst (-1), 1) := o_2 (by decide +kernel)
theorem dX11_see_27 : decode cX11_see 27 = .ok (.ireturn, 1) := o_172 (by decide +kernel)
theorem dX11_see_28 : decode cX11_see 28 = .ok (.iload_n 2, 1) := o_28 (by decide +kernel)
theorem dX11_see_29 : decode cX11_see 29 = .ok (.ifCond .lt 20, 3) := o_155 (by decide +kernel)
theorem dX11_see_32 : decode cX11_see 32 = .ok (.iload_n 2, 1) := o_28 (by decide +kernel)
theorem dX11_see_33 : decode cX11_see 33 = .ok (.bipush 30, 2) := o_16 (by decide +kernel)
theorem dX11_see_35 : decode cX11_see 35 = .ok (.if_icmp .gt 14, 3) := o_163 (by decide +kernel)
theorem dX11_see_38 : decode cX11_see 38 = .ok (.iload_n 3, 1) := o_29 (by decide +kernel)
theorem dX11_see_39 : decode cX11_see 39 = .ok (.ifCond .lt 10, 3) := o_155 (by decide +kernel)
theorem dX11_see_42 : decode cX11_see 42 = .ok (.iload_n 3, 1) := o_29 (by decide +kernel)
theorem dX11_see_43 : decode cX11_see 43 = .ok (.sipush 9999, 3) := o_17 (by decide +kernel)
theorem dX11_see_46 : decode cX11_see 46 = .ok (.if_icmp .le 6, 3) := o_164 (by decide +kernel)
theorem dX11_see_49 : decode cX11_see 49 = .ok (.bipush (-2), 2) := o_16 (by decide +kernel)
theorem dX11_see_51 : decode cX11_see 51 = .ok (.ireturn, 1) := o_172 (by decide +kernel)
theorem dX11_see_52 : decode cX11_see 52 = .ok (.aload_n 0, 1) := o_42 (by decide +kernel)
theorem dX11_see_53 : decode cX11_see 53 = .ok (.getfield 12, 3) := o_180 (by decide +kernel)
theorem dX11_see_56 : decode cX11_see 56 = .ok (.getfield 253, 3) := o_180 (by decide +kernel)
theorem dX11_see_59 : decode cX11_see 59 = .ok (.invokevirtual 259, 3) := o_182 (by decide +kernel)
theorem dX11_see_62 : decode cX11_see 62 = .ok (.ifCond .eq 6, 3) := o_153 (by decide +kernel)
theorem dX11_see_65 : decode cX11_see 65 = .ok (.bipush (-4), 2) := o_16 (by decide +kernel)
theorem dX11_see_67 : decode cX11_see 67 = .ok (.ireturn, 1) := o_172 (by decide +kernel)
theorem dX11_see_68 : decode cX11_see 68 = .ok (.aload_n 0, 1) := o_42 (by decide +kernel)
theorem dX11_see_69 : decode cX11_see 69 = .ok (.getfield 12, 3) := o_180 (by decide +kernel)
theorem dX11_see_72 : decode cX11_see 72 = .ok (.getfield 253, 3) := o_180 (by decide +kernel)
theorem dX11_see_75 : decode cX11_see 75 = .ok (.iload_n 1, 1) := o_27 (by decide +kernel)
theorem dX11_see_76 : decode cX11_see 76 = .ok (.invokevirtual 262, 3) := o_182 (by decide +kernel)
theorem dX11_see_79 : decode cX11_see 79 = .ok (.aload_n 0, 1) := o_42 (by decide +kernel)
theorem dX11_see_80 : decode cX11_see 80 = .ok (.getfield 12, 3) := o_180 (by decide +kernel)
theorem dX11_see_83 : decode cX11_see 83 = .ok (.getfield 253, 3) := o_180 (by decide +kernel)
theorem dX11_see_86 : decode cX11_see 86 = .ok (.iload_n 2, 1) := o_28 (by decide +kernel)
theorem dX11_see_87 : decode cX11_see 87 = .ok (.invokevirtual 262, 3) := o_182 (by decide +kernel)
theorem dX11_see_90 : decode cX11_see 90 = .ok (.aload_n 0, 1) := o_42 (by decide +kernel)
theorem dX11_see_91 : decode cX11_see 91 = .ok (.getfield 12, 3) := o_180 (by decide +kernel)
theorem dX11_see_94 : decode cX11_see 94 = .ok (.getfield 253, 3) := o_180 (by decide +kernel)
theorem dX11_see_97 : decode cX11_see 97 = .ok (.iload_n 3, 1) := o_29 (by decide +kernel)
theorem dX11_see_98 : decode cX11_see 98 = .ok (.invokevirtual 262, 3) := o_182 (by decide +kernel)
theorem dX11_see_101 : decode cX11_see 101 = .ok (.aload_n 0, 1) := o_42 (by decide +kernel)
theorem dX11_see_102 : decode cX11_see 102 = .ok (.getfield 12, 3) := o_180 (by decide +kernel)
theorem dX11_see_105 : decode cX11_see 105 = .ok (.getfield 253, 3) := o_180 (by decide +kernel)
theorem dX11_see_108 : decode cX11_see 108 = .ok (.getfield 256, 3) := o_180 (by decide +kernel)
theorem dX11_see_111 : decode cX11_see 111 = .ok (.iconst 3, 1) := o_6 (by decide +kernel)
theorem dX11_see_112 : decode cX11_see 112 = .ok (.idiv, 1) := o_108 (by decide +kernel)
theorem dX11_see_113 : decode cX11_see 113 = .ok (.ireturn, 1) := o_172 (by decide +kernel)
theorem gt_wsX11_who_wsX10 : GoodIn wsX11_who wsX10 := fun w h => ⟨List.mem_cons_of_mem _ (List.mem_append_left _ (List.mem_append_left _ (List.mem_append_left _ (List.mem_append_left _ (List.mem_append_left _ (List.mem_append_left _ (List.mem_append_left _ (List.mem_append_left _ (List.mem_append_left _ (List.mem_append_right _ h)))))))))), good_of_word (gq_wsX10 w h)⟩
set_option maxRecDepth 20000 in
theorem ggX11_who_X1_becomes : GoodIn wsX11_who wsX1_becomes := goodIn_ca (goodIn_s _ [(9, 17)] rfl (by decide +kernel)) gt_wsX11_who_wsX10
set_option maxRecDepth 20000 in
theorem gX11_who_X1_becomes : GoodIn wsX11_who (wsV RX11 189 RX1 yX1_becomes wsX1_becomes) := goodIn_app (goodIn_of _ (by decide +kernel)) ggX11_who_X1_becomes
theorem gt_wsX11_who_wsX110 : GoodIn wsX11_who wsX110 := fun w h => ⟨List.mem_cons_of_mem _ (List.mem_append_left _ (List.mem_append_left _ (List.mem_append_left _ (List.mem_append_left _ (List.mem_append_left _ (List.mem_append_left _ (List.mem_append_left _ (List.mem_append_left _ (List.mem_append_left _ (List.mem_append_left _ (List.mem_append_right _ h))))))))))), good_of_word (gq_wsX110 w h)⟩
theorem gt_wsX11_who_wsX50 : GoodIn wsX11_who wsX50 := fun w h => ⟨List.mem_cons_of_mem _ (List.mem_append_left _ (List.mem_append_left _ (List.mem_append_left _ (List.mem_append_left _ (List.mem_append_left _ (List.mem_append_left _ (List.mem_append_left _ (List.mem_append_left _ (List.mem_append_right _ h))))))))), good_of_word (gq_wsX50 w h)⟩
theorem gt_wsX11_who_wsX00 : GoodIn wsX11_who wsX00 := fun w h => ⟨List.mem_cons_of_mem _ (List.mem_append_left _ (List.mem_append_left _ (List.mem_append_left _ (List.mem_append_left _ (List.mem_append_left _ (List.mem_append_left _ (List.mem_append_left _ (List.mem_append_right _ h)))))))), good_of_word (gq_wsX00 w h)⟩
theorem gt_wsX11_who_wsX30 : GoodIn wsX11_who wsX30 := fun w h => ⟨List.mem_cons_of_mem _ (List.mem_append_left _ (List.mem_append_left _ (List.mem_append_left _ (List.mem_append_left _ (List.mem_append_left _ (List.mem_append_left _ (List.mem_append_right _ h))))))), good_of_word (gq_wsX30 w h)⟩
theorem gt_wsX11_who_wsX40 : GoodIn wsX11_who wsX40 := fun w h => ⟨List.mem_cons_of_mem _ (List.mem_append_left _ (List.mem_append_left _ (List.mem_append_left _ (List.mem_append_left _ (List.mem_append_left _ (List.mem_append_right _ h)))))), good_of_word (gq_wsX40 w h)⟩
theorem gt_wsX11_who_wsX60 : GoodIn wsX11_who wsX60 := fun w h => ⟨List.mem_cons_of_mem _ (List.mem_append_left _ (List.mem_append_left _ (List.mem_append_left _ (List.mem_append_left _ (List.mem_append_right _ h))))), good_of_word (gq_wsX60 w h)⟩
theorem gt_wsX11_who_wsX70 : GoodIn wsX11_who wsX70 := fun w h => ⟨List.mem_cons_of_mem _ (List.mem_append_left _ (List.mem_append_left _ (List.mem_append_left _ (List.mem_append_right _ h)))), good_of_word (gq_wsX70 w h)⟩
theorem gt_wsX11_who_wsX80 : GoodIn wsX11_who wsX80 := fun w h => ⟨List.mem_cons_of_mem _ (List.mem_append_left _ (List.mem_append_left _ (List.mem_append_right _ h))), good_of_word (gq_wsX80 w h)⟩
theorem gt_wsX11_who_wsX100 : GoodIn wsX11_who wsX100 := fun w h => ⟨List.mem_cons_of_mem _ (List.mem_append_left _ (List.mem_append_right _ h)), good_of_word (gq_wsX100 w h)⟩
theorem gt_wsX11_who_wsX20 : GoodIn wsX11_who wsX20 := fun w h => ⟨List.mem_cons_of_mem _ (List.mem_append_right _ h), good_of_word (gq_wsX20 w h)⟩
set_option maxRecDepth 20000 in
theorem ggX11_who_X11_allSeenIsSo : GoodIn wsX11_who wsX11_allSeenIsSo := goodIn_ca (goodIn_ca (goodIn_ca (goodIn_ca (goodIn_ca (goodIn_ca (goodIn_ca (goodIn_ca (goodIn_ca (goodIn_ca (goodIn_ca (goodIn_s _ [(30, 1), (3, 1), (31, 3), (29, 1), (34, 1), (1, 1), (35, 7), (8, 1), (42, 1), (11, 1), (43, 1), (16, 1), (20, 1), (17, 1), (12, 1), (44, 4), (15, 1), (18, 1), (48, 6), (19, 1), (13, 1), (54, 69), (14, 1), (123, 29)] rfl (by decide +kernel)) gt_wsX11_who_wsX110) gt_wsX11_who_wsX10) gt_wsX11_who_wsX50) gt_wsX11_who_wsX00) gt_wsX11_who_wsX30) gt_wsX11_who_wsX40) gt_wsX11_who_wsX60) gt_wsX11_who_wsX70) gt_wsX11_who_wsX80) gt_wsX11_who_wsX100) gt_wsX11_who_wsX20
set_option maxRecDepth 20000 in
theorem gX11_who_X11_allSeenIsSo : GoodIn wsX11_who (wsV RX11 264 RX11 yX11_allSeenIsSo wsX11_allSeenIsSo) := goodIn_app (goodIn_of _ (by decide +kernel)) ggX11_who_X11_allSeenIsSo
theorem dX11_who_0 : decode cX11_who 0 = .ok (.iconst 0, 1) := o_3 (by decide +kernel)
theorem dX11_who_1 : decode cX11_who 1 = .ok (.istore_n 1, 1) := o_60 (by decide +kernel)
theorem dX11_who_2 : decode cX11_who 2 = .ok (.iconst 0, 1) := o_3 (by decide +kernel)
theorem dX11_who_3 : decode cX11_who 3 = .ok (.istore_n 2, 1) := o_61 (by decide +kernel)
theorem dX11_who_4 : decode cX11_who 4 = .ok (.iload_n 2, 1) := o_28 (by decide +kernel)
theorem dX11_who_5 : decode cX11_who 5 = .ok (.aload_n 0, 1) := o_42 (by decide +kernel)
theorem dX11_who_6 : decode cX11_who 6 = .ok (.getfield 12, 3) := o_180 (by decide +kernel)
theorem dX11_who_9 : decode cX11_who 9 = .ok (.getfield 76, 3) := o_180 (by decide +kernel)
theorem dX11_who_12 : decode cX11_who 12 = .ok (.if_icmp .ge 46, 3) := o_162 (by decide +kernel)
theorem dX11_who_15 : decode cX11_who 15 = .ok (.aload_n 0, 1) := o_42 (by decide +kernel)
theorem dX11_who_16 : decode cX11_who 16 = .ok (.getfield 21, 3) := o_180 (by decide +kernel)
theorem dX11_who_19 : decode cX11_who 19 = .ok (.aload_n 0, 1) := o_42 (by decide +kernel)
theorem dX11_who_20 : decode cX11_who 20 = .ok (.getfield 12, 3) := o_180 (by decide +kernel)
theorem dX11_who_23 : decode cX11_who 23 = .ok (.invokevirtual 189, 3) := o_182 (by decide +kernel)
theorem dX11_who_26 : decode cX11_who 26 = .ok (.aload_n 0, 1) := o_42 (by decide +kernel)
theorem dX11_who_27 : decode cX11_who 27 = .ok (.getfield 21, 3) := o_180 (by decide +kernel)
theorem dX11_who_30 : decode cX11_who 30 = .ok (.getfield 133, 3) := o_180 (by decide +kernel)
theorem dX11_who_33 : decode cX11_who 33 = .ok (.iload_n 2, 1) := o_28 (by decide +kernel)
theorem dX11_who_34 : decode cX11_who 34 = .ok (.dup2, 1) := o_92 (by decide +kernel)
theorem dX11_who_35 : decode cX11_who 35 = .ok (.iaload, 1) := o_46 (by decide +kernel)
theorem dX11_who_36 : decode cX11_who 36 = .ok (.iconst 3, 1) := o_6 (by decide +kernel)
theorem dX11_who_37 : decode cX11_who 37 = .ok (.iadd, 1) := o_96 (by decide +kernel)
theorem dX11_who_38 : decode cX11_who 38 = .ok (.iastore, 1) := o_79 (by decide +kernel)
theorem dX11_who_39 : decode cX11_who 39 = .ok (.aload_n 0, 1) := o_42 (by decide +kernel)
theorem dX11_who_40 : decode cX11_who 40 = .ok (.invokevirtual 264, 3) := o_182 (by decide +kernel)
theorem dX11_who_43 : decode cX11_who 43 = .ok (.ifCond .eq 9, 3) := o_153 (by decide +kernel)
theorem dX11_who_46 : decode cX11_who 46 = .ok (.iload_n 1, 1) := o_27 (by decide +kernel)
theorem dX11_who_47 : decode cX11_who 47 = .ok (.iconst 1, 1) := o_4 (by decide +kernel)
theorem dX11_who_48 : decode cX11_who 48 = .ok (.iload_n 2, 1) := o_28 (by decide +kernel)
theorem dX11_who_49 : decode cX11_who 49 = .ok (.ishl, 1) := o_120 (by decide +kernel)
theorem dX11_who_50 : decode cX11_who 50 = .ok (.ior, 1) := o_128 (by decide +kernel)
theorem dX11_who_51 : decode cX11_who 51 = .ok (.istore_n 1, 1) := o_60 (by decide +kernel)
theorem dX11_who_52 : decode cX11_who 52 = .ok (.iinc 2 1, 3) := o_132 (by decide +kernel)
theorem dX11_who_55 : decode cX11_who 55 = .ok (.goto (-51), 3) := o_167 (by decide +kernel)
theorem dX11_who_58 : decode cX11_who 58 = .ok (.iload_n 1, 1) := o_27 (by decide +kernel)
theorem dX11_who_59 : decode cX11_who 59 = .ok (.ireturn, 1) := o_172 (by decide +kernel)
theorem gt_wsX11_allSeenIsSo_wsX110 : GoodIn wsX11_allSeenIsSo wsX110 := fun w h => ⟨List.mem_cons_of_mem _ (List.mem_append_left _ (List.mem_append_left _ (List.mem_append_left _ (List.mem_append_left _ (List.mem_append_left _ (List.mem_append_left _ (List.mem_append_left _ (List.mem_append_left _ (List.mem_append_left _ (List.mem_append_left _ (List.mem_append_right _ h))))))))))), good_of_word (gq_wsX110 w h)⟩
theorem gt_wsX11_allSeenIsSo_wsX10 : GoodIn wsX11_allSeenIsSo wsX10 := fun w h => ⟨List.mem_cons_of_mem _ (List.mem_append_left _ (List.mem_append_left _ (List.mem_append_left _ (List.mem_append_left _ (List.mem_append_left _ (List.mem_append_left _ (List.mem_append_left _ (List.mem_append_left _ (List.mem_append_left _ (List.mem_append_right _ h)))))))))), good_of_word (gq_wsX10 w h)⟩
theorem gt_wsX11_allSeenIsSo_wsX50 : GoodIn wsX11_allSeenIsSo wsX50 := fun w h => ⟨List.mem_cons_of_mem _ (List.mem_append_left _ (List.mem_append_left _ (List.mem_append_left _ (List.mem_append_left _ (List.mem_append_left _ (List.mem_append_left _ (List.mem_append_left _ (List.mem_append_left _ (List.mem_append_right _ h))))))))), good_of_word (gq_wsX50 w h)⟩
set_option maxRecDepth 20000 in
theorem ggX11_allSeenIsSo_X11_seenIsSo : GoodIn wsX11_allSeenIsSo wsX11_seenIsSo := goodIn_ca (goodIn_ca (goodIn_ca (goodIn_s _ [(6, 5), (1, 1), (11, 1)] rfl (by decide +kernel)) gt_wsX11_allSeenIsSo_wsX110) gt_wsX11_allSeenIsSo_wsX10) gt_wsX11_allSeenIsSo_wsX50
set_option maxRecDepth 20000 in
theorem gX11_allSeenIsSo_X11_seenIsSo : GoodIn wsX11_allSeenIsSo (wsV RX11 267 RX11 yX11_seenIsSo wsX11_seenIsSo) := goodIn_app (goodIn_of _ (by decide +kernel)) ggX11_allSeenIsSo_X11_seenIsSo
theorem gt_wsX11_allSeenIsSo_wsX00 : GoodIn wsX11_allSeenIsSo wsX00 := fun w h => ⟨List.mem_cons_of_mem _ (List.mem_append_left _ (List.mem_append_left _ (List.mem_append_left _ (List.mem_append_left _ (List.mem_append_left _ (List.mem_append_left _ (List.mem_append_left _ (List.mem_append_right _ h)))))))), good_of_word (gq_wsX00 w h)⟩
theorem gt_wsX11_allSeenIsSo_wsX30 : GoodIn wsX11_allSeenIsSo wsX30 := fun w h => ⟨List.mem_cons_of_mem _ (List.mem_append_left _ (List.mem_append_left _ (List.mem_append_left _ (List.mem_append_left _ (List.mem_append_left _ (List.mem_append_left _ (List.mem_append_right _ h))))))), good_of_word (gq_wsX30 w h)⟩
theorem gt_wsX11_allSeenIsSo_wsX40 : GoodIn wsX11_allSeenIsSo wsX40 := fun w h => ⟨List.mem_cons_of_mem _ (List.mem_append_left _ (List.mem_append_left _ (List.mem_append_left _ (List.mem_append_left _ (List.mem_append_left _ (List.mem_append_right _ h)))))), good_of_word (gq_wsX40 w h)⟩
theorem gt_wsX11_allSeenIsSo_wsX60 : GoodIn wsX11_allSeenIsSo wsX60 := fun w h => ⟨List.mem_cons_of_mem _ (List.mem_append_left _ (List.mem_append_left _ (List.mem_append_left _ (List.mem_append_left _ (List.mem_append_right _ h))))), good_of_word (gq_wsX60 w h)⟩
theorem gt_wsX11_allSeenIsSo_wsX70 : GoodIn wsX11_allSeenIsSo wsX70 := fun w h => ⟨List.mem_cons_of_mem _ (List.mem_append_left _ (List.mem_append_left _ (List.mem_append_left _ (List.mem_append_right _ h)))), good_of_word (gq_wsX70 w h)⟩
theorem gt_wsX11_allSeenIsSo_wsX80 : GoodIn wsX11_allSeenIsSo wsX80 := fun w h => ⟨List.mem_cons_of_mem _ (List.mem_append_left _ (List.mem_append_left _ (List.mem_append_right _ h))), good_of_word (gq_wsX80 w h)⟩
theorem gt_wsX11_allSeenIsSo_wsX100 : GoodIn wsX11_allSeenIsSo wsX100 := fun w h => ⟨List.mem_cons_of_mem _ (List.mem_append_left _ (List.mem_append_right _ h)), good_of_word (gq_wsX100 w h)⟩
theorem gt_wsX11_allSeenIsSo_wsX20 : GoodIn wsX11_allSeenIsSo wsX20 := fun w h => ⟨List.mem_cons_of_mem _ (List.mem_append_right _ h), good_of_word (gq_wsX20 w h)⟩
set_option maxRecDepth 20000 in
theorem ggX11_allSeenIsSo_X1_goesMinute : GoodIn wsX11_allSeenIsSo wsX1_goesMinute := goodIn_ca (goodIn_ca (goodIn_ca (goodIn_ca (goodIn_ca (goodIn_ca (goodIn_ca (goodIn_ca (goodIn_ca (goodIn_s _ [(16, 10), (15, 1), (26, 110)] rfl (by decide +kernel)) gt_wsX11_allSeenIsSo_wsX10) gt_wsX11_allSeenIsSo_wsX00) gt_wsX11_allSeenIsSo_wsX30) gt_wsX11_allSeenIsSo_wsX40) gt_wsX11_allSeenIsSo_wsX60) gt_wsX11_allSeenIsSo_wsX70) gt_wsX11_allSeenIsSo_wsX80) gt_wsX11_allSeenIsSo_wsX100) gt_wsX11_allSeenIsSo_wsX20
set_option maxRecDepth 20000 in
theorem gX11_allSeenIsSo_X1_goesMinute : GoodIn wsX11_allSeenIsSo (wsV RX11 180 RX1 yX1_goesMinute wsX1_goesMinute) := goodIn_app (goodIn_of _ (by decide +kernel)) ggX11_allSeenIsSo_X1_goesMinute
theorem dX11_allSeenIsSo_0 : decode cX11_allSeenIsSo 0 = .ok (.iconst 0, 1) := o_3 (by decide +kernel)
theorem dX11_allSeenIsSo_1 : decode cX11_allSeenIsSo 1 = .ok (.istore_n 1, 1) := o_60 (by decide +kernel)
theorem dX11_allSeenIsSo_2 : decode cX11_allSeenIsSo 2 = .ok (.iload_n 1, 1) := o_27 (by decide +kernel)
theorem dX11_allSeenIsSo_3 : decode cX11_allSeenIsSo 3 = .ok (.bipush 30, 2) := o_16 (by decide +kernel)
theorem dX11_allSeenIsSo_5 : decode cX11_allSeenIsSo 5 = .ok (.if_icmp .gt 27, 3) := o_163 (by decide +kernel)
theorem dX11_allSeenIsSo_8 : decode cX11_allSeenIsSo 8 = .ok (.aload_n 0, 1) := o_42 (by decide +kernel)
theorem dX11_allSeenIsSo_9 : decode cX11_allSeenIsSo 9 = .ok (.iload_n 1, 1) := o_27 (by decide +kernel)
theorem dX11_allSeenIsSo_10 : decode cX11_allSeenIsSo 10 = .ok (.invokevirtual 267, 3) := o_182 (by decide +kernel)
theorem dX11_allSeenIsSo_13 : decode cX11_allSeenIsSo 13 = .ok (.ifCond .ne 5, 3) := o_154 (by decide +kernel)
theorem dX11_allSeenIsSo_16 : decode cX11_allSeenIsSo 16 = .ok (.iconst 0, 1) := o_3 (by decide +kernel)
theorem dX11_allSeenIsSo_17 : decode cX11_allSeenIsSo 17 = .ok (.ireturn, 1) := o_172 (by decide +kernel)
theorem dX11_allSeenIsSo_18 : decode cX11_allSeenIsSo 18 = .ok (.aload_n 0, 1) := o_42 (by decide +kernel)
theorem dX11_allSeenIsSo_19 : decode cX11_allSeenIsSo 19 = .ok (.getfield 21, 3) := o_180 (by decide +kernel)
theorem dX11_allSeenIsSo_22 : decode cX11_allSeenIsSo 22 = .ok (.invokevirtual 180, 3) := o_182 (by decide +kernel)
theorem dX11_allSeenIsSo_25 : decode cX11_allSeenIsSo 25 = .ok (.pop, 1) := o_87 (by decide +kernel)
theorem dX11_allSeenIsSo_26 : decode cX11_allSeenIsSo 26 = .ok (.iinc 1 1, 3) := o_132 (by decide +kernel)
theorem dX11_allSeenIsSo_29 : decode cX11_allSeenIsSo 29 = .ok (.goto (-27), 3) := o_167 (by decide +kernel)
theorem dX11_allSeenIsSo_32 : decode cX11_allSeenIsSo 32 = .ok (.iconst 1, 1) := o_4 (by decide +kernel)
theorem dX11_allSeenIsSo_33 : decode cX11_allSeenIsSo 33 = .ok (.ireturn, 1) := o_172 (by decide +kernel)
theorem dX11_seenIsSo_0 : decode cX11_seenIsSo 0 = .ok (.aload_n 0, 1) := o_42 (by decide +kernel)
theorem dX11_seenIsSo_1 : decode cX11_seenIsSo 1 = .ok (.getfield 12, 3) := o_180 (by decide +kernel)
theorem dX11_seenIsSo_4 : decode cX11_seenIsSo 4 = .ok (.getfield 253, 3) := o_180 (by decide +kernel)
theorem dX11_seenIsSo_7 : decode cX11_seenIsSo 7 = .ok (.getfield 270, 3) := o_180 (by decide +kernel)
theorem dX11_seenIsSo_10 : decode cX11_seenIsSo 10 = .ok (.astore_n 2, 1) := o_77 (by decide +kernel)
theorem dX11_seenIsSo_11 : decode cX11_seenIsSo 11 = .ok (.iconst 0, 1) := o_3 (by decide +kernel)
theorem dX11_seenIsSo_12 : decode cX11_seenIsSo 12 = .ok (.istore_n 3, 1) := o_62 (by decide +kernel)
theorem dX11_seenIsSo_13 : decode cX11_seenIsSo 13 = .ok (.iload_n 3, 1) := o_29 (by decide +kernel)
theorem dX11_seenIsSo_14 : decode cX11_seenIsSo 14 = .ok (.iconst 2, 1) := o_5 (by decide +kernel)
theorem dX11_seenIsSo_15 : decode cX11_seenIsSo 15 = .ok (.iadd, 1) := o_96 (by decide +kernel)
theorem dX11_seenIsSo_16 : decode cX11_seenIsSo 16 = .ok (.aload_n 0, 1) := o_42 (by decide +kernel)
theorem dX11_seenIsSo_17 : decode cX11_seenIsSo 17 = .ok (.getfield 12, 3) := o_180 (by decide +kernel)
theorem dX11_seenIsSo_20 : decode cX11_seenIsSo 20 = .ok (.getfield 253, 3) := o_180 (by decide +kernel)
theorem dX11_seenIsSo_23 : decode cX11_seenIsSo 23 = .ok (.getfield 256, 3) := o_180 (by decide +kernel)
theorem dX11_seenIsSo_26 : decode cX11_seenIsSo 26 = .ok (.if_icmp .ge 39, 3) := o_162 (by decide +kernel)
theorem dX11_seenIsSo_29 : decode cX11_seenIsSo 29 = .ok (.aload_n 2, 1) := o_44 (by decide +kernel)
theorem dX11_seenIsSo_30 : decode cX11_seenIsSo 30 = .ok (.iload_n 3, 1) := o_29 (by decide +kernel)
theorem dX11_seenIsSo_31 : decode cX11_seenIsSo 31 = .ok (.iconst 1, 1) := o_4 (by decide +kernel)
theorem dX11_seenIsSo_32 : decode cX11_seenIsSo 32 = .ok (.iadd, 1) := o_96 (by decide +kernel)
theorem dX11_seenIsSo_33 : decode cX11_seenIsSo 33 = .ok (.iaload, 1) := o_46 (by decide +kernel)
theorem dX11_seenIsSo_34 : decode cX11_seenIsSo 34 = .ok (.iload_n 1, 1) := o_27 (by decide +kernel)
theorem dX11_seenIsSo_35 : decode cX11_seenIsSo 35 = .ok (.if_icmp .ne 24, 3) := o_160 (by decide +kernel)
theorem dX11_seenIsSo_38 : decode cX11_seenIsSo 38 = .ok (.aload_n 0, 1) := o_42 (by decide +kernel)
theorem dX11_seenIsSo_39 : decode cX11_seenIsSo 39 = .ok (.getfield 21, 3) := o_180 (by decide +kernel)
theorem dX11_seenIsSo_42 : decode cX11_seenIsSo 42 = .ok (.getfield 124, 3) := o_180 (by decide +kernel)
theorem dX11_seenIsSo_45 : decode cX11_seenIsSo 45 = .ok (.aload_n 2, 1) := o_44 (by decide +kernel)
theorem dX11_seenIsSo_46 : decode cX11_seenIsSo 46 = .ok (.iload_n 3, 1) := o_29 (by decide +kernel)
theorem dX11_seenIsSo_47 : decode cX11_seenIsSo 47 = .ok (.iaload, 1) := o_46 (by decide +kernel)
theorem dX11_seenIsSo_48 : decode cX11_seenIsSo 48 = .ok (.iaload, 1) := o_46 (by decide +kernel)
theorem dX11_seenIsSo_49 : decode cX11_seenIsSo 49 = .ok (.aload_n 2, 1) := o_44 (by decide +kernel)
theorem dX11_seenIsSo_50 : decode cX11_seenIsSo 50 = .ok (.iload_n 3, 1) := o_29 (by decide +kernel)
theorem dX11_seenIsSo_51 : decode cX11_seenIsSo 51 = .ok (.iconst 2, 1) := o_5 (by decide +kernel)
theorem dX11_seenIsSo_52 : decode cX11_seenIsSo 52 = .ok (.iadd, 1) := o_96 (by decide +kernel)
theorem dX11_seenIsSo_53 : decode cX11_seenIsSo 53 = .ok (.iaload, 1) := o_46 (by decide +kernel)
theorem dX11_seenIsSo_54 : decode cX11_seenIsSo 54 = .ok (.if_icmp .eq 5, 3) := o_159 (by decide +kernel)
theorem dX11_seenIsSo_57 : decode cX11_seenIsSo 57 = .ok (.iconst 0, 1) := o_3 (by decide +kernel)
theorem dX11_seenIsSo_58 : decode cX11_seenIsSo 58 = .ok (.ireturn, 1) := o_172 (by decide +kernel)
theorem dX11_seenIsSo_59 : decode cX11_seenIsSo 59 = .ok (.iinc 3 3, 3) := o_132 (by decide +kernel)
theorem dX11_seenIsSo_62 : decode cX11_seenIsSo 62 = .ok (.goto (-49), 3) := o_167 (by decide +kernel)
theorem dX11_seenIsSo_65 : decode cX11_seenIsSo 65 = .ok (.iconst 1, 1) := o_4 (by decide +kernel)
theorem dX11_seenIsSo_66 : decode cX11_seenIsSo 66 = .ok (.ireturn, 1) := o_172 (by decide +kernel)
theorem gt_wsX11_odds_wsX110 : GoodIn wsX11_odds wsX110 := fun w h => ⟨List.mem_cons_of_mem _ (List.mem_append_left _ (List.mem_append_left _ (List.mem_append_left _ (List.mem_append_left _ (List.mem_append_left _ (List.mem_append_left _ (List.mem_append_left _ (List.mem_append_left _ (List.mem_append_left _ (List.mem_append_right _ h)))))))))), good_of_word (gq_wsX110 w h)⟩
theorem gt_wsX11_odds_wsX10 : GoodIn wsX11_odds wsX10 := fun w h => ⟨List.mem_cons_of_mem _ (List.mem_append_left _ (List.mem_append_left _ (List.mem_append_left _ (List.mem_append_left _ (List.mem_append_left _ (List.mem_append_left _ (List.mem_append_left _ (List.mem_append_left _ (List.mem_append_right _ h))))))))), good_of_word (gq_wsX10 w h)⟩
set_option maxRecDepth 20000 in
theorem ggX11_odds_X11_isMower : GoodIn wsX11_odds wsX11_isMower := goodIn_ca (goodIn_ca (goodIn_s _ [(10, 1), (2, 2)] rfl (by decide +kernel)) gt_wsX11_odds_wsX110) gt_wsX11_odds_wsX10
set_option maxRecDepth 20000 in
theorem gX11_odds_X11_isMower : GoodIn wsX11_odds (wsV RX11 110 RX11 yX11_isMower wsX11_isMower) := goodIn_app (goodIn_of _ (by decide +kernel)) ggX11_odds_X11_isMower
set_option maxRecDepth 20000 in
theorem ggX11_odds_X1_becomes : GoodIn wsX11_odds wsX1_becomes := goodIn_ca (goodIn_s _ [(15, 17)] rfl (by decide +kernel)) gt_wsX11_odds_wsX10
set_option maxRecDepth 20000 in
theorem gX11_odds_X1_becomes : GoodIn wsX11_odds (wsV RX11 189 RX1 yX1_becomes wsX1_becomes) := goodIn_app (goodIn_of _ (by decide +kernel)) ggX11_odds_X1_becomes
theorem gt_wsX11_odds_wsX00 : GoodIn wsX11_odds wsX00 := fun w h => ⟨List.mem_cons_of_mem _ (List.mem_append_left _ (List.mem_append_left _ (List.mem_append_left _ (List.mem_append_left _ (List.mem_append_left _ (List.mem_append_left _ (List.mem_append_left _ (List.mem_append_right _ h)))))))), good_of_word (gq_wsX00 w h)⟩
theorem gt_wsX11_odds_wsX30 : GoodIn wsX11_odds wsX30 := fun w h => ⟨List.mem_cons_of_mem _ (List.mem_append_left _ (List.mem_append_left _ (List.mem_append_left _ (List.mem_append_left _ (List.mem_append_left _ (List.mem_append_left _ (List.mem_append_right _ h))))))), good_of_word (gq_wsX30 w h)⟩
theorem gt_wsX11_odds_wsX40 : GoodIn wsX11_odds wsX40 := fun w h => ⟨List.mem_cons_of_mem _ (List.mem_append_left _ (List.mem_append_left _ (List.mem_append_left _ (List.mem_append_left _ (List.mem_append_left _ (List.mem_append_right _ h)))))), good_of_word (gq_wsX40 w h)⟩
theorem gt_wsX11_odds_wsX60 : GoodIn wsX11_odds wsX60 := fun w h => ⟨List.mem_cons_of_mem _ (List.mem_append_left _ (List.mem_append_left _ (List.mem_append_left _ (List.mem_append_left _ (List.mem_append_right _ h))))), good_of_word (gq_wsX60 w h)⟩
theorem gt_wsX11_odds_wsX70 : GoodIn wsX11_odds wsX70 := fun w h => ⟨List.mem_cons_of_mem _ (List.mem_append_left _ (List.mem_append_left _ (List.mem_append_left _ (List.mem_append_right _ h)))), good_of_word (gq_wsX70 w h)⟩
theorem gt_wsX11_odds_wsX80 : GoodIn wsX11_odds wsX80 := fun w h => ⟨List.mem_cons_of_mem _ (List.mem_append_left _ (List.mem_append_left _ (List.mem_append_right _ h))), good_of_word (gq_wsX80 w h)⟩
theorem gt_wsX11_odds_wsX100 : GoodIn wsX11_odds wsX100 := fun w h => ⟨List.mem_cons_of_mem _ (List.mem_append_left _ (List.mem_append_right _ h)), good_of_word (gq_wsX100 w h)⟩
theorem gt_wsX11_odds_wsX20 : GoodIn wsX11_odds wsX20 := fun w h => ⟨List.mem_cons_of_mem _ (List.mem_append_right _ h), good_of_word (gq_wsX20 w h)⟩
set_option maxRecDepth 20000 in
theorem ggX11_odds_X11_heldTimes : GoodIn wsX11_odds wsX11_heldTimes := goodIn_ca (goodIn_ca (goodIn_ca (goodIn_ca (goodIn_ca (goodIn_ca (goodIn_ca (goodIn_ca (goodIn_ca (goodIn_ca (goodIn_s _ [(35, 1), (4, 1), (36, 3), (14, 1), (39, 1), (17, 1), (40, 1), (22, 1), (26, 1), (23, 1), (18, 1), (41, 4), (21, 1), (24, 1), (45, 6), (25, 1), (19, 1), (51, 69), (20, 1), (120, 29)] rfl (by decide +kernel)) gt_wsX11_odds_wsX110) gt_wsX11_odds_wsX10) gt_wsX11_odds_wsX00) gt_wsX11_odds_wsX30) gt_wsX11_odds_wsX40) gt_wsX11_odds_wsX60) gt_wsX11_odds_wsX70) gt_wsX11_odds_wsX80) gt_wsX11_odds_wsX100) gt_wsX11_odds_wsX20
set_option maxRecDepth 20000 in
theorem gX11_odds_X11_heldTimes : GoodIn wsX11_odds (wsV RX11 193 RX11 yX11_heldTimes wsX11_heldTimes) := goodIn_app (goodIn_of _ (by decide +kernel)) ggX11_odds_X11_heldTimes
set_option maxRecDepth 20000 in
theorem ggX11_odds_X11_lowest : GoodIn wsX11_odds wsX11_lowest := goodIn_s _ [(151, 1), (1, 1)] rfl (by decide +kernel)
set_option maxRecDepth 20000 in
theorem gX11_odds_X11_lowest : GoodIn wsX11_odds (va_wsS RX11 275 yX11_lowest wsX11_lowest) := goodIn_app (goodIn_of _ (by decide +kernel)) ggX11_odds_X11_lowest
theorem dX11_odds_0 : decode cX11_odds 0 = .ok (.aload_n 0, 1) := o_42 (by decide +kernel)
theorem dX11_odds_1 : decode cX11_odds 1 = .ok (.iload_n 1, 1) := o_27 (by decide +kernel)
theorem dX11_odds_2 : decode cX11_odds 2 = .ok (.invokevirtual 110, 3) := o_182 (by decide +kernel)
theorem dX11_odds_5 : decode cX11_odds 5 = .ok (.ifCond .eq 23, 3) := o_153 (by decide +kernel)
theorem dX11_odds_8 : decode cX11_odds 8 = .ok (.iload_n 2, 1) := o_28 (by decide +kernel)
theorem dX11_odds_9 : decode cX11_odds 9 = .ok (.iconst 1, 1) := o_4 (by decide +kernel)
theorem dX11_odds_10 : decode cX11_odds 10 = .ok (.if_icmp .lt 18, 3) := o_161 (by decide +kernel)
theorem dX11_odds_13 : decode cX11_odds 13 = .ok (.iload_n 2, 1) := o_28 (by decide +kernel)
theorem dX11_odds_14 : decode cX11_odds 14 = .ok (.bipush 60, 2) := o_16 (by decide +kernel)
theorem dX11_odds_16 : decode cX11_odds 16 = .ok (.if_icmp .gt 12, 3) := o_163 (by decide +kernel)
theorem dX11_odds_19 : decode cX11_odds 19 = .ok (.iload_n 3, 1) := o_29 (by decide +kernel)
theorem dX11_odds_20 : decode cX11_odds 20 = .ok (.ifCond .eq 12, 3) := o_153 (by decide +kernel)
theorem dX11_odds_23 : decode cX11_odds 23 = .ok (.iload_n 3, 1) := o_29 (by decide +kernel)
theorem dX11_odds_24 : decode cX11_odds 24 = .ok (.iconst 1, 1) := o_4 (by decide +kernel)
theorem dX11_odds_25 : decode cX11_odds 25 = .ok (.if_icmp .eq 7, 3) := o_159 (by decide +kernel)
theorem dX11_odds_28 : decode cX11_odds 28 = .ok (.ldc2_w 273, 3) := o_20 (by decide +kernel)
theorem dX11_odds_31 : decode cX11_odds 31 = .ok (.lreturn, 1) := o_173 (by decide +kernel)
theorem dX11_odds_32 : decode cX11_odds 32 = .ok (.iconst 0, 1) := o_3 (by decide +kernel)
theorem dX11_odds_33 : decode cX11_odds 33 = .ok (.istore 4, 2) := o_54 (by decide +kernel)
theorem dX11_odds_35 : decode cX11_odds 35 = .ok (.iconst 0, 1) := o_3 (by decide +kernel)
theorem dX11_odds_36 : decode cX11_odds 36 = .ok (.istore 5, 2) := o_54 (by decide +kernel)
theorem dX11_odds_38 : decode cX11_odds 38 = .ok (.iload 5, 2) := o_21 (by decide +kernel)
theorem dX11_odds_40 : decode cX11_odds 40 = .ok (.aload_n 0, 1) := o_42 (by decide +kernel)
theorem dX11_odds_41 : decode cX11_odds 41 = .ok (.getfield 12, 3) := o_180 (by decide +kernel)
theorem dX11_odds_44 : decode cX11_odds 44 = .ok (.getfield 76, 3) := o_180 (by decide +kernel)
theorem dX11_odds_47 : decode cX11_odds 47 = .ok (.if_icmp .ge 46, 3) := o_162 (by decide +kernel)
theorem dX11_odds_50 : decode cX11_odds 50 = .ok (.aload_n 0, 1) := o_42 (by decide +kernel)
theorem dX11_odds_51 : decode cX11_odds 51 = .ok (.getfield 21, 3) := o_180 (by decide +kernel)
theorem dX11_odds_54 : decode cX11_odds 54 = .ok (.aload_n 0, 1) := o_42 (by decide +kernel)
theorem dX11_odds_55 : decode cX11_odds 55 = .ok (.getfield 12, 3) := o_180 (by decide +kernel)
theorem dX11_odds_58 : decode cX11_odds 58 = .ok (.invokevirtual 189, 3) := o_182 (by decide +kernel)
theorem dX11_odds_61 : decode cX11_odds 61 = .ok (.aload_n 0, 1) := o_42 (by decide +kernel)
theorem dX11_odds_62 : decode cX11_odds 62 = .ok (.getfield 21, 3) := o_180 (by decide +kernel)
theorem dX11_odds_65 : decode cX11_odds 65 = .ok (.getfield 133, 3) := o_180 (by decide +kernel)
theorem dX11_odds_68 : decode cX11_odds 68 = .ok (.iload 5, 2) := o_21 (by decide +kernel)
theorem dX11_odds_70 : decode cX11_odds 70 = .ok (.dup2, 1) := o_92 (by decide +kernel)
theorem dX11_odds_71 : decode cX11_odds 71 = .ok (.iaload, 1) := o_46 (by decide +kernel)
theorem dX11_odds_72 : decode cX11_odds 72 = .ok (.iconst 5, 1) := o_8 (by decide +kernel)
theorem dX11_odds_73 : decode cX11_odds 73 = .ok (.iadd, 1) := o_96 (by decide +kernel)
theorem dX11_odds_74 : decode cX11_odds 74 = .ok (.iastore, 1) := o_79 (by decide +kernel)
theorem dX11_odds_75 : decode cX11_odds 75 = .ok (.aload_n 0, 1) := o_42 (by decide +kernel)
theorem dX11_odds_76 : decode cX11_odds 76 = .ok (.iload_n 1, 1) := o_27 (by decide +kernel)
theorem dX11_odds_77 : decode cX11_odds 77 = .ok (.iload_n 2, 1) := o_28 (by decide +kernel)
theorem dX11_odds_78 : decode cX11_odds 78 = .ok (.invokevirtual 193, 3) := o_182 (by decide +kernel)
theorem dX11_odds_81 : decode cX11_odds 81 = .ok (.ifCond .le 6, 3) := o_158 (by decide +kernel)
theorem dX11_odds_84 : decode cX11_odds 84 = .ok (.iinc 4 1, 3) := o_132 (by decide +kernel)
theorem dX11_odds_87 : decode cX11_odds 87 = .ok (.iinc 5 1, 3) := o_132 (by decide +kernel)
theorem dX11_odds_90 : decode cX11_odds 90 = .ok (.goto (-52), 3) := o_167 (by decide +kernel)
theorem dX11_odds_93 : decode cX11_odds 93 = .ok (.iload 4, 2) := o_21 (by decide +kernel)
theorem dX11_odds_95 : decode cX11_odds 95 = .ok (.aload_n 0, 1) := o_42 (by decide +kernel)
theorem dX11_odds_96 : decode cX11_odds 96 = .ok (.getfield 12, 3) := o_180 (by decide +kernel)
theorem dX11_odds_99 : decode cX11_odds 99 = .ok (.getfield 76, 3) := o_180 (by decide +kernel)
theorem dX11_odds_102 : decode cX11_odds 102 = .ok (.iload_n 3, 1) := o_29 (by decide +kernel)
theorem dX11_odds_103 : decode cX11_odds 103 = .ok (.invokestatic 275, 3) := o_184 (by decide +kernel)
theorem dX11_odds_106 : decode cX11_odds 106 = .ok (.lreturn, 1) := o_173 (by decide +kernel)
theorem gt_wsX11_mean_wsX10 : GoodIn wsX11_mean wsX10 := fun w h => ⟨List.mem_cons_of_mem _ (List.mem_append_left _ (List.mem_append_left _ (List.mem_append_left _ (List.mem_append_left _ (List.mem_append_left _ (List.mem_append_left _ (List.mem_append_left _ (List.mem_append_left _ (List.mem_append_right _ h))))))))), good_of_word (gq_wsX10 w h)⟩
set_option maxRecDepth 20000 in
theorem ggX11_mean_X1_becomes : GoodIn wsX11_mean wsX1_becomes := goodIn_ca (goodIn_s _ [(9, 17)] rfl (by decide +kernel)) gt_wsX11_mean_wsX10
set_option maxRecDepth 20000 in
theorem gX11_mean_X1_becomes : GoodIn wsX11_mean (wsV RX11 189 RX1 yX1_becomes wsX1_becomes) := goodIn_app (goodIn_of _ (by decide +kernel)) ggX11_mean_X1_becomes
theorem gt_wsX11_mean_wsX00 : GoodIn wsX11_mean wsX00 := fun w h => ⟨List.mem_cons_of_mem _ (List.mem_append_left _ (List.mem_append_left _ (List.mem_append_left _ (List.mem_append_left _ (List.mem_append_left _ (List.mem_append_left _ (List.mem_append_left _ (List.mem_append_right _ h)))))))), good_of_word (gq_wsX00 w h)⟩
theorem gt_wsX11_mean_wsX30 : GoodIn wsX11_mean wsX30 := fun w h => ⟨List.mem_cons_of_mem _ (List.mem_append_left _ (List.mem_append_left _ (List.mem_append_left _ (List.mem_append_left _ (List.mem_append_left _ (List.mem_append_left _ (List.mem_append_right _ h))))))), good_of_word (gq_wsX30 w h)⟩
theorem gt_wsX11_mean_wsX40 : GoodIn wsX11_mean wsX40 := fun w h => ⟨List.mem_cons_of_mem _ (List.mem_append_left _ (List.mem_append_left _ (List.mem_append_left _ (List.mem_append_left _ (List.mem_append_left _ (List.mem_append_right _ h)))))), good_of_word (gq_wsX40 w h)⟩
theorem gt_wsX11_mean_wsX60 : GoodIn wsX11_mean wsX60 := fun w h => ⟨List.mem_cons_of_mem _ (List.mem_append_left _ (List.mem_append_left _ (List.mem_append_left _ (List.mem_append_left _ (List.mem_append_right _ h))))), good_of_word (gq_wsX60 w h)⟩
theorem gt_wsX11_mean_wsX70 : GoodIn wsX11_mean wsX70 := fun w h => ⟨List.mem_cons_of_mem _ (List.mem_append_left _ (List.mem_append_left _ (List.mem_append_left _ (List.mem_append_right _ h)))), good_of_word (gq_wsX70 w h)⟩
theorem gt_wsX11_mean_wsX80 : GoodIn wsX11_mean wsX80 := fun w h => ⟨List.mem_cons_of_mem _ (List.mem_append_left _ (List.mem_append_left _ (List.mem_append_right _ h))), good_of_word (gq_wsX80 w h)⟩
theorem gt_wsX11_mean_wsX100 : GoodIn wsX11_mean wsX100 := fun w h => ⟨List.mem_cons_of_mem _ (List.mem_append_left _ (List.mem_append_right _ h)), good_of_word (gq_wsX100 w h)⟩
theorem gt_wsX11_mean_wsX20 : GoodIn wsX11_mean wsX20 := fun w h => ⟨List.mem_cons_of_mem _ (List.mem_append_right _ h), good_of_word (gq_wsX20 w h)⟩
set_option maxRecDepth 20000 in
theorem ggX11_mean_X1_goes : GoodIn wsX11_mean wsX1_goes := goodIn_ca (goodIn_ca (goodIn_ca (goodIn_ca (goodIn_ca (goodIn_ca (goodIn_ca (goodIn_ca (goodIn_ca (goodIn_s _ [(29, 4), (8, 1), (33, 1), (11, 1), (34, 1), (16, 1), (20, 1), (17, 1), (12, 1), (35, 4), (15, 1), (18, 1), (39, 6), (19, 1), (13, 1), (45, 69), (14, 1), (114, 29)] rfl (by decide +kernel)) gt_wsX11_mean_wsX10) gt_wsX11_mean_wsX00) gt_wsX11_mean_wsX30) gt_wsX11_mean_wsX40) gt_wsX11_mean_wsX60) gt_wsX11_mean_wsX70) gt_wsX11_mean_wsX80) gt_wsX11_mean_wsX100) gt_wsX11_mean_wsX20
set_option maxRecDepth 20000 in
theorem gX11_mean_X1_goes : GoodIn wsX11_mean (wsV RX11 196 RX1 yX1_goes wsX1_goes) := goodIn_app (goodIn_of _ (by decide +kernel)) ggX11_mean_X1_goes
set_option maxRecDepth 20000 in
theorem ggX11_mean_X1_allAt : GoodIn wsX11_mean wsX1_allAt := goodIn_ca (goodIn_s _ [(146, 1), (10, 1), (17, 1)] rfl (by decide +kernel)) gt_wsX11_mean_wsX10
set_option maxRecDepth 20000 in
theorem gX11_mean_X1_allAt : GoodIn wsX11_mean (wsV RX11 199 RX1 yX1_allAt wsX1_allAt) := goodIn_app (goodIn_of _ (by decide +kernel)) ggX11_mean_X1_allAt
set_option maxRecDepth 20000 in
theorem ggX11_mean_X11_lowest : GoodIn wsX11_mean wsX11_lowest := goodIn_s _ [(150, 1), (3, 1)] rfl (by decide +kernel)
set_option maxRecDepth 20000 in
theorem gX11_mean_X11_lowest : GoodIn wsX11_mean (va_wsS RX11 275 yX11_lowest wsX11_lowest) := goodIn_app (goodIn_of _ (by decide +kernel)) ggX11_mean_X11_lowest
theorem dX11_mean_0 : decode cX11_mean 0 = .ok (.aload_n 0, 1) := o_42 (by decide +kernel)
theorem dX11_mean_1 : decode cX11_mean 1 = .ok (.getfield 12, 3) := o_180 (by decide +kernel)
theorem dX11_mean_4 : decode cX11_mean 4 = .ok (.getfield 76, 3) := o_180 (by decide +kernel)
theorem dX11_mean_7 : decode cX11_mean 7 = .ok (.ifCond .eq 23, 3) := o_153 (by decide +kernel)
theorem dX11_mean_10 : decode cX11_mean 10 = .ok (.iload_n 1, 1) := o_27 (by decide +kernel)
theorem dX11_mean_11 : decode cX11_mean 11 = .ok (.iconst 1, 1) := o_4 (by decide +kernel)
theorem dX11_mean_12 : decode cX11_mean 12 = .ok (.if_icmp .lt 18, 3) := o_161 (by decide +kernel)
theorem dX11_mean_15 : decode cX11_mean 15 = .ok (.iload_n 1, 1) := o_27 (by decide +kernel)
theorem dX11_mean_16 : decode cX11_mean 16 = .ok (.bipush 60, 2) := o_16 (by decide +kernel)
theorem dX11_mean_18 : decode cX11_mean 18 = .ok (.if_icmp .gt 12, 3) := o_163 (by decide +kernel)
theorem dX11_mean_21 : decode cX11_mean 21 = .ok (.iload_n 2, 1) := o_28 (by decide +kernel)
theorem dX11_mean_22 : decode cX11_mean 22 = .ok (.ifCond .eq 12, 3) := o_153 (by decide +kernel)
theorem dX11_mean_25 : decode cX11_mean 25 = .ok (.iload_n 2, 1) := o_28 (by decide +kernel)
theorem dX11_mean_26 : decode cX11_mean 26 = .ok (.iconst 1, 1) := o_4 (by decide +kernel)
theorem dX11_mean_27 : decode cX11_mean 27 = .ok (.if_icmp .eq 7, 3) := o_159 (by decide +kernel)
theorem dX11_mean_30 : decode cX11_mean 30 = .ok (.ldc2_w 273, 3) := o_20 (by decide +kernel)
theorem dX11_mean_33 : decode cX11_mean 33 = .ok (.lreturn, 1) := o_173 (by decide +kernel)
theorem dX11_mean_34 : decode cX11_mean 34 = .ok (.aload_n 0, 1) := o_42 (by decide +kernel)
theorem dX11_mean_35 : decode cX11_mean 35 = .ok (.getfield 21, 3) := o_180 (by decide +kernel)
theorem dX11_mean_38 : decode cX11_mean 38 = .ok (.aload_n 0, 1) := o_42 (by decide +kernel)
theorem dX11_mean_39 : decode cX11_mean 39 = .ok (.getfield 12, 3) := o_180 (by decide +kernel)
theorem dX11_mean_42 : decode cX11_mean 42 = .ok (.invokevirtual 189, 3) := o_182 (by decide +kernel)
theorem dX11_mean_45 : decode cX11_mean 45 = .ok (.aload_n 0, 1) := o_42 (by decide +kernel)
theorem dX11_mean_46 : decode cX11_mean 46 = .ok (.getfield 21, 3) := o_180 (by decide +kernel)
theorem dX11_mean_49 : decode cX11_mean 49 = .ok (.iload_n 1, 1) := o_27 (by decide +kernel)
theorem dX11_mean_50 : decode cX11_mean 50 = .ok (.invokevirtual 196, 3) := o_182 (by decide +kernel)
theorem dX11_mean_53 : decode cX11_mean 53 = .ok (.aload_n 0, 1) := o_42 (by decide +kernel)
theorem dX11_mean_54 : decode cX11_mean 54 = .ok (.getfield 21, 3) := o_180 (by decide +kernel)
theorem dX11_mean_57 : decode cX11_mean 57 = .ok (.invokevirtual 199, 3) := o_182 (by decide +kernel)
theorem dX11_mean_60 : decode cX11_mean 60 = .ok (.aload_n 0, 1) := o_42 (by decide +kernel)
theorem dX11_mean_61 : decode cX11_mean 61 = .ok (.getfield 12, 3) := o_180 (by decide +kernel)
theorem dX11_mean_64 : decode cX11_mean 64 = .ok (.getfield 76, 3) := o_180 (by decide +kernel)
theorem dX11_mean_67 : decode cX11_mean 67 = .ok (.iload_n 2, 1) := o_28 (by decide +kernel)
theorem dX11_mean_68 : decode cX11_mean 68 = .ok (.invokestatic 275, 3) := o_184 (by decide +kernel)
theorem dX11_mean_71 : decode cX11_mean 71 = .ok (.lreturn, 1) := o_173 (by decide +kernel)
theorem dX11_lowest_0 : decode cX11_lowest 0 = .ok (.iload_n 1, 1) := o_27 (by decide +kernel)
theorem dX11_lowest_1 : decode cX11_lowest 1 = .ok (.istore_n 3, 1) := o_62 (by decide +kernel)
theorem dX11_lowest_2 : decode cX11_lowest 2 = .ok (.iload_n 0, 1) := o_26 (by decide +kernel)
theorem dX11_lowest_3 : decode cX11_lowest 3 = .ok (.istore 4, 2) := o_54 (by decide +kernel)
theorem dX11_lowest_5 : decode cX11_lowest 5 = .ok (.iconst 0, 1) := o_3 (by decide +kernel)
theorem dX11_lowest_6 : decode cX11_lowest 6 = .ok (.istore 5, 2) := o_54 (by decide +kernel)
theorem dX11_lowest_8 : decode cX11_lowest 8 = .ok (.iload 5, 2) := o_21 (by decide +kernel)
theorem dX11_lowest_10 : decode cX11_lowest 10 = .ok (.bipush 100, 2) := o_16 (by decide +kernel)
theorem dX11_lowest_12 : decode cX11_lowest 12 = .ok (.if_icmp .ge 27, 3) := o_162 (by decide +kernel)
theorem dX11_lowest_15 : decode cX11_lowest 15 = .ok (.iload 4, 2) := o_21 (by decide +kernel)
theorem dX11_lowest_17 : decode cX11_lowest 17 = .ok (.ifCond .le 22, 3) := o_158 (by decide +kernel)
theorem dX11_lowest_20 : decode cX11_lowest 20 = .ok (.iload_n 3, 1) := o_29 (by decide +kernel)
theorem dX11_lowest_21 : decode cX11_lowest 21 = .ok (.iload 4, 2) := o_21 (by decide +kernel)
theorem dX11_lowest_23 : decode cX11_lowest 23 = .ok (.irem, 1) := o_112 (by decide +kernel)
theorem dX11_lowest_24 : decode cX11_lowest 24 = .ok (.istore 6, 2) := o_54 (by decide +kernel)
theorem dX11_lowest_26 : decode cX11_lowest 26 = .ok (.iload 4, 2) := o_21 (by decide +kernel)
theorem dX11_lowest_28 : decode cX11_lowest 28 = .ok (.istore_n 3, 1) := o_62 (by decide +kernel)
theorem dX11_lowest_29 : decode cX11_lowest 29 = .ok (.iload 6, 2) := o_21 (by decide +kernel)
theorem dX11_lowest_31 : decode cX11_lowest 31 = .ok (.istore 4, 2) := o_54 (by decide +kernel)
theorem dX11_lowest_33 : decode cX11_lowest 33 = .ok (.iinc 5 1, 3) := o_132 (by decide +kernel)
theorem dX11_lowest_36 : decode cX11_lowest 36 = .ok (.goto (-28), 3) := o_167 (by decide +kernel)
theorem dX11_lowest_39 : decode cX11_lowest 39 = .ok (.iload_n 3, 1) := o_29 (by decide +kernel)
theorem dX11_lowest_40 : decode cX11_lowest 40 = .ok (.iconst 1, 1) := o_4 (by decide +kernel)
theorem dX11_lowest_41 : decode cX11_lowest 41 = .ok (.if_icmp .ge 7, 3) := o_162 (by decide +kernel)
theorem dX11_lowest_44 : decode cX11_lowest 44 = .ok (.ldc2_w 273, 3) := o_20 (by decide +kernel)
theorem dX11_lowest_47 : decode cX11_lowest 47 = .ok (.lreturn, 1) := o_173 (by decide +kernel)
theorem dX11_lowest_48 : decode cX11_lowest 48 = .ok (.iload_n 2, 1) := o_28 (by decide +kernel)
theorem dX11_lowest_49 : decode cX11_lowest 49 = .ok (.ifCond .ne 7, 3) := o_154 (by decide +kernel)
theorem dX11_lowest_52 : decode cX11_lowest 52 = .ok (.iload_n 0, 1) := o_26 (by decide +kernel)
theorem dX11_lowest_53 : decode cX11_lowest 53 = .ok (.goto 4, 3) := o_167 (by decide +kernel)
theorem dX11_lowest_56 : decode cX11_lowest 56 = .ok (.iload_n 1, 1) := o_27 (by decide +kernel)
theorem dX11_lowest_57 : decode cX11_lowest 57 = .ok (.iload_n 3, 1) := o_29 (by decide +kernel)
theorem dX11_lowest_58 : decode cX11_lowest 58 = .ok (.idiv, 1) := o_108 (by decide +kernel)
theorem dX11_lowest_59 : decode cX11_lowest 59 = .ok (.i2l, 1) := o_133 (by decide +kernel)
theorem dX11_lowest_60 : decode cX11_lowest 60 = .ok (.lreturn, 1) := o_173 (by decide +kernel)
theorem gt_wsX11_plan_wsX50 : GoodIn wsX11_plan wsX50 := fun w h => ⟨List.mem_cons_of_mem _ (List.mem_append_right _ h), good_of_word (gq_wsX50 w h)⟩
set_option maxRecDepth 20000 in
theorem ggX11_plan_X5_isFull : GoodIn wsX11_plan wsX5_isFull := goodIn_ca (goodIn_s _ [(8, 3)] rfl (by decide +kernel)) gt_wsX11_plan_wsX50
set_option maxRecDepth 20000 in
theorem gX11_plan_X5_isFull : GoodIn wsX11_plan (wsV RX11 259 RX5 yX5_isFull wsX5_isFull) := goodIn_app (goodIn_of _ (by decide +kernel)) ggX11_plan_X5_isFull
set_option maxRecDepth 20000 in
theorem ggX11_plan_X5_comes : GoodIn wsX11_plan wsX5_comes := goodIn_ca (goodIn_s _ [(14, 1), (9, 2)] rfl (by decide +kernel)) gt_wsX11_plan_wsX50
set_option maxRecDepth 20000 in
theorem gX11_plan_X5_comes : GoodIn wsX11_plan (wsV RX11 262 RX5 yX5_comes wsX5_comes) := goodIn_app (goodIn_of _ (by decide +kernel)) ggX11_plan_X5_comes
theorem dX11_plan_0 : decode cX11_plan 0 = .ok (.iload_n 1, 1) := o_27 (by decide +kernel)
theorem dX11_plan_1 : decode cX11_plan 1 = .ok (.iconst (-1), 1) := o_2 (by decide +kernel)
theorem dX11_plan_2 : decode cX11_plan 2 = .ok (.if_icmp .ne 16, 3) := o_160 (by decide +kernel)
theorem dX11_plan_5 : decode cX11_plan 5 = .ok (.aload_n 0, 1) := o_42 (by decide +kernel)
theorem dX11_plan_6 : decode cX11_plan 6 = .ok (.getfield 12, 3) := o_180 (by decide +kernel)
theorem dX11_plan_9 : decode cX11_plan 9 = .ok (.getfield 279, 3) := o_180 (by decide +kernel)
theorem dX11_plan_12 : decode cX11_plan 12 = .ok (.iconst 0, 1) := o_3 (by decide +kernel)
theorem dX11_plan_13 : decode cX11_plan 13 = .ok (.putfield 256, 3) := o_181 (by decide +kernel)
theorem dX11_plan_16 : decode cX11_plan 16 = .ok (.iconst 0, 1) := o_3 (by decide +kernel)
theorem dX11_plan_17 : decode cX11_plan 17 = .ok (.ireturn, 1) := o_172 (by decide +kernel)
theorem dX11_plan_18 : decode cX11_plan 18 = .ok (.iload_n 1, 1) := o_27 (by decide +kernel)
theorem dX11_plan_19 : decode cX11_plan 19 = .ok (.ifCond .lt 8, 3) := o_155 (by decide +kernel)
theorem dX11_plan_22 : decode cX11_plan 22 = .ok (.iload_n 1, 1) := o_27 (by decide +kernel)
theorem dX11_plan_23 : decode cX11_plan 23 = .ok (.iconst 2, 1) := o_5 (by decide +kernel)
theorem dX11_plan_24 : decode cX11_plan 24 = .ok (.if_icmp .le 5, 3) := o_164 (by decide +kernel)
theorem dX11_plan_27 : decode cX11_plan 27 = .ok (.iconst (-1), 1) := o_2 (by decide +kernel)
theorem dX11_plan_28 : decode cX11_plan 28 = .ok (.ireturn, 1) := o_172 (by decide +kernel)
theorem dX11_plan_29 : decode cX11_plan 29 = .ok (.aload_n 0, 1) := o_42 (by decide +kernel)
theorem dX11_plan_30 : decode cX11_plan 30 = .ok (.getfield 12, 3) := o_180 (by decide +kernel)
theorem dX11_plan_33 : decode cX11_plan 33 = .ok (.getfield 279, 3) := o_180 (by decide +kernel)
theorem dX11_plan_36 : decode cX11_plan 36 = .ok (.invokevirtual 259, 3) := o_182 (by decide +kernel)
theorem dX11_plan_39 : decode cX11_plan 39 = .ok (.ifCond .eq 6, 3) := o_153 (by decide +kernel)
theorem dX11_plan_42 : decode cX11_plan 42 = .ok (.bipush (-4), 2) := o_16 (by decide +kernel)
theorem dX11_plan_44 : decode cX11_plan 44 = .ok (.ireturn, 1) := o_172 (by decide +kernel)
theorem dX11_plan_45 : decode cX11_plan 45 = .ok (.aload_n 0, 1) := o_42 (by decide +kernel)
theorem dX11_plan_46 : decode cX11_plan 46 = .ok (.getfield 12, 3) := o_180 (by decide +kernel)
theorem dX11_plan_49 : decode cX11_plan 49 = .ok (.getfield 279, 3) := o_180 (by decide +kernel)
theorem dX11_plan_52 : decode cX11_plan 52 = .ok (.iload_n 1, 1) := o_27 (by decide +kernel)
theorem dX11_plan_53 : decode cX11_plan 53 = .ok (.invokevirtual 262, 3) := o_182 (by decide +kernel)
theorem dX11_plan_56 : decode cX11_plan 56 = .ok (.aload_n 0, 1) := o_42 (by decide +kernel)
theorem dX11_plan_57 : decode cX11_plan 57 = .ok (.getfield 12, 3) := o_180 (by decide +kernel)
theorem dX11_plan_60 : decode cX11_plan 60 = .ok (.getfield 279, 3) := o_180 (by decide +kernel)
theorem dX11_plan_63 : decode cX11_plan 63 = .ok (.getfield 256, 3) := o_180 (by decide +kernel)
theorem dX11_plan_66 : decode cX11_plan 66 = .ok (.ireturn, 1) := o_172 (by decide +kernel)
theorem gt_wsX11_planned_wsX10 : GoodIn wsX11_planned wsX10 := fun w h => ⟨List.mem_cons_of_mem _ (List.mem_append_left _ (List.mem_append_left _ (List.mem_append_left _ (List.mem_append_left _ (List.mem_append_left _ (List.mem_append_left _ (List.mem_append_left _ (List.mem_append_left _ (List.mem_append_left _ (List.mem_append_right _ h)))))))))), good_of_word (gq_wsX10 w h)⟩
set_option maxRecDepth 20000 in
theorem ggX11_planned_X1_becomes : GoodIn wsX11_planned wsX1_becomes := goodIn_ca (goodIn_s _ [(10, 17)] rfl (by decide +kernel)) gt_wsX11_planned_wsX10
set_option maxRecDepth 20000 in
theorem gX11_planned_X1_becomes : GoodIn wsX11_planned (wsV RX11 189 RX1 yX1_becomes wsX1_becomes) := goodIn_app (goodIn_of _ (by decide +kernel)) ggX11_planned_X1_becomes
theorem gt_wsX11_planned_wsX00 : GoodIn wsX11_planned wsX00 := fun w h => ⟨List.mem_cons_of_mem _ (List.mem_append_left _ (List.mem_append_left _ (List.mem_append_left _ (List.mem_append_left _ (List.mem_append_left _ (List.mem_append_left _ (List.mem_append_left _ (List.mem_append_right _ h)))))))), good_of_word (gq_wsX00 w h)⟩
theorem gt_wsX11_planned_wsX30 : GoodIn wsX11_planned wsX30 := fun w h => ⟨List.mem_cons_of_mem _ (List.mem_append_left _ (List.mem_append_left _ (List.mem_append_left _ (List.mem_append_left _ (List.mem_append_left _ (List.mem_append_left _ (List.mem_append_right _ h))))))), good_of_word (gq_wsX30 w h)⟩
theorem gt_wsX11_planned_wsX40 : GoodIn wsX11_planned wsX40 := fun w h => ⟨List.mem_cons_of_mem _ (List.mem_append_left _ (List.mem_append_left _ (List.mem_append_left _ (List.mem_append_left _ (List.mem_append_left _ (List.mem_append_right _ h)))))), good_of_word (gq_wsX40 w h)⟩
theorem gt_wsX11_planned_wsX60 : GoodIn wsX11_planned wsX60 := fun w h => ⟨List.mem_cons_of_mem _ (List.mem_append_left _ (List.mem_append_left _ (List.mem_append_left _ (List.mem_append_left _ (List.mem_append_right _ h))))), good_of_word (gq_wsX60 w h)⟩
theorem gt_wsX11_planned_wsX70 : GoodIn wsX11_planned wsX70 := fun w h => ⟨List.mem_cons_of_mem _ (List.mem_append_left _ (List.mem_append_left _ (List.mem_append_left _ (List.mem_append_right _ h)))), good_of_word (gq_wsX70 w h)⟩
theorem gt_wsX11_planned_wsX80 : GoodIn wsX11_planned wsX80 := fun w h => ⟨List.mem_cons_of_mem _ (List.mem_append_left _ (List.mem_append_left _ (List.mem_append_right _ h))), good_of_word (gq_wsX80 w h)⟩
theorem gt_wsX11_planned_wsX100 : GoodIn wsX11_planned wsX100 := fun w h => ⟨List.mem_cons_of_mem _ (List.mem_append_left _ (List.mem_append_right _ h)), good_of_word (gq_wsX100 w h)⟩
theorem gt_wsX11_planned_wsX20 : GoodIn wsX11_planned wsX20 := fun w h => ⟨List.mem_cons_of_mem _ (List.mem_append_right _ h), good_of_word (gq_wsX20 w h)⟩
set_option maxRecDepth 20000 in
theorem ggX11_planned_X1_goesMinute : GoodIn wsX11_planned wsX1_goesMinute := goodIn_ca (goodIn_ca (goodIn_ca (goodIn_ca (goodIn_ca (goodIn_ca (goodIn_ca (goodIn_ca (goodIn_ca (goodIn_s _ [(30, 1), (12, 1), (31, 1), (17, 1), (21, 1), (18, 1), (13, 1), (32, 3), (9, 1), (35, 1), (16, 1), (19, 1), (36, 6), (20, 1), (14, 1), (42, 69), (15, 1), (111, 29)] rfl (by decide +kernel)) gt_wsX11_planned_wsX10) gt_wsX11_planned_wsX00) gt_wsX11_planned_wsX30) gt_wsX11_planned_wsX40) gt_wsX11_planned_wsX60) gt_wsX11_planned_wsX70) gt_wsX11_planned_wsX80) gt_wsX11_planned_wsX100) gt_wsX11_planned_wsX20
set_option maxRecDepth 20000 in
theorem gX11_planned_X1_goesMinute : GoodIn wsX11_planned (wsV RX11 180 RX1 yX1_goesMinute wsX1_goesMinute) := goodIn_app (goodIn_of _ (by decide +kernel)) ggX11_planned_X1_goesMinute
set_option maxRecDepth 20000 in
theorem ggX11_planned_X1_whetsAll : GoodIn wsX11_planned wsX1_whetsAll := goodIn_ca (goodIn_s _ [(143, 1), (11, 1), (19, 1), (144, 3), (9, 1), (147, 1), (20, 1), (132, 2), (130, 1), (134, 1), (21, 1), (13, 1)] rfl (by decide +kernel)) gt_wsX11_planned_wsX10
set_option maxRecDepth 20000 in
theorem gX11_planned_X1_whetsAll : GoodIn wsX11_planned (wsV RX11 183 RX1 yX1_whetsAll wsX1_whetsAll) := goodIn_app (goodIn_of _ (by decide +kernel)) ggX11_planned_X1_whetsAll
set_option maxRecDepth 20000 in
theorem ggX11_planned_X1_rests : GoodIn wsX11_planned wsX1_rests := goodIn_ca (goodIn_s _ [(151, 1), (144, 3), (9, 1), (147, 1), (11, 1), (20, 1), (132, 2), (130, 1), (134, 1), (21, 1), (13, 1)] rfl (by decide +kernel)) gt_wsX11_planned_wsX10
set_option maxRecDepth 20000 in
theorem gX11_planned_X1_rests : GoodIn wsX11_planned (wsV RX11 186 RX1 yX1_rests wsX1_rests) := goodIn_app (goodIn_of _ (by decide +kernel)) ggX11_planned_X1_rests
set_option maxRecDepth 20000 in
theorem ggX11_planned_X1_allAt : GoodIn wsX11_planned wsX1_allAt := goodIn_ca (goodIn_s _ [(155, 1), (11, 1), (18, 1)] rfl (by decide +kernel)) gt_wsX11_planned_wsX10
set_option maxRecDepth 20000 in
theorem gX11_planned_X1_allAt : GoodIn wsX11_planned (wsV RX11 199 RX1 yX1_allAt wsX1_allAt) := goodIn_app (goodIn_of _ (by decide +kernel)) ggX11_planned_X1_allAt
theorem dX11_planned_0 : decode cX11_planned 0 = .ok (.aload_n 0, 1) := o_42 (by decide +kernel)
theorem dX11_planned_1 : decode cX11_planned 1 = .ok (.getfield 21, 3) := o_180 (by decide +kernel)
theorem dX11_planned_4 : decode cX11_planned 4 = .ok (.aload_n 0, 1) := o_42 (by decide +kernel)
theorem dX11_planned_5 : decode cX11_planned 5 = .ok (.getfield 12, 3) := o_180 (by decide +kernel)
theorem dX11_planned_8 : decode cX11_planned 8 = .ok (.invokevirtual 189, 3) := o_182 (by decide +kernel)
theorem dX11_planned_11 : decode cX11_planned 11 = .ok (.iconst 0, 1) := o_3 (by decide +kernel)
theorem dX11_planned_12 : decode cX11_planned 12 = .ok (.istore_n 1, 1) := o_60 (by decide +kernel)
theorem dX11_planned_13 : decode cX11_planned 13 = .ok (.iload_n 1, 1) := o_27 (by decide +kernel)
theorem dX11_planned_14 : decode cX11_planned 14 = .ok (.aload_n 0, 1) := o_42 (by decide +kernel)
theorem dX11_planned_15 : decode cX11_planned 15 = .ok (.getfield 12, 3) := o_180 (by decide +kernel)
theorem dX11_planned_18 : decode cX11_planned 18 = .ok (.getfield 279, 3) := o_180 (by decide +kernel)
theorem dX11_planned_21 : decode cX11_planned 21 = .ok (.getfield 256, 3) := o_180 (by decide +kernel)
theorem dX11_planned_24 : decode cX11_planned 24 = .ok (.if_icmp .ge 60, 3) := o_162 (by decide +kernel)
theorem dX11_planned_27 : decode cX11_planned 27 = .ok (.aload_n 0, 1) := o_42 (by decide +kernel)
theorem dX11_planned_28 : decode cX11_planned 28 = .ok (.getfield 12, 3) := o_180 (by decide +kernel)
theorem dX11_planned_31 : decode cX11_planned 31 = .ok (.getfield 279, 3) := o_180 (by decide +kernel)
theorem dX11_planned_34 : decode cX11_planned 34 = .ok (.getfield 270, 3) := o_180 (by decide +kernel)
theorem dX11_planned_37 : decode cX11_planned 37 = .ok (.iload_n 1, 1) := o_27 (by decide +kernel)
theorem dX11_planned_38 : decode cX11_planned 38 = .ok (.iaload, 1) := o_46 (by decide +kernel)
theorem dX11_planned_39 : decode cX11_planned 39 = .ok (.istore_n 2, 1) := o_61 (by decide +kernel)
theorem dX11_planned_40 : decode cX11_planned 40 = .ok (.iload_n 2, 1) := o_28 (by decide +kernel)
theorem dX11_planned_41 : decode cX11_planned 41 = .ok (.ifCond .ne 14, 3) := o_154 (by decide +kernel)
theorem dX11_planned_44 : decode cX11_planned 44 = .ok (.aload_n 0, 1) := o_42 (by decide +kernel)
theorem dX11_planned_45 : decode cX11_planned 45 = .ok (.getfield 21, 3) := o_180 (by decide +kernel)
theorem dX11_planned_48 : decode cX11_planned 48 = .ok (.invokevirtual 180, 3) := o_182 (by decide +kernel)
theorem dX11_planned_51 : decode cX11_planned 51 = .ok (.pop, 1) := o_87 (by decide +kernel)
theorem dX11_planned_52 : decode cX11_planned 52 = .ok (.goto 26, 3) := o_167 (by decide +kernel)
theorem dX11_planned_55 : decode cX11_planned 55 = .ok (.iload_n 2, 1) := o_28 (by decide +kernel)
theorem dX11_planned_56 : decode cX11_planned 56 = .ok (.iconst 1, 1) := o_4 (by decide +kernel)
theorem dX11_planned_57 : decode cX11_planned 57 = .ok (.if_icmp .ne 13, 3) := o_160 (by decide +kernel)
theorem dX11_planned_60 : decode cX11_planned 60 = .ok (.aload_n 0, 1) := o_42 (by decide +kernel)
theorem dX11_planned_61 : decode cX11_planned 61 = .ok (.getfield 21, 3) := o_180 (by decide +kernel)
theorem dX11_planned_64 : decode cX11_planned 64 = .ok (.invokevirtual 183, 3) := o_182 (by decide +kernel)
theorem dX11_planned_67 : decode cX11_planned 67 = .ok (.goto 11, 3) := o_167 (by decide +kernel)
theorem dX11_planned_70 : decode cX11_planned 70 = .ok (.aload_n 0, 1) := o_42 (by decide +kernel)
theorem dX11_planned_71 : decode cX11_planned 71 = .ok (.getfield 21, 3) := o_180 (by decide +kernel)
theorem dX11_planned_74 : decode cX11_planned 74 = .ok (.iconst 1, 1) := o_4 (by decide +kernel)
theorem dX11_planned_75 : decode cX11_planned 75 = .ok (.invokevirtual 186, 3) := o_182 (by decide +kernel)
theorem dX11_planned_78 : decode cX11_planned 78 = .ok (.iinc 1 1, 3) := o_132 (by decide +kernel)
theorem dX11_planned_81 : decode cX11_planned 81 = .ok (.goto (-68), 3) := o_167 (by decide +kernel)
theorem dX11_planned_84 : decode cX11_planned 84 = .ok (.aload_n 0, 1) := o_42 (by decide +kernel)
theorem dX11_planned_85 : decode cX11_planned 85 = .ok (.getfield 21, 3) := o_180 (by decide +kernel)
theorem dX11_planned_88 : decode cX11_planned 88 = .ok (.invokevirtual 199, 3) := o_182 (by decide +kernel)
theorem dX11_planned_91 : decode cX11_planned 91 = .ok (.ireturn, 1) := o_172 (by decide +kernel)
theorem gt_wsX11_book_wsX110 : GoodIn wsX11_book wsX110 := fun w h => ⟨List.mem_cons_of_mem _ (List.mem_append_left _ (List.mem_append_left _ (List.mem_append_right _ h))), good_of_word (gq_wsX110 w h)⟩
theorem gt_wsX11_book_wsX10 : GoodIn wsX11_book wsX10 := fun w h => ⟨List.mem_cons_of_mem _ (List.mem_append_left _ (List.mem_append_right _ h)), good_of_word (gq_wsX10 w h)⟩
set_option maxRecDepth 20000 in
theorem ggX11_book_X11_isMower : GoodIn wsX11_book wsX11_isMower := goodIn_ca (goodIn_ca (goodIn_s _ [(8, 1), (1, 1), (9, 1)] rfl (by decide +kernel)) gt_wsX11_book_wsX110) gt_wsX11_book_wsX10
set_option maxRecDepth 20000 in
theorem gX11_book_X11_isMower : GoodIn wsX11_book (wsV RX11 110 RX11 yX11_isMower wsX11_isMower) := goodIn_app (goodIn_of _ (by decide +kernel)) ggX11_book_X11_isMower
theorem gt_wsX11_book_wsX50 : GoodIn wsX11_book wsX50 := fun w h => ⟨List.mem_cons_of_mem _ (List.mem_append_right _ h), good_of_word (gq_wsX50 w h)⟩
set_option maxRecDepth 20000 in
theorem ggX11_book_X5_isFull : GoodIn wsX11_book wsX5_isFull := goodIn_ca (goodIn_s _ [(14, 3)] rfl (by decide +kernel)) gt_wsX11_book_wsX50
set_option maxRecDepth 20000 in
theorem gX11_book_X5_isFull : GoodIn wsX11_book (wsV RX11 259 RX5 yX5_isFull wsX5_isFull) := goodIn_app (goodIn_of _ (by decide +kernel)) ggX11_book_X5_isFull
set_option maxRecDepth 20000 in
theorem ggX11_book_X5_comes : GoodIn wsX11_book wsX5_comes := goodIn_ca (goodIn_s _ [(20, 1), (15, 2)] rfl (by decide +kernel)) gt_wsX11_book_wsX50
set_option maxRecDepth 20000 in
theorem gX11_book_X5_comes : GoodIn wsX11_book (wsV RX11 262 RX5 yX5_comes wsX5_comes) := goodIn_app (goodIn_of _ (by decide +kernel)) ggX11_book_X5_comes
theorem dX11_book_0 : decode cX11_book 0 = .ok (.iload_n 1, 1) := o_27 (by decide +kernel)
theorem dX11_book_1 : decode cX11_book 1 = .ok (.iconst (-1), 1) := o_2 (by decide +kernel)
theorem dX11_book_2 : decode cX11_book 2 = .ok (.if_icmp .ne 16, 3) := o_160 (by decide +kernel)
theorem dX11_book_5 : decode cX11_book 5 = .ok (.aload_n 0, 1) := o_42 (by decide +kernel)
theorem dX11_book_6 : decode cX11_book 6 = .ok (.getfield 12, 3) := o_180 (by decide +kernel)
theorem dX11_book_9 : decode cX11_book 9 = .ok (.getfield 282, 3) := o_180 (by decide +kernel)
theorem dX11_book_12 : decode cX11_book 12 = .ok (.iconst 0, 1) := o_3 (by decide +kernel)
theorem dX11_book_13 : decode cX11_book 13 = .ok (.putfield 256, 3) := o_181 (by decide +kernel)
theorem dX11_book_16 : decode cX11_book 16 = .ok (.iconst 0, 1) := o_3 (by decide +kernel)
theorem dX11_book_17 : decode cX11_book 17 = .ok (.ireturn, 1) := o_172 (by decide +kernel)
theorem dX11_book_18 : decode cX11_book 18 = .ok (.aload_n 0, 1) := o_42 (by decide +kernel)
theorem dX11_book_19 : decode cX11_book 19 = .ok (.iload_n 1, 1) := o_27 (by decide +kernel)
theorem dX11_book_20 : decode cX11_book 20 = .ok (.invokevirtual 110, 3) := o_182 (by decide +kernel)
theorem dX11_book_23 : decode cX11_book 23 = .ok (.ifCond .ne 5, 3) := o_154 (by decide +kernel)
theorem dX11_book_26 : decode cX11_book 26 = .ok (.iconst (-1), 1) := o_2 (by decide +kernel)
theorem dX11_book_27 : decode cX11_book 27 = .ok (.ireturn, 1) := o_172 (by decide +kernel)
theorem dX11_book_28 : decode cX11_book 28 = .ok (.aload_n 0, 1) := o_42 (by decide +kernel)
theorem dX11_book_29 : decode cX11_book 29 = .ok (.getfield 12, 3) := o_180 (by decide +kernel)
theorem dX11_book_32 : decode cX11_book 32 = .ok (.getfield 282, 3) := o_180 (by decide +kernel)
theorem dX11_book_35 : decode cX11_book 35 = .ok (.invokevirtual 259, 3) := o_182 (by decide +kernel)
theorem dX11_book_38 : decode cX11_book 38 = .ok (.ifCond .eq 6, 3) := o_153 (by decide +kernel)
theorem dX11_book_41 : decode cX11_book 41 = .ok (.bipush (-4), 2) := o_16 (by decide +kernel)
theorem dX11_book_43 : decode cX11_book 43 = .ok (.ireturn, 1) := o_172 (by decide +kernel)
theorem dX11_book_44 : decode cX11_book 44 = .ok (.aload_n 0, 1) := o_42 (by decide +kernel)
theorem dX11_book_45 : decode cX11_book 45 = .ok (.getfield 12, 3) := o_180 (by decide +kernel)
theorem dX11_book_48 : decode cX11_book 48 = .ok (.getfield 282, 3) := o_180 (by decide +kernel)
theorem dX11_book_51 : decode cX11_book 51 = .ok (.iload_n 1, 1) := o_27 (by decide +kernel)
theorem dX11_book_52 : decode cX11_book 52 = .ok (.invokevirtual 262, 3) := o_182 (by decide +kernel)
theorem dX11_book_55 : decode cX11_book 55 = .ok (.aload_n 0, 1) := o_42 (by decide +kernel)
theorem dX11_book_56 : decode cX11_book 56 = .ok (.getfield 12, 3) := o_180 (by decide +kernel)
theorem dX11_book_59 : decode cX11_book 59 = .ok (.getfield 282, 3) := o_180 (by decide +kernel)
theorem dX11_book_62 : decode cX11_book 62 = .ok (.getfield 256, 3) := o_180 (by decide +kernel)
theorem dX11_book_65 : decode cX11_book 65 = .ok (.ireturn, 1) := o_172 (by decide +kernel)
theorem gt_wsX11_looked_wsX10 : GoodIn wsX11_looked wsX10 := fun w h => ⟨List.mem_cons_of_mem _ (List.mem_append_left _ (List.mem_append_left _ (List.mem_append_left _ (List.mem_append_left _ (List.mem_append_left _ (List.mem_append_left _ (List.mem_append_left _ (List.mem_append_left _ (List.mem_append_left _ (List.mem_append_right _ h)))))))))), good_of_word (gq_wsX10 w h)⟩
set_option maxRecDepth 20000 in
theorem ggX11_looked_X1_becomes : GoodIn wsX11_looked wsX1_becomes := goodIn_ca (goodIn_s _ [(10, 17)] rfl (by decide +kernel)) gt_wsX11_looked_wsX10
set_option maxRecDepth 20000 in
theorem gX11_looked_X1_becomes : GoodIn wsX11_looked (wsV RX11 189 RX1 yX1_becomes wsX1_becomes) := goodIn_app (goodIn_of _ (by decide +kernel)) ggX11_looked_X1_becomes
theorem gt_wsX11_looked_wsX00 : GoodIn wsX11_looked wsX00 := fun w h => ⟨List.mem_cons_of_mem _ (List.mem_append_left _ (List.mem_append_left _ (List.mem_append_left _ (List.mem_append_left _ (List.mem_append_left _ (List.mem_append_left _ (List.mem_append_left _ (List.mem_append_right _ h)))))))), good_of_word (gq_wsX00 w h)⟩
theorem gt_wsX11_looked_wsX30 : GoodIn wsX11_looked wsX30 := fun w h => ⟨List.mem_cons_of_mem _ (List.mem_append_left _ (List.mem_append_left _ (List.mem_append_left _ (List.mem_append_left _ (List.mem_append_left _ (List.mem_append_left _ (List.mem_append_right _ h))))))), good_of_word (gq_wsX30 w h)⟩
theorem gt_wsX11_looked_wsX40 : GoodIn wsX11_looked wsX40 := fun w h => ⟨List.mem_cons_of_mem _ (List.mem_append_left _ (List.mem_append_left _ (List.mem_append_left _ (List.mem_append_left _ (List.mem_append_left _ (List.mem_append_right _ h)))))), good_of_word (gq_wsX40 w h)⟩
theorem gt_wsX11_looked_wsX60 : GoodIn wsX11_looked wsX60 := fun w h => ⟨List.mem_cons_of_mem _ (List.mem_append_left _ (List.mem_append_left _ (List.mem_append_left _ (List.mem_append_left _ (List.mem_append_right _ h))))), good_of_word (gq_wsX60 w h)⟩
theorem gt_wsX11_looked_wsX70 : GoodIn wsX11_looked wsX70 := fun w h => ⟨List.mem_cons_of_mem _ (List.mem_append_left _ (List.mem_append_left _ (List.mem_append_left _ (List.mem_append_right _ h)))), good_of_word (gq_wsX70 w h)⟩
theorem gt_wsX11_looked_wsX80 : GoodIn wsX11_looked wsX80 := fun w h => ⟨List.mem_cons_of_mem _ (List.mem_append_left _ (List.mem_append_left _ (List.mem_append_right _ h))), good_of_word (gq_wsX80 w h)⟩
theorem gt_wsX11_looked_wsX100 : GoodIn wsX11_looked wsX100 := fun w h => ⟨List.mem_cons_of_mem _ (List.mem_append_left _ (List.mem_append_right _ h)), good_of_word (gq_wsX100 w h)⟩
theorem gt_wsX11_looked_wsX20 : GoodIn wsX11_looked wsX20 := fun w h => ⟨List.mem_cons_of_mem _ (List.mem_append_right _ h), good_of_word (gq_wsX20 w h)⟩
set_option maxRecDepth 20000 in
theorem ggX11_looked_X1_goesMinute : GoodIn wsX11_looked wsX1_goesMinute := goodIn_ca (goodIn_ca (goodIn_ca (goodIn_ca (goodIn_ca (goodIn_ca (goodIn_ca (goodIn_ca (goodIn_ca (goodIn_s _ [(30, 1), (12, 1), (31, 1), (17, 1), (21, 1), (18, 1), (13, 1), (32, 3), (9, 1), (35, 1), (16, 1), (19, 1), (36, 6), (20, 1), (14, 1), (42, 69), (15, 1), (111, 29)] rfl (by decide +kernel)) gt_wsX11_looked_wsX10) gt_wsX11_looked_wsX00) gt_wsX11_looked_wsX30) gt_wsX11_looked_wsX40) gt_wsX11_looked_wsX60) gt_wsX11_looked_wsX70) gt_wsX11_looked_wsX80) gt_wsX11_looked_wsX100) gt_wsX11_looked_wsX20
set_option maxRecDepth 20000 in
theorem gX11_looked_X1_goesMinute : GoodIn wsX11_looked (wsV RX11 180 RX1 yX1_goesMinute wsX1_goesMinute) := goodIn_app (goodIn_of _ (by decide +kernel)) ggX11_looked_X1_goesMinute
theorem dX11_looked_0 : decode cX11_looked 0 = .ok (.aload_n 0, 1) := o_42 (by decide +kernel)
theorem dX11_looked_1 : decode cX11_looked 1 = .ok (.getfield 21, 3) := o_180 (by decide +kernel)
theorem dX11_looked_4 : decode cX11_looked 4 = .ok (.aload_n 0, 1) := o_42 (by decide +kernel)
theorem dX11_looked_5 : decode cX11_looked 5 = .ok (.getfield 12, 3) := o_180 (by decide +kernel)
theorem dX11_looked_8 : decode cX11_looked 8 = .ok (.invokevirtual 189, 3) := o_182 (by decide +kernel)
theorem dX11_looked_11 : decode cX11_looked 11 = .ok (.aload_n 0, 1) := o_42 (by decide +kernel)
theorem dX11_looked_12 : decode cX11_looked 12 = .ok (.getfield 21, 3) := o_180 (by decide +kernel)
theorem dX11_looked_15 : decode cX11_looked 15 = .ok (.invokevirtual 180, 3) := o_182 (by decide +kernel)
theorem dX11_looked_18 : decode cX11_looked 18 = .ok (.istore_n 1, 1) := o_60 (by decide +kernel)
theorem dX11_looked_19 : decode cX11_looked 19 = .ok (.iconst 0, 1) := o_3 (by decide +kernel)
theorem dX11_looked_20 : decode cX11_looked 20 = .ok (.istore_n 2, 1) := o_61 (by decide +kernel)
theorem dX11_looked_21 : decode cX11_looked 21 = .ok (.iload_n 2, 1) := o_28 (by decide +kernel)
theorem dX11_looked_22 : decode cX11_looked 22 = .ok (.aload_n 0, 1) := o_42 (by decide +kernel)
theorem dX11_looked_23 : decode cX11_looked 23 = .ok (.getfield 12, 3) := o_180 (by decide +kernel)
theorem dX11_looked_26 : decode cX11_looked 26 = .ok (.getfield 282, 3) := o_180 (by decide +kernel)
theorem dX11_looked_29 : decode cX11_looked 29 = .ok (.getfield 256, 3) := o_180 (by decide +kernel)
theorem dX11_looked_32 : decode cX11_looked 32 = .ok (.if_icmp .ge 32, 3) := o_162 (by decide +kernel)
theorem dX11_looked_35 : decode cX11_looked 35 = .ok (.aload_n 0, 1) := o_42 (by decide +kernel)
theorem dX11_looked_36 : decode cX11_looked 36 = .ok (.getfield 12, 3) := o_180 (by decide +kernel)
theorem dX11_looked_39 : decode cX11_looked 39 = .ok (.getfield 282, 3) := o_180 (by decide +kernel)
theorem dX11_looked_42 : decode cX11_looked 42 = .ok (.getfield 270, 3) := o_180 (by decide +kernel)
theorem dX11_looked_45 : decode cX11_looked 45 = .ok (.iload_n 2, 1) := o_28 (by decide +kernel)
theorem dX11_looked_46 : decode cX11_looked 46 = .ok (.iaload, 1) := o_46 (by decide +kernel)
theorem dX11_looked_47 : decode cX11_looked 47 = .ok (.istore_n 3, 1) := o_62 (by decide +kernel)
theorem dX11_looked_48 : decode cX11_looked 48 = .ok (.iload_n 1, 1) := o_27 (by decide +kernel)
theorem dX11_looked_49 : decode cX11_looked 49 = .ok (.iload_n 3, 1) := o_29 (by decide +kernel)
theorem dX11_looked_50 : decode cX11_looked 50 = .ok (.ishr, 1) := o_122 (by decide +kernel)
theorem dX11_looked_51 : decode cX11_looked 51 = .ok (.iconst 1, 1) := o_4 (by decide +kernel)
theorem dX11_looked_52 : decode cX11_looked 52 = .ok (.iand, 1) := o_126 (by decide +kernel)
theorem dX11_looked_53 : decode cX11_looked 53 = .ok (.ifCond .ne 5, 3) := o_154 (by decide +kernel)
theorem dX11_looked_56 : decode cX11_looked 56 = .ok (.iload_n 3, 1) := o_29 (by decide +kernel)
theorem dX11_looked_57 : decode cX11_looked 57 = .ok (.ireturn, 1) := o_172 (by decide +kernel)
theorem dX11_looked_58 : decode cX11_looked 58 = .ok (.iinc 2 1, 3) := o_132 (by decide +kernel)
theorem dX11_looked_61 : decode cX11_looked 61 = .ok (.goto (-40), 3) := o_167 (by decide +kernel)
theorem dX11_looked_64 : decode cX11_looked 64 = .ok (.bipush (-5), 2) := o_16 (by decide +kernel)
theorem dX11_looked_66 : decode cX11_looked 66 = .ok (.ireturn, 1) := o_172 (by decide +kernel)
set_option maxRecDepth 20000 in
theorem ggX11_judge_X11_isTape : GoodIn wsX11_judge wsX11_isTape := goodIn_s _ [(10, 1)] rfl (by decide +kernel)
set_option maxRecDepth 20000 in
theorem gX11_judge_X11_isTape : GoodIn wsX11_judge (va_wsS RX11 285 yX11_isTape wsX11_isTape) := goodIn_app (goodIn_of _ (by decide +kernel)) ggX11_judge_X11_isTape
theorem gt_wsX11_judge_wsX90 : GoodIn wsX11_judge wsX90 := fun w h => ⟨List.mem_cons_of_mem _ (List.mem_append_left _ (List.mem_append_right _ h)), good_of_word (gq_wsX90 w h)⟩
set_option maxRecDepth 20000 in
theorem ggX11_judge_X9_isEmpty : GoodIn wsX11_judge wsX9_isEmpty := goodIn_ca (goodIn_s _ [(15, 2)] rfl (by decide +kernel)) gt_wsX11_judge_wsX90
set_option maxRecDepth 20000 in
theorem gX11_judge_X9_isEmpty : GoodIn wsX11_judge (wsV RX11 288 RX9 yX9_isEmpty wsX9_isEmpty) := goodIn_app (goodIn_of _ (by decide +kernel)) ggX11_judge_X9_isEmpty
set_option maxRecDepth 20000 in
theorem ggX11_judge_X9_has : GoodIn wsX11_judge wsX9_has := goodIn_ca (goodIn_s _ [(20, 2)] rfl (by decide +kernel)) gt_wsX11_judge_wsX90
set_option maxRecDepth 20000 in
theorem gX11_judge_X9_has : GoodIn wsX11_judge (wsV RX11 294 RX9 yX9_has wsX9_has) := goodIn_app (goodIn_of _ (by decide +kernel)) ggX11_judge_X9_has
theorem dX11_judge_0 : decode cX11_judge 0 = .ok (.iload_n 1, 1) := o_27 (by decide +kernel)
theorem dX11_judge_1 : decode cX11_judge 1 = .ok (.invokestatic 285, 3) := o_184 (by decide +kernel)
theorem dX11_judge_4 : decode cX11_judge 4 = .ok (.ifCond .ne 5, 3) := o_154 (by decide +kernel)
theorem dX11_judge_7 : decode cX11_judge 7 = .ok (.iconst (-1), 1) := o_2 (by decide +kernel)
theorem dX11_judge_8 : decode cX11_judge 8 = .ok (.ireturn, 1) := o_172 (by decide +kernel)
theorem dX11_judge_9 : decode cX11_judge 9 = .ok (.aload_n 0, 1) := o_42 (by decide +kernel)
theorem dX11_judge_10 : decode cX11_judge 10 = .ok (.getfield 47, 3) := o_180 (by decide +kernel)
theorem dX11_judge_13 : decode cX11_judge 13 = .ok (.iload_n 1, 1) := o_27 (by decide +kernel)
theorem dX11_judge_14 : decode cX11_judge 14 = .ok (.aaload, 1) := o_50 (by decide +kernel)
theorem dX11_judge_15 : decode cX11_judge 15 = .ok (.astore_n 3, 1) := o_78 (by decide +kernel)
theorem dX11_judge_16 : decode cX11_judge 16 = .ok (.aload_n 3, 1) := o_45 (by decide +kernel)
theorem dX11_judge_17 : decode cX11_judge 17 = .ok (.invokevirtual 288, 3) := o_182 (by decide +kernel)
theorem dX11_judge_20 : decode cX11_judge 20 = .ok (.ifCond .ne 14, 3) := o_154 (by decide +kernel)
theorem dX11_judge_23 : decode cX11_judge 23 = .ok (.aload_n 3, 1) := o_45 (by decide +kernel)
theorem dX11_judge_24 : decode cX11_judge 24 = .ok (.getfield 291, 3) := o_180 (by decide +kernel)
theorem dX11_judge_27 : decode cX11_judge 27 = .ok (.iconst 1, 1) := o_4 (by decide +kernel)
theorem dX11_judge_28 : decode cX11_judge 28 = .ok (.if_icmp .eq 6, 3) := o_159 (by decide +kernel)
theorem dX11_judge_31 : decode cX11_judge 31 = .ok (.bipush (-12), 2) := o_16 (by decide +kernel)
theorem dX11_judge_33 : decode cX11_judge 33 = .ok (.ireturn, 1) := o_172 (by decide +kernel)
theorem dX11_judge_34 : decode cX11_judge 34 = .ok (.iconst 0, 1) := o_3 (by decide +kernel)
theorem dX11_judge_35 : decode cX11_judge 35 = .ok (.istore 4, 2) := o_54 (by decide +kernel)
theorem dX11_judge_37 : decode cX11_judge 37 = .ok (.iload 4, 2) := o_21 (by decide +kernel)
theorem dX11_judge_39 : decode cX11_judge 39 = .ok (.aload_n 0, 1) := o_42 (by decide +kernel)
theorem dX11_judge_40 : decode cX11_judge 40 = .ok (.getfield 12, 3) := o_180 (by decide +kernel)
theorem dX11_judge_43 : decode cX11_judge 43 = .ok (.getfield 76, 3) := o_180 (by decide +kernel)
theorem dX11_judge_46 : decode cX11_judge 46 = .ok (.if_icmp .ge 61, 3) := o_162 (by decide +kernel)
theorem dX11_judge_49 : decode cX11_judge 49 = .ok (.aload_n 3, 1) := o_45 (by decide +kernel)
theorem dX11_judge_50 : decode cX11_judge 50 = .ok (.iload_n 2, 1) := o_28 (by decide +kernel)
theorem dX11_judge_51 : decode cX11_judge 51 = .ok (.invokevirtual 294, 3) := o_182 (by decide +kernel)
theorem dX11_judge_54 : decode cX11_judge 54 = .ok (.ifCond .eq 14, 3) := o_153 (by decide +kernel)
theorem dX11_judge_57 : decode cX11_judge 57 = .ok (.aload_n 3, 1) := o_45 (by decide +kernel)
theorem dX11_judge_58 : decode cX11_judge 58 = .ok (.iload_n 2, 1) := o_28 (by decide +kernel)
theorem dX11_judge_59 : decode cX11_judge 59 = .ok (.iload 4, 2) := o_21 (by decide +kernel)
theorem dX11_judge_61 : decode cX11_judge 61 = .ok (.iadd, 1) := o_96 (by decide +kernel)
theorem dX11_judge_62 : decode cX11_judge 62 = .ok (.invokevirtual 294, 3) := o_182 (by decide +kernel)
theorem dX11_judge_65 : decode cX11_judge 65 = .ok (.ifCond .ne 9, 3) := o_154 (by decide +kernel)
theorem dX11_judge_68 : decode cX11_judge 68 = .ok (.bipush 100, 2) := o_16 (by decide +kernel)
theorem dX11_judge_70 : decode cX11_judge 70 = .ok (.iload 4, 2) := o_21 (by decide +kernel)
theorem dX11_judge_72 : decode cX11_judge 72 = .ok (.iadd, 1) := o_96 (by decide +kernel)
theorem dX11_judge_73 : decode cX11_judge 73 = .ok (.ireturn, 1) := o_172 (by decide +kernel)
theorem dX11_judge_74 : decode cX11_judge 74 = .ok (.aload_n 3, 1) := o_45 (by decide +kernel)
theorem dX11_judge_75 : decode cX11_judge 75 = .ok (.getfield 297, 3) := o_180 (by decide +kernel)
theorem dX11_judge_78 : decode cX11_judge 78 = .ok (.iload_n 2, 1) := o_28 (by decide +kernel)
theorem dX11_judge_79 : decode cX11_judge 79 = .ok (.iload 4, 2) := o_21 (by decide +kernel)
theorem dX11_judge_81 : decode cX11_judge 81 = .ok (.iadd, 1) := o_96 (by decide +kernel)
theorem dX11_judge_82 : decode cX11_judge 82 = .ok (.laload, 1) := o_47 (by decide +kernel)
theorem dX11_judge_83 : decode cX11_judge 83 = .ok (.aload_n 0, 1) := o_42 (by decide +kernel)
theorem dX11_judge_84 : decode cX11_judge 84 = .ok (.getfield 12, 3) := o_180 (by decide +kernel)
theorem dX11_judge_87 : decode cX11_judge 87 = .ok (.getfield 124, 3) := o_180 (by decide +kernel)
theorem dX11_judge_90 : decode cX11_judge 90 = .ok (.iload 4, 2) := o_21 (by decide +kernel)
theorem dX11_judge_92 : decode cX11_judge 92 = .ok (.iaload, 1) := o_46 (by decide +kernel)
theorem dX11_judge_93 : decode cX11_judge 93 = .ok (.i2l, 1) := o_133 (by decide +kernel)
theorem dX11_judge_94 : decode cX11_judge 94 = .ok (.lcmp, 1) := o_148 (by decide +kernel)
theorem dX11_judge_95 : decode cX11_judge 95 = .ok (.ifCond .eq 6, 3) := o_153 (by decide +kernel)
theorem dX11_judge_98 : decode cX11_judge 98 = .ok (.iload 4, 2) := o_21 (by decide +kernel)
theorem dX11_judge_100 : decode cX11_judge 100 = .ok (.ireturn, 1) := o_172 (by decide +kernel)
theorem dX11_judge_101 : decode cX11_judge 101 = .ok (.iinc 4 1, 3) := o_132 (by decide +kernel)
theorem dX11_judge_104 : decode cX11_judge 104 = .ok (.goto (-67), 3) := o_167 (by decide +kernel)
theorem dX11_judge_107 : decode cX11_judge 107 = .ok (.bipush (-5), 2) := o_16 (by decide +kernel)
theorem dX11_judge_109 : decode cX11_judge 109 = .ok (.ireturn, 1) := o_172 (by decide +kernel)
theorem gt_wsX11_image_wsX10 : GoodIn wsX11_image wsX10 := fun w h => ⟨List.mem_cons_of_mem _ (List.mem_append_left _ (List.mem_append_right _ h)), good_of_word (gq_wsX10 w h)⟩
set_option maxRecDepth 20000 in
theorem ggX11_image_X1_becomes : GoodIn wsX11_image wsX1_becomes := goodIn_ca (goodIn_s _ [(9, 17)] rfl (by decide +kernel)) gt_wsX11_image_wsX10
set_option maxRecDepth 20000 in
theorem gX11_image_X1_becomes : GoodIn wsX11_image (wsV RX11 189 RX1 yX1_becomes wsX1_becomes) := goodIn_app (goodIn_of _ (by decide +kernel)) ggX11_image_X1_becomes
theorem gt_wsX11_image_wsX50 : GoodIn wsX11_image wsX50 := fun w h => ⟨List.mem_cons_of_mem _ (List.mem_append_right _ h), good_of_word (gq_wsX50 w h)⟩
set_option maxRecDepth 20000 in
theorem ggX11_image_X1_becomesTold : GoodIn wsX11_image wsX1_becomesTold := goodIn_ca (goodIn_ca (goodIn_s _ [(29, 16), (23, 3)] rfl (by decide +kernel)) gt_wsX11_image_wsX10) gt_wsX11_image_wsX50
set_option maxRecDepth 20000 in
theorem gX11_image_X1_becomesTold : GoodIn wsX11_image (wsV RX11 301 RX1 yX1_becomesTold wsX1_becomesTold) := goodIn_app (goodIn_of _ (by decide +kernel)) ggX11_image_X1_becomesTold
theorem dX11_image_0 : decode cX11_image 0 = .ok (.aload_n 0, 1) := o_42 (by decide +kernel)
theorem dX11_image_1 : decode cX11_image 1 = .ok (.getfield 18, 3) := o_180 (by decide +kernel)
theorem dX11_image_4 : decode cX11_image 4 = .ok (.aload_n 0, 1) := o_42 (by decide +kernel)
theorem dX11_image_5 : decode cX11_image 5 = .ok (.getfield 12, 3) := o_180 (by decide +kernel)
theorem dX11_image_8 : decode cX11_image 8 = .ok (.invokevirtual 189, 3) := o_182 (by decide +kernel)
theorem dX11_image_11 : decode cX11_image 11 = .ok (.aload_n 0, 1) := o_42 (by decide +kernel)
theorem dX11_image_12 : decode cX11_image 12 = .ok (.getfield 18, 3) := o_180 (by decide +kernel)
theorem dX11_image_15 : decode cX11_image 15 = .ok (.aload_n 0, 1) := o_42 (by decide +kernel)
theorem dX11_image_16 : decode cX11_image 16 = .ok (.getfield 12, 3) := o_180 (by decide +kernel)
theorem dX11_image_19 : decode cX11_image 19 = .ok (.invokevirtual 301, 3) := o_182 (by decide +kernel)
theorem dX11_image_22 : decode cX11_image 22 = .ok (.aload_n 0, 1) := o_42 (by decide +kernel)
theorem dX11_image_23 : decode cX11_image 23 = .ok (.iconst 1, 1) := o_4 (by decide +kernel)
theorem dX11_image_24 : decode cX11_image 24 = .ok (.putfield 24, 3) := o_181 (by decide +kernel)
theorem dX11_image_27 : decode cX11_image 27 = .ok (.aload_n 0, 1) := o_42 (by decide +kernel)
theorem dX11_image_28 : decode cX11_image 28 = .ok (.getfield 12, 3) := o_180 (by decide +kernel)
theorem dX11_image_31 : decode cX11_image 31 = .ok (.getfield 76, 3) := o_180 (by decide +kernel)
theorem dX11_image_34 : decode cX11_image 34 = .ok (.ireturn, 1) := o_172 (by decide +kernel)
theorem gt_wsX11_undo_wsX10 : GoodIn wsX11_undo wsX10 := fun w h => ⟨List.mem_cons_of_mem _ (List.mem_append_left _ (List.mem_append_right _ h)), good_of_word (gq_wsX10 w h)⟩
set_option maxRecDepth 20000 in
theorem ggX11_undo_X1_becomes : GoodIn wsX11_undo wsX1_becomes := goodIn_ca (goodIn_s _ [(9, 17)] rfl (by decide +kernel)) gt_wsX11_undo_wsX10
set_option maxRecDepth 20000 in
theorem gX11_undo_X1_becomes : GoodIn wsX11_undo (wsV RX11 189 RX1 yX1_becomes wsX1_becomes) := goodIn_app (goodIn_of _ (by decide +kernel)) ggX11_undo_X1_becomes
theorem gt_wsX11_undo_wsX50 : GoodIn wsX11_undo wsX50 := fun w h => ⟨List.mem_cons_of_mem _ (List.mem_append_right _ h), good_of_word (gq_wsX50 w h)⟩
set_option maxRecDepth 20000 in
theorem ggX11_undo_X1_becomesTold : GoodIn wsX11_undo wsX1_becomesTold := goodIn_ca (goodIn_ca (goodIn_s _ [(29, 16), (23, 3)] rfl (by decide +kernel)) gt_wsX11_undo_wsX10) gt_wsX11_undo_wsX50
set_option maxRecDepth 20000 in
theorem gX11_undo_X1_becomesTold : GoodIn wsX11_undo (wsV RX11 301 RX1 yX1_becomesTold wsX1_becomesTold) := goodIn_app (goodIn_of _ (by decide +kernel)) ggX11_undo_X1_becomesTold
theorem dX11_undo_0 : decode cX11_undo 0 = .ok (.aload_n 0, 1) := o_42 (by decide +kernel)
theorem dX11_undo_1 : decode cX11_undo 1 = .ok (.getfield 24, 3) := o_180 (by decide +kernel)
theorem dX11_undo_4 : decode cX11_undo 4 = .ok (.ifCond .ne 6, 3) := o_154 (by decide +kernel)
theorem dX11_undo_7 : decode cX11_undo 7 = .ok (.bipush (-3), 2) := o_16 (by decide +kernel)
theorem dX11_undo_9 : decode cX11_undo 9 = .ok (.ireturn, 1) := o_172 (by decide +kernel)
theorem dX11_undo_10 : decode cX11_undo 10 = .ok (.aload_n 0, 1) := o_42 (by decide +kernel)
theorem dX11_undo_11 : decode cX11_undo 11 = .ok (.getfield 12, 3) := o_180 (by decide +kernel)
theorem dX11_undo_14 : decode cX11_undo 14 = .ok (.aload_n 0, 1) := o_42 (by decide +kernel)
theorem dX11_undo_15 : decode cX11_undo 15 = .ok (.getfield 18, 3) := o_180 (by decide +kernel)
theorem dX11_undo_18 : decode cX11_undo 18 = .ok (.invokevirtual 189, 3) := o_182 (by decide +kernel)
theorem dX11_undo_21 : decode cX11_undo 21 = .ok (.aload_n 0, 1) := o_42 (by decide +kernel)
theorem dX11_undo_22 : decode cX11_undo 22 = .ok (.getfield 12, 3) := o_180 (by decide +kernel)
theorem dX11_undo_25 : decode cX11_undo 25 = .ok (.aload_n 0, 1) := o_42 (by decide +kernel)
theorem dX11_undo_26 : decode cX11_undo 26 = .ok (.getfield 18, 3) := o_180 (by decide +kernel)
theorem dX11_undo_29 : decode cX11_undo 29 = .ok (.invokevirtual 301, 3) := o_182 (by decide +kernel)
theorem dX11_undo_32 : decode cX11_undo 32 = .ok (.aload_n 0, 1) := o_42 (by decide +kernel)
theorem dX11_undo_33 : decode cX11_undo 33 = .ok (.getfield 12, 3) := o_180 (by decide +kernel)
theorem dX11_undo_36 : decode cX11_undo 36 = .ok (.getfield 76, 3) := o_180 (by decide +kernel)
theorem dX11_undo_39 : decode cX11_undo 39 = .ok (.ireturn, 1) := o_172 (by decide +kernel)
theorem gt_wsX11_act_wsX110 : GoodIn wsX11_act wsX110 := fun w h => ⟨List.mem_cons_of_mem _ (List.mem_append_left _ (List.mem_append_left _ (List.mem_append_left _ (List.mem_append_left _ (List.mem_append_left _ (List.mem_append_left _ (List.mem_append_left _ (List.mem_append_left _ (List.mem_append_left _ (List.mem_append_right _ h)))))))))), good_of_word (gq_wsX110 w h)⟩
theorem gt_wsX11_act_wsX10 : GoodIn wsX11_act wsX10 := fun w h => ⟨List.mem_cons_of_mem _ (List.mem_append_left _ (List.mem_append_left _ (List.mem_append_left _ (List.mem_append_left _ (List.mem_append_left _ (List.mem_append_left _ (List.mem_append_left _ (List.mem_append_right _ h)))))))), good_of_word (gq_wsX10 w h)⟩
set_option maxRecDepth 20000 in
theorem ggX11_act_X11_isMower : GoodIn wsX11_act wsX11_isMower := goodIn_ca (goodIn_ca (goodIn_s _ [(9, 1), (3, 1), (10, 1)] rfl (by decide +kernel)) gt_wsX11_act_wsX110) gt_wsX11_act_wsX10
set_option maxRecDepth 20000 in
theorem gX11_act_X11_isMower : GoodIn wsX11_act (wsV RX11 110 RX11 yX11_isMower wsX11_isMower) := goodIn_app (goodIn_of _ (by decide +kernel)) ggX11_act_X11_isMower
theorem gt_wsX11_act_wsX00 : GoodIn wsX11_act wsX00 := fun w h => ⟨List.mem_cons_of_mem _ (List.mem_append_left _ (List.mem_append_left _ (List.mem_append_left _ (List.mem_append_left _ (List.mem_append_left _ (List.mem_append_left _ (List.mem_append_right _ h))))))), good_of_word (gq_wsX00 w h)⟩
theorem gt_wsX11_act_wsX30 : GoodIn wsX11_act wsX30 := fun w h => ⟨List.mem_cons_of_mem _ (List.mem_append_left _ (List.mem_append_left _ (List.mem_append_left _ (List.mem_append_left _ (List.mem_append_left _ (List.mem_append_right _ h)))))), good_of_word (gq_wsX30 w h)⟩
theorem gt_wsX11_act_wsX40 : GoodIn wsX11_act wsX40 := fun w h => ⟨List.mem_cons_of_mem _ (List.mem_append_left _ (List.mem_append_left _ (List.mem_append_left _ (List.mem_append_left _ (List.mem_append_right _ h))))), good_of_word (gq_wsX40 w h)⟩
theorem gt_wsX11_act_wsX60 : GoodIn wsX11_act wsX60 := fun w h => ⟨List.mem_cons_of_mem _ (List.mem_append_left _ (List.mem_append_left _ (List.mem_append_left _ (List.mem_append_right _ h)))), good_of_word (gq_wsX60 w h)⟩
theorem gt_wsX11_act_wsX70 : GoodIn wsX11_act wsX70 := fun w h => ⟨List.mem_cons_of_mem _ (List.mem_append_left _ (List.mem_append_left _ (List.mem_append_right _ h))), good_of_word (gq_wsX70 w h)⟩
theorem gt_wsX11_act_wsX80 : GoodIn wsX11_act wsX80 := fun w h => ⟨List.mem_cons_of_mem _ (List.mem_append_left _ (List.mem_append_right _ h)), good_of_word (gq_wsX80 w h)⟩
theorem gt_wsX11_act_wsX100 : GoodIn wsX11_act wsX100 := fun w h => ⟨List.mem_cons_of_mem _ (List.mem_append_right _ h), good_of_word (gq_wsX100 w h)⟩
theorem gt_wsX11_act_wsX50 : GoodIn wsX11_act wsX50 := fun w h => ⟨List.mem_cons_of_mem _ (List.mem_append_left _ (List.mem_append_left _ (List.mem_append_left _ (List.mem_append_left _ (List.mem_append_left _ (List.mem_append_left _ (List.mem_append_left _ (List.mem_append_left _ (List.mem_append_right _ h))))))))), good_of_word (gq_wsX50 w h)⟩
set_option maxRecDepth 20000 in
theorem ggX11_act_X4_mowing : GoodIn wsX11_act wsX4_mowing := goodIn_ca (goodIn_ca (goodIn_ca (goodIn_ca (goodIn_ca (goodIn_ca (goodIn_ca (goodIn_ca (goodIn_s _ [(16, 9)] rfl (by decide +kernel)) gt_wsX11_act_wsX00) gt_wsX11_act_wsX30) gt_wsX11_act_wsX40) gt_wsX11_act_wsX60) gt_wsX11_act_wsX70) gt_wsX11_act_wsX80) gt_wsX11_act_wsX100) gt_wsX11_act_wsX50
set_option maxRecDepth 20000 in
theorem gX11_act_X4_mowing_u304X0 : GoodIn wsX11_act (va_wsU RX11 304 RX0 "NineMowers$Mower" ⟨"NineMowers$Mower", "mowing", "(ILNineMowers$Numbers;)I"⟩ yX4_mowing wsX4_mowing) := goodIn_app (goodIn_of _ (by decide +kernel)) ggX11_act_X4_mowing
set_option maxRecDepth 20000 in
theorem ggX11_act_X3_mowing : GoodIn wsX11_act wsX3_mowing := goodIn_ca (goodIn_ca (goodIn_ca (goodIn_ca (goodIn_ca (goodIn_ca (goodIn_ca (goodIn_ca (goodIn_s _ [(29, 2), (19, 6), (31, 1), (12, 1), (32, 1), (14, 5)] rfl (by decide +kernel)) gt_wsX11_act_wsX50) gt_wsX11_act_wsX00) gt_wsX11_act_wsX30) gt_wsX11_act_wsX40) gt_wsX11_act_wsX60) gt_wsX11_act_wsX70) gt_wsX11_act_wsX80) gt_wsX11_act_wsX100
set_option maxRecDepth 20000 in
theorem gX11_act_X3_mowing_u304X3 : GoodIn wsX11_act (va_wsO RX11 304 RX3 "NineMowers$Mower" ⟨"NineMowers$Mower", "mowing", "(ILNineMowers$Numbers;)I"⟩ yX3_mowing wsX3_mowing) := goodIn_app (goodIn_of _ (by decide +kernel)) ggX11_act_X3_mowing
set_option maxRecDepth 20000 in
theorem gX11_act_X4_mowing : GoodIn wsX11_act (wsV RX11 304 RX4 yX4_mowing wsX4_mowing) := goodIn_app (goodIn_of _ (by decide +kernel)) ggX11_act_X4_mowing
set_option maxRecDepth 20000 in
theorem ggX11_act_X6_mowing : GoodIn wsX11_act wsX6_mowing := goodIn_ca (goodIn_s _ [(38, 2), (19, 6)] rfl (by decide +kernel)) gt_wsX11_act_wsX50
set_option maxRecDepth 20000 in
theorem gX11_act_X6_mowing_u304X6 : GoodIn wsX11_act (va_wsO RX11 304 RX6 "NineMowers$Mower" ⟨"NineMowers$Mower", "mowing", "(ILNineMowers$Numbers;)I"⟩ yX6_mowing wsX6_mowing) := goodIn_app (goodIn_of _ (by decide +kernel)) ggX11_act_X6_mowing
set_option maxRecDepth 20000 in
theorem gX11_act_X3_mowing_u304X7 : GoodIn wsX11_act (va_wsO RX11 304 RX7 "NineMowers$Mower" ⟨"NineMowers$Mower", "mowing", "(ILNineMowers$Numbers;)I"⟩ yX3_mowing wsX3_mowing) := goodIn_app (goodIn_of _ (by decide +kernel)) ggX11_act_X3_mowing
set_option maxRecDepth 20000 in
theorem gX11_act_X4_mowing_u304X8 : GoodIn wsX11_act (va_wsU RX11 304 RX8 "NineMowers$Mower" ⟨"NineMowers$Mower", "mowing", "(ILNineMowers$Numbers;)I"⟩ yX4_mowing wsX4_mowing) := goodIn_app (goodIn_of _ (by decide +kernel)) ggX11_act_X4_mowing
set_option maxRecDepth 20000 in
theorem ggX11_act_X10_mowing : GoodIn wsX11_act wsX10_mowing := goodIn_ca (goodIn_ca (goodIn_ca (goodIn_ca (goodIn_ca (goodIn_ca (goodIn_ca (goodIn_ca (goodIn_s _ [(45, 4), (19, 6)] rfl (by decide +kernel)) gt_wsX11_act_wsX00) gt_wsX11_act_wsX30) gt_wsX11_act_wsX40) gt_wsX11_act_wsX60) gt_wsX11_act_wsX70) gt_wsX11_act_wsX80) gt_wsX11_act_wsX100) gt_wsX11_act_wsX50
set_option maxRecDepth 20000 in
theorem gX11_act_X10_mowing_u304X10 : GoodIn wsX11_act (va_wsO RX11 304 RX10 "NineMowers$Mower" ⟨"NineMowers$Mower", "mowing", "(ILNineMowers$Numbers;)I"⟩ yX10_mowing wsX10_mowing) := goodIn_app (goodIn_of _ (by decide +kernel)) ggX11_act_X10_mowing
set_option maxRecDepth 20000 in
theorem ggX11_act_X4_whetting : GoodIn wsX11_act wsX4_whetting := goodIn_ca (goodIn_ca (goodIn_ca (goodIn_ca (goodIn_ca (goodIn_ca (goodIn_ca (goodIn_ca (goodIn_s _ [(53, 2), (18, 7), (55, 1), (12, 6), (25, 8), (56, 1), (34, 15)] rfl (by decide +kernel)) gt_wsX11_act_wsX00) gt_wsX11_act_wsX30) gt_wsX11_act_wsX40) gt_wsX11_act_wsX60) gt_wsX11_act_wsX70) gt_wsX11_act_wsX80) gt_wsX11_act_wsX100) gt_wsX11_act_wsX50
set_option maxRecDepth 20000 in
theorem gX11_act_X4_whetting_u308X0 : GoodIn wsX11_act (va_wsU RX11 308 RX0 "NineMowers$Mower" ⟨"NineMowers$Mower", "whetting", "(ILNineMowers$Numbers;)I"⟩ yX4_whetting wsX4_whetting) := goodIn_app (goodIn_of _ (by decide +kernel)) ggX11_act_X4_whetting
set_option maxRecDepth 20000 in
theorem gX11_act_X4_whetting_u308X3 : GoodIn wsX11_act (va_wsU RX11 308 RX3 "NineMowers$Mower" ⟨"NineMowers$Mower", "whetting", "(ILNineMowers$Numbers;)I"⟩ yX4_whetting wsX4_whetting) := goodIn_app (goodIn_of _ (by decide +kernel)) ggX11_act_X4_whetting
set_option maxRecDepth 20000 in
theorem gX11_act_X4_whetting : GoodIn wsX11_act (wsV RX11 308 RX4 yX4_whetting wsX4_whetting) := goodIn_app (goodIn_of _ (by decide +kernel)) ggX11_act_X4_whetting
set_option maxRecDepth 20000 in
theorem ggX11_act_X6_whetting : GoodIn wsX11_act wsX6_whetting := goodIn_ca (goodIn_ca (goodIn_ca (goodIn_ca (goodIn_ca (goodIn_ca (goodIn_ca (goodIn_ca (goodIn_s _ [(63, 1), (39, 1), (19, 6), (64, 8), (50, 1), (72, 1), (52, 1), (15, 1), (53, 2), (18, 1), (55, 1), (12, 3), (16, 2), (25, 8), (56, 1), (34, 5), (40, 9)] rfl (by decide +kernel)) gt_wsX11_act_wsX50) gt_wsX11_act_wsX00) gt_wsX11_act_wsX30) gt_wsX11_act_wsX40) gt_wsX11_act_wsX60) gt_wsX11_act_wsX70) gt_wsX11_act_wsX80) gt_wsX11_act_wsX100
set_option maxRecDepth 20000 in
theorem gX11_act_X6_whetting_u308X6 : GoodIn wsX11_act (va_wsO RX11 308 RX6 "NineMowers$Mower" ⟨"NineMowers$Mower", "whetting", "(ILNineMowers$Numbers;)I"⟩ yX6_whetting wsX6_whetting) := goodIn_app (goodIn_of _ (by decide +kernel)) ggX11_act_X6_whetting
set_option maxRecDepth 20000 in
theorem gX11_act_X4_whetting_u308X7 : GoodIn wsX11_act (va_wsU RX11 308 RX7 "NineMowers$Mower" ⟨"NineMowers$Mower", "whetting", "(ILNineMowers$Numbers;)I"⟩ yX4_whetting wsX4_whetting) := goodIn_app (goodIn_of _ (by decide +kernel)) ggX11_act_X4_whetting
set_option maxRecDepth 20000 in
theorem ggX11_act_X8_whetting : GoodIn wsX11_act wsX8_whetting := goodIn_ca (goodIn_ca (goodIn_ca (goodIn_ca (goodIn_ca (goodIn_ca (goodIn_ca (goodIn_ca (goodIn_s _ [(69, 2), (19, 6), (71, 1), (50, 1), (72, 1), (52, 1), (15, 1), (53, 2), (18, 1), (55, 1), (12, 3), (16, 2), (25, 8), (56, 1), (34, 15)] rfl (by decide +kernel)) gt_wsX11_act_wsX50) gt_wsX11_act_wsX00) gt_wsX11_act_wsX30) gt_wsX11_act_wsX40) gt_wsX11_act_wsX60) gt_wsX11_act_wsX70) gt_wsX11_act_wsX80) gt_wsX11_act_wsX100
set_option maxRecDepth 20000 in
theorem gX11_act_X8_whetting_u308X8 : GoodIn wsX11_act (va_wsO RX11 308 RX8 "NineMowers$Mower" ⟨"NineMowers$Mower", "whetting", "(ILNineMowers$Numbers;)I"⟩ yX8_whetting wsX8_whetting) := goodIn_app (goodIn_of _ (by decide +kernel)) ggX11_act_X8_whetting
set_option maxRecDepth 20000 in
theorem ggX11_act_X10_whetting : GoodIn wsX11_act wsX10_whetting := goodIn_ca (goodIn_s _ [(77, 1), (48, 1), (19, 6)] rfl (by decide +kernel)) gt_wsX11_act_wsX50
set_option maxRecDepth 20000 in
theorem gX11_act_X10_whetting_u308X10 : GoodIn wsX11_act (va_wsO RX11 308 RX10 "NineMowers$Mower" ⟨"NineMowers$Mower", "whetting", "(ILNineMowers$Numbers;)I"⟩ yX10_whetting wsX10_whetting) := goodIn_app (goodIn_of _ (by decide +kernel)) ggX11_act_X10_whetting
set_option maxRecDepth 20000 in
theorem ggX11_act_X0_telling : GoodIn wsX11_act wsX0_telling := goodIn_ca (goodIn_ca (goodIn_ca (goodIn_ca (goodIn_ca (goodIn_ca (goodIn_ca (goodIn_ca (goodIn_s _ [(84, 2), (19, 6), (86, 1), (79, 1), (87, 2), (15, 1), (89, 1), (18, 1), (90, 1), (50, 6), (12, 3), (16, 2), (25, 8), (56, 1), (34, 15), (57, 1), (91, 1), (59, 19), (92, 4)] rfl (by decide +kernel)) gt_wsX11_act_wsX50) gt_wsX11_act_wsX00) gt_wsX11_act_wsX30) gt_wsX11_act_wsX40) gt_wsX11_act_wsX60) gt_wsX11_act_wsX70) gt_wsX11_act_wsX80) gt_wsX11_act_wsX100
set_option maxRecDepth 20000 in
theorem gX11_act_X0_telling_u311X0 : GoodIn wsX11_act (va_wsO RX11 311 RX0 "NineMowers$Mower" ⟨"NineMowers$Mower", "telling", "(ILNineMowers$Numbers;)I"⟩ yX0_telling wsX0_telling) := goodIn_app (goodIn_of _ (by decide +kernel)) ggX11_act_X0_telling
set_option maxRecDepth 20000 in
theorem ggX11_act_X4_telling : GoodIn wsX11_act wsX4_telling := goodIn_ca (goodIn_ca (goodIn_ca (goodIn_ca (goodIn_ca (goodIn_ca (goodIn_ca (goodIn_ca (goodIn_s _ [(89, 1), (18, 7), (90, 1), (50, 3), (15, 1), (53, 3), (12, 3), (16, 2), (25, 8), (56, 1), (34, 15), (57, 1), (91, 1), (59, 19)] rfl (by decide +kernel)) gt_wsX11_act_wsX50) gt_wsX11_act_wsX00) gt_wsX11_act_wsX30) gt_wsX11_act_wsX40) gt_wsX11_act_wsX60) gt_wsX11_act_wsX70) gt_wsX11_act_wsX80) gt_wsX11_act_wsX100
set_option maxRecDepth 20000 in
theorem gX11_act_X4_telling_u311X3 : GoodIn wsX11_act (va_wsU RX11 311 RX3 "NineMowers$Mower" ⟨"NineMowers$Mower", "telling", "(ILNineMowers$Numbers;)I"⟩ yX4_telling wsX4_telling) := goodIn_app (goodIn_of _ (by decide +kernel)) ggX11_act_X4_telling
set_option maxRecDepth 20000 in
theorem gX11_act_X4_telling : GoodIn wsX11_act (wsV RX11 311 RX4 yX4_telling wsX4_telling) := goodIn_app (goodIn_of _ (by decide +kernel)) ggX11_act_X4_telling
set_option maxRecDepth 20000 in
theorem gX11_act_X4_telling_u311X6 : GoodIn wsX11_act (va_wsU RX11 311 RX6 "NineMowers$Mower" ⟨"NineMowers$Mower", "telling", "(ILNineMowers$Numbers;)I"⟩ yX4_telling wsX4_telling) := goodIn_app (goodIn_of _ (by decide +kernel)) ggX11_act_X4_telling
set_option maxRecDepth 20000 in
theorem ggX11_act_X7_telling : GoodIn wsX11_act wsX7_telling := goodIn_ca (goodIn_ca (goodIn_ca (goodIn_ca (goodIn_ca (goodIn_ca (goodIn_ca (goodIn_ca (goodIn_s _ [(103, 4), (19, 6)] rfl (by decide +kernel)) gt_wsX11_act_wsX00) gt_wsX11_act_wsX30) gt_wsX11_act_wsX40) gt_wsX11_act_wsX60) gt_wsX11_act_wsX70) gt_wsX11_act_wsX80) gt_wsX11_act_wsX100) gt_wsX11_act_wsX50
set_option maxRecDepth 20000 in
theorem gX11_act_X7_telling_u311X7 : GoodIn wsX11_act (va_wsO RX11 311 RX7 "NineMowers$Mower" ⟨"NineMowers$Mower", "telling", "(ILNineMowers$Numbers;)I"⟩ yX7_telling wsX7_telling) := goodIn_app (goodIn_of _ (by decide +kernel)) ggX11_act_X7_telling
set_option maxRecDepth 20000 in
theorem gX11_act_X4_telling_u311X8 : GoodIn wsX11_act (va_wsU RX11 311 RX8 "NineMowers$Mower" ⟨"NineMowers$Mower", "telling", "(ILNineMowers$Numbers;)I"⟩ yX4_telling wsX4_telling) := goodIn_app (goodIn_of _ (by decide +kernel)) ggX11_act_X4_telling
set_option maxRecDepth 20000 in
theorem gX11_act_X0_telling_u311X10 : GoodIn wsX11_act (va_wsO RX11 311 RX10 "NineMowers$Mower" ⟨"NineMowers$Mower", "telling", "(ILNineMowers$Numbers;)I"⟩ yX0_telling wsX0_telling) := goodIn_app (goodIn_of _ (by decide +kernel)) ggX11_act_X0_telling
theorem dX11_act_0 : decode cX11_act 0 = .ok (.aload_n 0, 1) := o_42 (by decide +kernel)
theorem dX11_act_1 : decode cX11_act 1 = .ok (.getfield 56, 3) := o_180 (by decide +kernel)
theorem dX11_act_4 : decode cX11_act 4 = .ok (.iconst 0, 1) := o_3 (by decide +kernel)
theorem dX11_act_5 : decode cX11_act 5 = .ok (.putfield 256, 3) := o_181 (by decide +kernel)
theorem dX11_act_8 : decode cX11_act 8 = .ok (.aload_n 0, 1) := o_42 (by decide +kernel)
theorem dX11_act_9 : decode cX11_act 9 = .ok (.iload_n 1, 1) := o_27 (by decide +kernel)
theorem dX11_act_10 : decode cX11_act 10 = .ok (.invokevirtual 110, 3) := o_182 (by decide +kernel)
theorem dX11_act_13 : decode cX11_act 13 = .ok (.ifCond .ne 5, 3) := o_154 (by decide +kernel)
theorem dX11_act_16 : decode cX11_act 16 = .ok (.iconst 0, 1) := o_3 (by decide +kernel)
theorem dX11_act_17 : decode cX11_act 17 = .ok (.ireturn, 1) := o_172 (by decide +kernel)
theorem dX11_act_18 : decode cX11_act 18 = .ok (.aload_n 0, 1) := o_42 (by decide +kernel)
theorem dX11_act_19 : decode cX11_act 19 = .ok (.getfield 12, 3) := o_180 (by decide +kernel)
theorem dX11_act_22 : decode cX11_act 22 = .ok (.getfield 114, 3) := o_180 (by decide +kernel)
theorem dX11_act_25 : decode cX11_act 25 = .ok (.iload_n 1, 1) := o_27 (by decide +kernel)
theorem dX11_act_26 : decode cX11_act 26 = .ok (.aaload, 1) := o_50 (by decide +kernel)
theorem dX11_act_27 : decode cX11_act 27 = .ok (.astore 4, 2) := o_58 (by decide +kernel)
theorem dX11_act_29 : decode cX11_act 29 = .ok (.iload_n 2, 1) := o_28 (by decide +kernel)
theorem dX11_act_30 : decode cX11_act 30 = .ok (.tableswitch 59 0 2 #[26, 37, 48], 26) := by decide +kernel
theorem dX11_act_56 : decode cX11_act 56 = .ok (.aload 4, 2) := o_25 (by decide +kernel)
theorem dX11_act_58 : decode cX11_act 58 = .ok (.iload_n 3, 1) := o_29 (by decide +kernel)
theorem dX11_act_59 : decode cX11_act 59 = .ok (.aload_n 0, 1) := o_42 (by decide +kernel)
theorem dX11_act_60 : decode cX11_act 60 = .ok (.getfield 56, 3) := o_180 (by decide +kernel)
theorem dX11_act_63 : decode cX11_act 63 = .ok (.invokevirtual 304, 3) := o_182 (by decide +kernel)
theorem dX11_act_66 : decode cX11_act 66 = .ok (.ireturn, 1) := o_172 (by decide +kernel)
theorem dX11_act_67 : decode cX11_act 67 = .ok (.aload 4, 2) := o_25 (by decide +kernel)
theorem dX11_act_69 : decode cX11_act 69 = .ok (.iload_n 3, 1) := o_29 (by decide +kernel)
theorem dX11_act_70 : decode cX11_act 70 = .ok (.aload_n 0, 1) := o_42 (by decide +kernel)
theorem dX11_act_71 : decode cX11_act 71 = .ok (.getfield 56, 3) := o_180 (by decide +kernel)
theorem dX11_act_74 : decode cX11_act 74 = .ok (.invokevirtual 308, 3) := o_182 (by decide +kernel)
theorem dX11_act_77 : decode cX11_act 77 = .ok (.ireturn, 1) := o_172 (by decide +kernel)
theorem dX11_act_78 : decode cX11_act 78 = .ok (.aload 4, 2) := o_25 (by decide +kernel)
theorem dX11_act_80 : decode cX11_act 80 = .ok (.iload_n 3, 1) := o_29 (by decide +kernel)
theorem dX11_act_81 : decode cX11_act 81 = .ok (.aload_n 0, 1) := o_42 (by decide +kernel)
theorem dX11_act_82 : decode cX11_act 82 = .ok (.getfield 56, 3) := o_180 (by decide +kernel)
theorem dX11_act_85 : decode cX11_act 85 = .ok (.invokevirtual 311, 3) := o_182 (by decide +kernel)
theorem dX11_act_88 : decode cX11_act 88 = .ok (.ireturn, 1) := o_172 (by decide +kernel)
theorem dX11_act_89 : decode cX11_act 89 = .ok (.iconst 0, 1) := o_3 (by decide +kernel)
theorem dX11_act_90 : decode cX11_act 90 = .ok (.ireturn, 1) := o_172 (by decide +kernel)
theorem gt_wsX11_trace_wsX50 : GoodIn wsX11_trace wsX50 := fun w h => ⟨List.mem_cons_of_mem _ (List.mem_append_right _ h), good_of_word (gq_wsX50 w h)⟩
set_option maxRecDepth 20000 in
theorem ggX11_trace_X5_has : GoodIn wsX11_trace wsX5_has := goodIn_ca (goodIn_s _ [(7, 3)] rfl (by decide +kernel)) gt_wsX11_trace_wsX50
set_option maxRecDepth 20000 in
theorem gX11_trace_X5_has : GoodIn wsX11_trace (wsV RX11 314 RX5 yX5_has wsX5_has) := goodIn_app (goodIn_of _ (by decide +kernel)) ggX11_trace_X5_has
theorem dX11_trace_0 : decode cX11_trace 0 = .ok (.aload_n 0, 1) := o_42 (by decide +kernel)
theorem dX11_trace_1 : decode cX11_trace 1 = .ok (.getfield 56, 3) := o_180 (by decide +kernel)
theorem dX11_trace_4 : decode cX11_trace 4 = .ok (.iload_n 1, 1) := o_27 (by decide +kernel)
theorem dX11_trace_5 : decode cX11_trace 5 = .ok (.invokevirtual 314, 3) := o_182 (by decide +kernel)
theorem dX11_trace_8 : decode cX11_trace 8 = .ok (.ifCond .eq 15, 3) := o_153 (by decide +kernel)
theorem dX11_trace_11 : decode cX11_trace 11 = .ok (.aload_n 0, 1) := o_42 (by decide +kernel)
theorem dX11_trace_12 : decode cX11_trace 12 = .ok (.getfield 56, 3) := o_180 (by decide +kernel)
theorem dX11_trace_15 : decode cX11_trace 15 = .ok (.getfield 270, 3) := o_180 (by decide +kernel)
theorem dX11_trace_18 : decode cX11_trace 18 = .ok (.iload_n 1, 1) := o_27 (by decide +kernel)
theorem dX11_trace_19 : decode cX11_trace 19 = .ok (.iaload, 1) := o_46 (by decide +kernel)
theorem dX11_trace_20 : decode cX11_trace 20 = .ok (.goto 4, 3) := o_167 (by decide +kernel)
theorem dX11_trace_23 : decode cX11_trace 23 = .ok (.iconst (-1), 1) := o_2 (by decide +kernel)
theorem dX11_trace_24 : decode cX11_trace 24 = .ok (.ireturn, 1) := o_172 (by decide +kernel)
theorem gt_wsX11_taken_wsX110 : GoodIn wsX11_taken wsX110 := fun w h => ⟨List.mem_cons_of_mem _ (List.mem_append_left _ (List.mem_append_left _ (List.mem_append_left _ (List.mem_append_left _ (List.mem_append_left _ (List.mem_append_left _ (List.mem_append_left _ (List.mem_append_left _ (List.mem_append_right _ h))))))))), good_of_word (gq_wsX110 w h)⟩
theorem gt_wsX11_taken_wsX10 : GoodIn wsX11_taken wsX10 := fun w h => ⟨List.mem_cons_of_mem _ (List.mem_append_left _ (List.mem_append_left _ (List.mem_append_left _ (List.mem_append_left _ (List.mem_append_left _ (List.mem_append_left _ (List.mem_append_left _ (List.mem_append_right _ h)))))))), good_of_word (gq_wsX10 w h)⟩
set_option maxRecDepth 20000 in
theorem ggX11_taken_X11_isMower : GoodIn wsX11_taken wsX11_isMower := goodIn_ca (goodIn_ca (goodIn_s _ [(8, 1), (1, 1), (9, 1)] rfl (by decide +kernel)) gt_wsX11_taken_wsX110) gt_wsX11_taken_wsX10
set_option maxRecDepth 20000 in
theorem gX11_taken_X11_isMower : GoodIn wsX11_taken (wsV RX11 110 RX11 yX11_isMower wsX11_isMower) := goodIn_app (goodIn_of _ (by decide +kernel)) ggX11_taken_X11_isMower
set_option maxRecDepth 20000 in
theorem ggX11_taken_X11_isOfKind : GoodIn wsX11_taken wsX11_isOfKind := goodIn_s _ [(12, 7)] rfl (by decide +kernel)
set_option maxRecDepth 20000 in
theorem gX11_taken_X11_isOfKind : GoodIn wsX11_taken (va_wsS RX11 315 yX11_isOfKind wsX11_isOfKind) := goodIn_app (goodIn_of _ (by decide +kernel)) ggX11_taken_X11_isOfKind
theorem dX11_taken_0 : decode cX11_taken 0 = .ok (.iload_n 2, 1) := o_28 (by decide +kernel)
theorem dX11_taken_1 : decode cX11_taken 1 = .ok (.ifCond .lt 9, 3) := o_155 (by decide +kernel)
theorem dX11_taken_4 : decode cX11_taken 4 = .ok (.iload_n 2, 1) := o_28 (by decide +kernel)
theorem dX11_taken_5 : decode cX11_taken 5 = .ok (.bipush 6, 2) := o_16 (by decide +kernel)
theorem dX11_taken_7 : decode cX11_taken 7 = .ok (.if_icmp .le 6, 3) := o_164 (by decide +kernel)
theorem dX11_taken_10 : decode cX11_taken 10 = .ok (.bipush (-2), 2) := o_16 (by decide +kernel)
theorem dX11_taken_12 : decode cX11_taken 12 = .ok (.ireturn, 1) := o_172 (by decide +kernel)
theorem dX11_taken_13 : decode cX11_taken 13 = .ok (.aload_n 0, 1) := o_42 (by decide +kernel)
theorem dX11_taken_14 : decode cX11_taken 14 = .ok (.iload_n 1, 1) := o_27 (by decide +kernel)
theorem dX11_taken_15 : decode cX11_taken 15 = .ok (.invokevirtual 110, 3) := o_182 (by decide +kernel)
theorem dX11_taken_18 : decode cX11_taken 18 = .ok (.ifCond .ne 6, 3) := o_154 (by decide +kernel)
theorem dX11_taken_21 : decode cX11_taken 21 = .ok (.bipush (-11), 2) := o_16 (by decide +kernel)
theorem dX11_taken_23 : decode cX11_taken 23 = .ok (.ireturn, 1) := o_172 (by decide +kernel)
theorem dX11_taken_24 : decode cX11_taken 24 = .ok (.aload_n 0, 1) := o_42 (by decide +kernel)
theorem dX11_taken_25 : decode cX11_taken 25 = .ok (.getfield 12, 3) := o_180 (by decide +kernel)
theorem dX11_taken_28 : decode cX11_taken 28 = .ok (.getfield 114, 3) := o_180 (by decide +kernel)
theorem dX11_taken_31 : decode cX11_taken 31 = .ok (.iload_n 1, 1) := o_27 (by decide +kernel)
theorem dX11_taken_32 : decode cX11_taken 32 = .ok (.aaload, 1) := o_50 (by decide +kernel)
theorem dX11_taken_33 : decode cX11_taken 33 = .ok (.iload_n 2, 1) := o_28 (by decide +kernel)
theorem dX11_taken_34 : decode cX11_taken 34 = .ok (.invokestatic 315, 3) := o_184 (by decide +kernel)
theorem dX11_taken_37 : decode cX11_taken 37 = .ok (.ifCond .eq 18, 3) := o_153 (by decide +kernel)
theorem dX11_taken_40 : decode cX11_taken 40 = .ok (.aload_n 0, 1) := o_42 (by decide +kernel)
theorem dX11_taken_41 : decode cX11_taken 41 = .ok (.getfield 12, 3) := o_180 (by decide +kernel)
theorem dX11_taken_44 : decode cX11_taken 44 = .ok (.getfield 114, 3) := o_180 (by decide +kernel)
theorem dX11_taken_47 : decode cX11_taken 47 = .ok (.iload_n 1, 1) := o_27 (by decide +kernel)
theorem dX11_taken_48 : decode cX11_taken 48 = .ok (.aaload, 1) := o_50 (by decide +kernel)
theorem dX11_taken_49 : decode cX11_taken 49 = .ok (.getfield 118, 3) := o_180 (by decide +kernel)
theorem dX11_taken_52 : decode cX11_taken 52 = .ok (.goto 5, 3) := o_167 (by decide +kernel)
theorem dX11_taken_55 : decode cX11_taken 55 = .ok (.bipush (-12), 2) := o_16 (by decide +kernel)
theorem dX11_taken_57 : decode cX11_taken 57 = .ok (.ireturn, 1) := o_172 (by decide +kernel)
theorem dX11_isOfKind_0 : decode cX11_isOfKind 0 = .ok (.iload_n 1, 1) := o_27 (by decide +kernel)
theorem dX11_isOfKind_1 : decode cX11_isOfKind 1 = .ok (.tableswitch 75 0 6 #[43, 45, 50, 55, 60, 65, 70], 43) := by decide +kernel
theorem dX11_isOfKind_44 : decode cX11_isOfKind 44 = .ok (.iconst 1, 1) := o_4 (by decide +kernel)
theorem dX11_isOfKind_45 : decode cX11_isOfKind 45 = .ok (.ireturn, 1) := o_172 (by decide +kernel)
theorem dX11_isOfKind_46 : decode cX11_isOfKind 46 = .ok (.aload_n 0, 1) := o_42 (by decide +kernel)
theorem dX11_isOfKind_47 : decode cX11_isOfKind 47 = .ok (.instanceof 87, 3) := o_193 (by decide +kernel)
theorem dX11_isOfKind_50 : decode cX11_isOfKind 50 = .ok (.ireturn, 1) := o_172 (by decide +kernel)
theorem dX11_isOfKind_51 : decode cX11_isOfKind 51 = .ok (.aload_n 0, 1) := o_42 (by decide +kernel)
