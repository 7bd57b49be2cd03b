theorem dX2_holds_4 : decode cX2_holds 4 = .ok (.istore 5, 2) := o_54 (by decide +kernel)
theorem dX2_holds_6 : decode cX2_holds 6 = .ok (.iload 5, 2) := o_21 (by decide +kernel)
theorem dX2_holds_8 : decode cX2_holds 8 = .ok (.iload_n 2, 1) := o_28 (by decide +kernel)
theorem dX2_holds_9 : decode cX2_holds 9 = .ok (.if_icmp .ge 178, 3) := o_162 (by decide +kernel)
theorem dX2_holds_12 : decode cX2_holds 12 = .ok (.iload 5, 2) := o_21 (by decide +kernel)
theorem dX2_holds_14 : decode cX2_holds 14 = .ok (.aload_n 0, 1) := o_42 (by decide +kernel)
theorem dX2_holds_15 : decode cX2_holds 15 = .ok (.getfield 25, 3) := o_180 (by decide +kernel)
theorem dX2_holds_18 : decode cX2_holds 18 = .ok (.if_icmp .ge 169, 3) := o_162 (by decide +kernel)
theorem dX2_holds_21 : decode cX2_holds 21 = .ok (.aload_n 0, 1) := o_42 (by decide +kernel)
theorem dX2_holds_22 : decode cX2_holds 22 = .ok (.getfield 21, 3) := o_180 (by decide +kernel)
theorem dX2_holds_25 : decode cX2_holds 25 = .ok (.iload 5, 2) := o_21 (by decide +kernel)
theorem dX2_holds_27 : decode cX2_holds 27 = .ok (.iaload, 1) := o_46 (by decide +kernel)
theorem dX2_holds_28 : decode cX2_holds 28 = .ok (.istore 6, 2) := o_54 (by decide +kernel)
theorem dX2_holds_30 : decode cX2_holds 30 = .ok (.iload 6, 2) := o_21 (by decide +kernel)
theorem dX2_holds_32 : decode cX2_holds 32 = .ok (.ifCond .lt 97, 3) := o_155 (by decide +kernel)
theorem dX2_holds_35 : decode cX2_holds 35 = .ok (.aload_n 3, 1) := o_45 (by decide +kernel)
theorem dX2_holds_36 : decode cX2_holds 36 = .ok (.iload 6, 2) := o_21 (by decide +kernel)
theorem dX2_holds_38 : decode cX2_holds 38 = .ok (.sipush 300, 3) := o_17 (by decide +kernel)
theorem dX2_holds_41 : decode cX2_holds 41 = .ok (.idiv, 1) := o_108 (by decide +kernel)
theorem dX2_holds_42 : decode cX2_holds 42 = .ok (.iaload, 1) := o_46 (by decide +kernel)
theorem dX2_holds_43 : decode cX2_holds 43 = .ok (.iload 6, 2) := o_21 (by decide +kernel)
theorem dX2_holds_45 : decode cX2_holds 45 = .ok (.bipush 100, 2) := o_16 (by decide +kernel)
theorem dX2_holds_47 : decode cX2_holds 47 = .ok (.irem, 1) := o_112 (by decide +kernel)
theorem dX2_holds_48 : decode cX2_holds 48 = .ok (.isub, 1) := o_100 (by decide +kernel)
theorem dX2_holds_49 : decode cX2_holds 49 = .ok (.istore 7, 2) := o_54 (by decide +kernel)
theorem dX2_holds_51 : decode cX2_holds 51 = .ok (.iload 6, 2) := o_21 (by decide +kernel)
theorem dX2_holds_53 : decode cX2_holds 53 = .ok (.bipush 100, 2) := o_16 (by decide +kernel)
theorem dX2_holds_55 : decode cX2_holds 55 = .ok (.idiv, 1) := o_108 (by decide +kernel)
theorem dX2_holds_56 : decode cX2_holds 56 = .ok (.iconst 3, 1) := o_6 (by decide +kernel)
theorem dX2_holds_57 : decode cX2_holds 57 = .ok (.irem, 1) := o_112 (by decide +kernel)
theorem dX2_holds_58 : decode cX2_holds 58 = .ok (.istore 8, 2) := o_54 (by decide +kernel)
theorem dX2_holds_60 : decode cX2_holds 60 = .ok (.iload 8, 2) := o_21 (by decide +kernel)
theorem dX2_holds_62 : decode cX2_holds 62 = .ok (.ifCond .ne 16, 3) := o_154 (by decide +kernel)
theorem dX2_holds_65 : decode cX2_holds 65 = .ok (.iload 7, 2) := o_21 (by decide +kernel)
theorem dX2_holds_67 : decode cX2_holds 67 = .ok (.ifCond .ge 7, 3) := o_156 (by decide +kernel)
theorem dX2_holds_70 : decode cX2_holds 70 = .ok (.iconst 1, 1) := o_4 (by decide +kernel)
theorem dX2_holds_71 : decode cX2_holds 71 = .ok (.goto 36, 3) := o_167 (by decide +kernel)
theorem dX2_holds_74 : decode cX2_holds 74 = .ok (.iconst 0, 1) := o_3 (by decide +kernel)
theorem dX2_holds_75 : decode cX2_holds 75 = .ok (.goto 32, 3) := o_167 (by decide +kernel)
theorem dX2_holds_78 : decode cX2_holds 78 = .ok (.iload 8, 2) := o_21 (by decide +kernel)
theorem dX2_holds_80 : decode cX2_holds 80 = .ok (.iconst 1, 1) := o_4 (by decide +kernel)
theorem dX2_holds_81 : decode cX2_holds 81 = .ok (.if_icmp .ne 16, 3) := o_160 (by decide +kernel)
theorem dX2_holds_84 : decode cX2_holds 84 = .ok (.iload 7, 2) := o_21 (by decide +kernel)
theorem dX2_holds_86 : decode cX2_holds 86 = .ok (.ifCond .ne 7, 3) := o_154 (by decide +kernel)
theorem dX2_holds_89 : decode cX2_holds 89 = .ok (.iconst 1, 1) := o_4 (by decide +kernel)
theorem dX2_holds_90 : decode cX2_holds 90 = .ok (.goto 17, 3) := o_167 (by decide +kernel)
theorem dX2_holds_93 : decode cX2_holds 93 = .ok (.iconst 0, 1) := o_3 (by decide +kernel)
theorem dX2_holds_94 : decode cX2_holds 94 = .ok (.goto 13, 3) := o_167 (by decide +kernel)
theorem dX2_holds_97 : decode cX2_holds 97 = .ok (.iload 7, 2) := o_21 (by decide +kernel)
theorem dX2_holds_99 : decode cX2_holds 99 = .ok (.ifCond .le 7, 3) := o_158 (by decide +kernel)
theorem dX2_holds_102 : decode cX2_holds 102 = .ok (.iconst 1, 1) := o_4 (by decide +kernel)
theorem dX2_holds_103 : decode cX2_holds 103 = .ok (.goto 4, 3) := o_167 (by decide +kernel)
theorem dX2_holds_106 : decode cX2_holds 106 = .ok (.iconst 0, 1) := o_3 (by decide +kernel)
theorem dX2_holds_107 : decode cX2_holds 107 = .ok (.istore 9, 2) := o_54 (by decide +kernel)
theorem dX2_holds_109 : decode cX2_holds 109 = .ok (.iload 4, 2) := o_21 (by decide +kernel)
theorem dX2_holds_111 : decode cX2_holds 111 = .ok (.iconst 1, 1) := o_4 (by decide +kernel)
theorem dX2_holds_112 : decode cX2_holds 112 = .ok (.ishl, 1) := o_120 (by decide +kernel)
theorem dX2_holds_113 : decode cX2_holds 113 = .ok (.iload 9, 2) := o_21 (by decide +kernel)
theorem dX2_holds_115 : decode cX2_holds 115 = .ok (.ifCond .eq 7, 3) := o_153 (by decide +kernel)
theorem dX2_holds_118 : decode cX2_holds 118 = .ok (.iconst 1, 1) := o_4 (by decide +kernel)
theorem dX2_holds_119 : decode cX2_holds 119 = .ok (.goto 4, 3) := o_167 (by decide +kernel)
theorem dX2_holds_122 : decode cX2_holds 122 = .ok (.iconst 0, 1) := o_3 (by decide +kernel)
theorem dX2_holds_123 : decode cX2_holds 123 = .ok (.ior, 1) := o_128 (by decide +kernel)
theorem dX2_holds_124 : decode cX2_holds 124 = .ok (.istore 4, 2) := o_54 (by decide +kernel)
theorem dX2_holds_126 : decode cX2_holds 126 = .ok (.goto 55, 3) := o_167 (by decide +kernel)
theorem dX2_holds_129 : decode cX2_holds 129 = .ok (.iload 6, 2) := o_21 (by decide +kernel)
theorem dX2_holds_131 : decode cX2_holds 131 = .ok (.iconst (-1), 1) := o_2 (by decide +kernel)
theorem dX2_holds_132 : decode cX2_holds 132 = .ok (.if_icmp .ne 12, 3) := o_160 (by decide +kernel)
theorem dX2_holds_135 : decode cX2_holds 135 = .ok (.iload 4, 2) := o_21 (by decide +kernel)
theorem dX2_holds_137 : decode cX2_holds 137 = .ok (.iconst 1, 1) := o_4 (by decide +kernel)
theorem dX2_holds_138 : decode cX2_holds 138 = .ok (.ixor, 1) := o_130 (by decide +kernel)
theorem dX2_holds_139 : decode cX2_holds 139 = .ok (.istore 4, 2) := o_54 (by decide +kernel)
theorem dX2_holds_141 : decode cX2_holds 141 = .ok (.goto 40, 3) := o_167 (by decide +kernel)
theorem dX2_holds_144 : decode cX2_holds 144 = .ok (.iload 4, 2) := o_21 (by decide +kernel)
theorem dX2_holds_146 : decode cX2_holds 146 = .ok (.iconst 1, 1) := o_4 (by decide +kernel)
theorem dX2_holds_147 : decode cX2_holds 147 = .ok (.iand, 1) := o_126 (by decide +kernel)
theorem dX2_holds_148 : decode cX2_holds 148 = .ok (.istore 7, 2) := o_54 (by decide +kernel)
theorem dX2_holds_150 : decode cX2_holds 150 = .ok (.iload 4, 2) := o_21 (by decide +kernel)
theorem dX2_holds_152 : decode cX2_holds 152 = .ok (.iconst 1, 1) := o_4 (by decide +kernel)
theorem dX2_holds_153 : decode cX2_holds 153 = .ok (.ishr, 1) := o_122 (by decide +kernel)
theorem dX2_holds_154 : decode cX2_holds 154 = .ok (.istore 4, 2) := o_54 (by decide +kernel)
theorem dX2_holds_156 : decode cX2_holds 156 = .ok (.iload 6, 2) := o_21 (by decide +kernel)
theorem dX2_holds_158 : decode cX2_holds 158 = .ok (.bipush (-3), 2) := o_16 (by decide +kernel)
theorem dX2_holds_160 : decode cX2_holds 160 = .ok (.if_icmp .ne 11, 3) := o_160 (by decide +kernel)
theorem dX2_holds_163 : decode cX2_holds 163 = .ok (.iload 4, 2) := o_21 (by decide +kernel)
theorem dX2_holds_165 : decode cX2_holds 165 = .ok (.iload 7, 2) := o_21 (by decide +kernel)
theorem dX2_holds_167 : decode cX2_holds 167 = .ok (.ior, 1) := o_128 (by decide +kernel)
theorem dX2_holds_168 : decode cX2_holds 168 = .ok (.goto 11, 3) := o_167 (by decide +kernel)
theorem dX2_holds_171 : decode cX2_holds 171 = .ok (.iload 4, 2) := o_21 (by decide +kernel)
theorem dX2_holds_173 : decode cX2_holds 173 = .ok (.bipush (-2), 2) := o_16 (by decide +kernel)
theorem dX2_holds_175 : decode cX2_holds 175 = .ok (.iload 7, 2) := o_21 (by decide +kernel)
theorem dX2_holds_177 : decode cX2_holds 177 = .ok (.ior, 1) := o_128 (by decide +kernel)
theorem dX2_holds_178 : decode cX2_holds 178 = .ok (.iand, 1) := o_126 (by decide +kernel)
theorem dX2_holds_179 : decode cX2_holds 179 = .ok (.istore 4, 2) := o_54 (by decide +kernel)
theorem dX2_holds_181 : decode cX2_holds 181 = .ok (.iinc 5 1, 3) := o_132 (by decide +kernel)
theorem dX2_holds_184 : decode cX2_holds 184 = .ok (.goto (-178), 3) := o_167 (by decide +kernel)
theorem dX2_holds_187 : decode cX2_holds 187 = .ok (.iload 4, 2) := o_21 (by decide +kernel)
theorem dX2_holds_189 : decode cX2_holds 189 = .ok (.iconst 1, 1) := o_4 (by decide +kernel)
theorem dX2_holds_190 : decode cX2_holds 190 = .ok (.iand, 1) := o_126 (by decide +kernel)
theorem dX2_holds_191 : decode cX2_holds 191 = .ok (.iconst 1, 1) := o_4 (by decide +kernel)
theorem dX2_holds_192 : decode cX2_holds 192 = .ok (.if_icmp .ne 7, 3) := o_160 (by decide +kernel)
theorem dX2_holds_195 : decode cX2_holds 195 = .ok (.iconst 1, 1) := o_4 (by decide +kernel)
theorem dX2_holds_196 : decode cX2_holds 196 = .ok (.goto 4, 3) := o_167 (by decide +kernel)
theorem dX2_holds_199 : decode cX2_holds 199 = .ok (.iconst 0, 1) := o_3 (by decide +kernel)
theorem dX2_holds_200 : decode cX2_holds 200 = .ok (.ireturn, 1) := o_172 (by decide +kernel)
theorem gt_wsX3_init_wsX00 : GoodIn wsX3_init wsX00 := fun w h => ⟨List.mem_cons_of_mem _ (List.mem_append_left _ (List.mem_append_left _ (List.mem_append_left _ (List.mem_append_left _ (List.mem_append_left _ (List.mem_append_left _ (List.mem_append_right _ h))))))), good_of_word (gq_wsX00 w h)⟩
theorem gt_wsX3_init_wsX30 : GoodIn wsX3_init wsX30 := fun w h => ⟨List.mem_cons_of_mem _ (List.mem_append_left _ (List.mem_append_left _ (List.mem_append_left _ (List.mem_append_left _ (List.mem_append_left _ (List.mem_append_right _ h)))))), good_of_word (gq_wsX30 w h)⟩
theorem gt_wsX3_init_wsX40 : GoodIn wsX3_init wsX40 := fun w h => ⟨List.mem_cons_of_mem _ (List.mem_append_left _ (List.mem_append_left _ (List.mem_append_left _ (List.mem_append_left _ (List.mem_append_right _ h))))), good_of_word (gq_wsX40 w h)⟩
theorem gt_wsX3_init_wsX60 : GoodIn wsX3_init wsX60 := fun w h => ⟨List.mem_cons_of_mem _ (List.mem_append_left _ (List.mem_append_left _ (List.mem_append_left _ (List.mem_append_right _ h)))), good_of_word (gq_wsX60 w h)⟩
theorem gt_wsX3_init_wsX70 : GoodIn wsX3_init wsX70 := fun w h => ⟨List.mem_cons_of_mem _ (List.mem_append_left _ (List.mem_append_left _ (List.mem_append_right _ h))), good_of_word (gq_wsX70 w h)⟩
theorem gt_wsX3_init_wsX80 : GoodIn wsX3_init wsX80 := fun w h => ⟨List.mem_cons_of_mem _ (List.mem_append_left _ (List.mem_append_right _ h)), good_of_word (gq_wsX80 w h)⟩
theorem gt_wsX3_init_wsX100 : GoodIn wsX3_init wsX100 := fun w h => ⟨List.mem_cons_of_mem _ (List.mem_append_right _ h), good_of_word (gq_wsX100 w h)⟩
set_option maxRecDepth 20000 in
theorem ggX3_init_X4_init : GoodIn wsX3_init wsX4_init := goodIn_ca (goodIn_ca (goodIn_ca (goodIn_ca (goodIn_ca (goodIn_ca (goodIn_ca (goodIn_s _ [(4, 7)] rfl (by decide +kernel)) gt_wsX3_init_wsX00) gt_wsX3_init_wsX30) gt_wsX3_init_wsX40) gt_wsX3_init_wsX60) gt_wsX3_init_wsX70) gt_wsX3_init_wsX80) gt_wsX3_init_wsX100
set_option maxRecDepth 20000 in
theorem gX3_init_X4_init : GoodIn wsX3_init (wsX4_init) := ggX3_init_X4_init
theorem dX3_init_0 : decode cX3_init 0 = .ok (.aload_n 0, 1) := o_42 (by decide +kernel)
theorem dX3_init_1 : decode cX3_init 1 = .ok (.iload_n 1, 1) := o_27 (by decide +kernel)
theorem dX3_init_2 : decode cX3_init 2 = .ok (.iload_n 2, 1) := o_28 (by decide +kernel)
theorem dX3_init_3 : decode cX3_init 3 = .ok (.iload_n 3, 1) := o_29 (by decide +kernel)
theorem dX3_init_4 : decode cX3_init 4 = .ok (.invokespecial 1, 3) := o_183 (by decide +kernel)
theorem dX3_init_7 : decode cX3_init 7 = .ok (.return_, 1) := o_177 (by decide +kernel)
theorem gt_wsX3_strides_wsX10 : GoodIn wsX3_strides wsX10 := fun w h => ⟨List.mem_cons_of_mem _ (List.mem_append_left _ (List.mem_append_left _ (List.mem_append_left _ (List.mem_append_left _ (List.mem_append_left _ (List.mem_append_left _ (List.mem_append_left _ (List.mem_append_right _ h)))))))), good_of_word (gq_wsX10 w h)⟩
theorem gt_wsX3_strides_wsX00 : GoodIn wsX3_strides wsX00 := fun w h => ⟨List.mem_cons_of_mem _ (List.mem_append_left _ (List.mem_append_left _ (List.mem_append_left _ (List.mem_append_left _ (List.mem_append_left _ (List.mem_append_left _ (List.mem_append_right _ h))))))), good_of_word (gq_wsX00 w h)⟩
theorem gt_wsX3_strides_wsX30 : GoodIn wsX3_strides wsX30 := fun w h => ⟨List.mem_cons_of_mem _ (List.mem_append_left _ (List.mem_append_left _ (List.mem_append_left _ (List.mem_append_left _ (List.mem_append_left _ (List.mem_append_right _ h)))))), good_of_word (gq_wsX30 w h)⟩
theorem gt_wsX3_strides_wsX40 : GoodIn wsX3_strides wsX40 := fun w h => ⟨List.mem_cons_of_mem _ (List.mem_append_left _ (List.mem_append_left _ (List.mem_append_left _ (List.mem_append_left _ (List.mem_append_right _ h))))), good_of_word (gq_wsX40 w h)⟩
theorem gt_wsX3_strides_wsX60 : GoodIn wsX3_strides wsX60 := fun w h => ⟨List.mem_cons_of_mem _ (List.mem_append_left _ (List.mem_append_left _ (List.mem_append_left _ (List.mem_append_right _ h)))), good_of_word (gq_wsX60 w h)⟩
theorem gt_wsX3_strides_wsX70 : GoodIn wsX3_strides wsX70 := fun w h => ⟨List.mem_cons_of_mem _ (List.mem_append_left _ (List.mem_append_left _ (List.mem_append_right _ h))), good_of_word (gq_wsX70 w h)⟩
theorem gt_wsX3_strides_wsX80 : GoodIn wsX3_strides wsX80 := fun w h => ⟨List.mem_cons_of_mem _ (List.mem_append_left _ (List.mem_append_right _ h)), good_of_word (gq_wsX80 w h)⟩
theorem gt_wsX3_strides_wsX100 : GoodIn wsX3_strides wsX100 := fun w h => ⟨List.mem_cons_of_mem _ (List.mem_append_right _ h), good_of_word (gq_wsX100 w h)⟩
set_option maxRecDepth 20000 in
theorem ggX3_strides_X4_strides : GoodIn wsX3_strides wsX4_strides := goodIn_ca (goodIn_ca (goodIn_ca (goodIn_ca (goodIn_ca (goodIn_ca (goodIn_ca (goodIn_ca (goodIn_s _ [(11, 3)] rfl (by decide +kernel)) gt_wsX3_strides_wsX10) gt_wsX3_strides_wsX00) gt_wsX3_strides_wsX30) gt_wsX3_strides_wsX40) gt_wsX3_strides_wsX60) gt_wsX3_strides_wsX70) gt_wsX3_strides_wsX80) gt_wsX3_strides_wsX100
set_option maxRecDepth 20000 in
theorem gX3_strides_X4_strides_s7 : GoodIn wsX3_strides (va_wsSU RX3 7 yX4_strides wsX4_strides) := goodIn_app (goodIn_of _ (by decide +kernel)) ggX3_strides_X4_strides
theorem dX3_strides_0 : decode cX3_strides 0 = .ok (.aload_n 0, 1) := o_42 (by decide +kernel)
theorem dX3_strides_1 : decode cX3_strides 1 = .ok (.iload_n 1, 1) := o_27 (by decide +kernel)
theorem dX3_strides_2 : decode cX3_strides 2 = .ok (.aload_n 2, 1) := o_44 (by decide +kernel)
theorem dX3_strides_3 : decode cX3_strides 3 = .ok (.iload_n 3, 1) := o_29 (by decide +kernel)
theorem dX3_strides_4 : decode cX3_strides 4 = .ok (.invokespecial 7, 3) := o_183 (by decide +kernel)
theorem dX3_strides_7 : decode cX3_strides 7 = .ok (.aload_n 2, 1) := o_44 (by decide +kernel)
theorem dX3_strides_8 : decode cX3_strides 8 = .ok (.getfield 11, 3) := o_180 (by decide +kernel)
theorem dX3_strides_11 : decode cX3_strides 11 = .ok (.aload_n 0, 1) := o_42 (by decide +kernel)
theorem dX3_strides_12 : decode cX3_strides 12 = .ok (.getfield 17, 3) := o_180 (by decide +kernel)
theorem dX3_strides_15 : decode cX3_strides 15 = .ok (.iaload, 1) := o_46 (by decide +kernel)
theorem dX3_strides_16 : decode cX3_strides 16 = .ok (.iconst 5, 1) := o_8 (by decide +kernel)
theorem dX3_strides_17 : decode cX3_strides 17 = .ok (.if_icmp .le 10, 3) := o_164 (by decide +kernel)
theorem dX3_strides_20 : decode cX3_strides 20 = .ok (.aload_n 0, 1) := o_42 (by decide +kernel)
theorem dX3_strides_21 : decode cX3_strides 21 = .ok (.getfield 23, 3) := o_180 (by decide +kernel)
theorem dX3_strides_24 : decode cX3_strides 24 = .ok (.goto 4, 3) := o_167 (by decide +kernel)
theorem dX3_strides_27 : decode cX3_strides 27 = .ok (.iconst 0, 1) := o_3 (by decide +kernel)
theorem dX3_strides_28 : decode cX3_strides 28 = .ok (.iadd, 1) := o_96 (by decide +kernel)
theorem dX3_strides_29 : decode cX3_strides 29 = .ok (.ireturn, 1) := o_172 (by decide +kernel)
theorem gt_wsX3_mowing_wsX50 : GoodIn wsX3_mowing wsX50 := fun w h => ⟨List.mem_cons_of_mem _ (List.mem_append_left _ (List.mem_append_left _ (List.mem_append_left _ (List.mem_append_left _ (List.mem_append_left _ (List.mem_append_left _ (List.mem_append_left _ (List.mem_append_right _ h)))))))), good_of_word (gq_wsX50 w h)⟩
set_option maxRecDepth 20000 in
theorem ggX3_mowing_X5_comes : GoodIn wsX3_mowing wsX5_comes := goodIn_ca (goodIn_s _ [(5, 3)] rfl (by decide +kernel)) gt_wsX3_mowing_wsX50
set_option maxRecDepth 20000 in
theorem gX3_mowing_X5_comes : GoodIn wsX3_mowing (wsV RX3 26 RX5 yX5_comes wsX5_comes) := goodIn_app (goodIn_of _ (by decide +kernel)) ggX3_mowing_X5_comes
theorem gt_wsX3_mowing_wsX00 : GoodIn wsX3_mowing wsX00 := fun w h => ⟨List.mem_cons_of_mem _ (List.mem_append_left _ (List.mem_append_left _ (List.mem_append_left _ (List.mem_append_left _ (List.mem_append_left _ (List.mem_append_left _ (List.mem_append_right _ h))))))), good_of_word (gq_wsX00 w h)⟩
theorem gt_wsX3_mowing_wsX30 : GoodIn wsX3_mowing wsX30 := fun w h => ⟨List.mem_cons_of_mem _ (List.mem_append_left _ (List.mem_append_left _ (List.mem_append_left _ (List.mem_append_left _ (List.mem_append_left _ (List.mem_append_right _ h)))))), good_of_word (gq_wsX30 w h)⟩
theorem gt_wsX3_mowing_wsX40 : GoodIn wsX3_mowing wsX40 := fun w h => ⟨List.mem_cons_of_mem _ (List.mem_append_left _ (List.mem_append_left _ (List.mem_append_left _ (List.mem_append_left _ (List.mem_append_right _ h))))), good_of_word (gq_wsX40 w h)⟩
theorem gt_wsX3_mowing_wsX60 : GoodIn wsX3_mowing wsX60 := fun w h => ⟨List.mem_cons_of_mem _ (List.mem_append_left _ (List.mem_append_left _ (List.mem_append_left _ (List.mem_append_right _ h)))), good_of_word (gq_wsX60 w h)⟩
theorem gt_wsX3_mowing_wsX70 : GoodIn wsX3_mowing wsX70 := fun w h => ⟨List.mem_cons_of_mem _ (List.mem_append_left _ (List.mem_append_left _ (List.mem_append_right _ h))), good_of_word (gq_wsX70 w h)⟩
theorem gt_wsX3_mowing_wsX80 : GoodIn wsX3_mowing wsX80 := fun w h => ⟨List.mem_cons_of_mem _ (List.mem_append_left _ (List.mem_append_right _ h)), good_of_word (gq_wsX80 w h)⟩
theorem gt_wsX3_mowing_wsX100 : GoodIn wsX3_mowing wsX100 := fun w h => ⟨List.mem_cons_of_mem _ (List.mem_append_right _ h), good_of_word (gq_wsX100 w h)⟩
set_option maxRecDepth 20000 in
theorem ggX3_mowing_X4_mowing : GoodIn wsX3_mowing wsX4_mowing := goodIn_ca (goodIn_ca (goodIn_ca (goodIn_ca (goodIn_ca (goodIn_ca (goodIn_ca (goodIn_ca (goodIn_s _ [(13, 3), (2, 6)] rfl (by decide +kernel)) gt_wsX3_mowing_wsX00) gt_wsX3_mowing_wsX30) gt_wsX3_mowing_wsX40) gt_wsX3_mowing_wsX60) gt_wsX3_mowing_wsX70) gt_wsX3_mowing_wsX80) gt_wsX3_mowing_wsX100) gt_wsX3_mowing_wsX50
set_option maxRecDepth 20000 in
theorem gX3_mowing_X4_mowing_s32 : GoodIn wsX3_mowing (va_wsSU RX3 32 yX4_mowing wsX4_mowing) := goodIn_app (goodIn_of _ (by decide +kernel)) ggX3_mowing_X4_mowing
theorem dX3_mowing_0 : decode cX3_mowing 0 = .ok (.aload_n 2, 1) := o_44 (by decide +kernel)
theorem dX3_mowing_1 : decode cX3_mowing 1 = .ok (.bipush 30, 2) := o_16 (by decide +kernel)
theorem dX3_mowing_3 : decode cX3_mowing 3 = .ok (.invokevirtual 26, 3) := o_182 (by decide +kernel)
theorem dX3_mowing_6 : decode cX3_mowing 6 = .ok (.aload_n 0, 1) := o_42 (by decide +kernel)
theorem dX3_mowing_7 : decode cX3_mowing 7 = .ok (.iload_n 1, 1) := o_27 (by decide +kernel)
theorem dX3_mowing_8 : decode cX3_mowing 8 = .ok (.iconst 3, 1) := o_6 (by decide +kernel)
theorem dX3_mowing_9 : decode cX3_mowing 9 = .ok (.imul, 1) := o_104 (by decide +kernel)
theorem dX3_mowing_10 : decode cX3_mowing 10 = .ok (.aload_n 2, 1) := o_44 (by decide +kernel)
theorem dX3_mowing_11 : decode cX3_mowing 11 = .ok (.invokespecial 32, 3) := o_183 (by decide +kernel)
theorem dX3_mowing_14 : decode cX3_mowing 14 = .ok (.ireturn, 1) := o_172 (by decide +kernel)
theorem dX4_init_0 : decode cX4_init 0 = .ok (.aload_n 0, 1) := o_42 (by decide +kernel)
theorem dX4_init_1 : decode cX4_init 1 = .ok (.invokespecial 1, 3) := o_183 (by decide +kernel)
theorem dX4_init_4 : decode cX4_init 4 = .ok (.aload_n 0, 1) := o_42 (by decide +kernel)
theorem dX4_init_5 : decode cX4_init 5 = .ok (.iload_n 1, 1) := o_27 (by decide +kernel)
theorem dX4_init_6 : decode cX4_init 6 = .ok (.putfield 7, 3) := o_181 (by decide +kernel)
theorem dX4_init_9 : decode cX4_init 9 = .ok (.aload_n 0, 1) := o_42 (by decide +kernel)
theorem dX4_init_10 : decode cX4_init 10 = .ok (.iload_n 2, 1) := o_28 (by decide +kernel)
theorem dX4_init_11 : decode cX4_init 11 = .ok (.putfield 13, 3) := o_181 (by decide +kernel)
theorem dX4_init_14 : decode cX4_init 14 = .ok (.aload_n 0, 1) := o_42 (by decide +kernel)
theorem dX4_init_15 : decode cX4_init 15 = .ok (.iload_n 3, 1) := o_29 (by decide +kernel)
theorem dX4_init_16 : decode cX4_init 16 = .ok (.putfield 16, 3) := o_181 (by decide +kernel)
theorem dX4_init_19 : decode cX4_init 19 = .ok (.return_, 1) := o_177 (by decide +kernel)
theorem dX4_strides_0 : decode cX4_strides 0 = .ok (.aload_n 2, 1) := o_44 (by decide +kernel)
theorem dX4_strides_1 : decode cX4_strides 1 = .ok (.getfield 19, 3) := o_180 (by decide +kernel)
theorem dX4_strides_4 : decode cX4_strides 4 = .ok (.aload_n 0, 1) := o_42 (by decide +kernel)
theorem dX4_strides_5 : decode cX4_strides 5 = .ok (.getfield 13, 3) := o_180 (by decide +kernel)
theorem dX4_strides_8 : decode cX4_strides 8 = .ok (.iaload, 1) := o_46 (by decide +kernel)
theorem dX4_strides_9 : decode cX4_strides 9 = .ok (.bipush 20, 2) := o_16 (by decide +kernel)
theorem dX4_strides_11 : decode cX4_strides 11 = .ok (.idiv, 1) := o_108 (by decide +kernel)
theorem dX4_strides_12 : decode cX4_strides 12 = .ok (.istore 4, 2) := o_54 (by decide +kernel)
theorem dX4_strides_14 : decode cX4_strides 14 = .ok (.iload_n 1, 1) := o_27 (by decide +kernel)
theorem dX4_strides_15 : decode cX4_strides 15 = .ok (.iload 4, 2) := o_21 (by decide +kernel)
theorem dX4_strides_17 : decode cX4_strides 17 = .ok (.if_icmp .le 10, 3) := o_164 (by decide +kernel)
theorem dX4_strides_20 : decode cX4_strides 20 = .ok (.iload_n 1, 1) := o_27 (by decide +kernel)
theorem dX4_strides_21 : decode cX4_strides 21 = .ok (.iload 4, 2) := o_21 (by decide +kernel)
theorem dX4_strides_23 : decode cX4_strides 23 = .ok (.isub, 1) := o_100 (by decide +kernel)
theorem dX4_strides_24 : decode cX4_strides 24 = .ok (.goto 4, 3) := o_167 (by decide +kernel)
theorem dX4_strides_27 : decode cX4_strides 27 = .ok (.iconst 0, 1) := o_3 (by decide +kernel)
theorem dX4_strides_28 : decode cX4_strides 28 = .ok (.ireturn, 1) := o_172 (by decide +kernel)
theorem gt_wsX4_mowing_wsX50 : GoodIn wsX4_mowing wsX50 := fun w h => ⟨List.mem_cons_of_mem _ (List.mem_append_right _ h), good_of_word (gq_wsX50 w h)⟩
set_option maxRecDepth 20000 in
theorem ggX4_mowing_X5_comes : GoodIn wsX4_mowing wsX5_comes := goodIn_ca (goodIn_s _ [(6, 3)] rfl (by decide +kernel)) gt_wsX4_mowing_wsX50
set_option maxRecDepth 20000 in
theorem gX4_mowing_X5_comes : GoodIn wsX4_mowing (wsV RX4 25 RX5 yX5_comes wsX5_comes) := goodIn_app (goodIn_of _ (by decide +kernel)) ggX4_mowing_X5_comes
theorem dX4_mowing_0 : decode cX4_mowing 0 = .ok (.aload_n 2, 1) := o_44 (by decide +kernel)
theorem dX4_mowing_1 : decode cX4_mowing 1 = .ok (.bipush 10, 2) := o_16 (by decide +kernel)
theorem dX4_mowing_3 : decode cX4_mowing 3 = .ok (.invokevirtual 25, 3) := o_182 (by decide +kernel)
theorem dX4_mowing_6 : decode cX4_mowing 6 = .ok (.iload_n 1, 1) := o_27 (by decide +kernel)
theorem dX4_mowing_7 : decode cX4_mowing 7 = .ok (.aload_n 0, 1) := o_42 (by decide +kernel)
theorem dX4_mowing_8 : decode cX4_mowing 8 = .ok (.getfield 13, 3) := o_180 (by decide +kernel)
theorem dX4_mowing_11 : decode cX4_mowing 11 = .ok (.iadd, 1) := o_96 (by decide +kernel)
theorem dX4_mowing_12 : decode cX4_mowing 12 = .ok (.ireturn, 1) := o_172 (by decide +kernel)
theorem gt_wsX4_whetting_wsX50 : GoodIn wsX4_whetting wsX50 := fun w h => ⟨List.mem_cons_of_mem _ (List.mem_append_right _ h), good_of_word (gq_wsX50 w h)⟩
set_option maxRecDepth 20000 in
theorem ggX4_whetting_X5_comes : GoodIn wsX4_whetting wsX5_comes := goodIn_ca (goodIn_s _ [(6, 3)] rfl (by decide +kernel)) gt_wsX4_whetting_wsX50
set_option maxRecDepth 20000 in
theorem gX4_whetting_X5_comes : GoodIn wsX4_whetting (wsV RX4 25 RX5 yX5_comes wsX5_comes) := goodIn_app (goodIn_of _ (by decide +kernel)) ggX4_whetting_X5_comes
theorem gt_wsX4_whetting_wsX00 : GoodIn wsX4_whetting wsX00 := fun w h => ⟨List.mem_cons_of_mem _ (List.mem_append_left _ (List.mem_append_left _ (List.mem_append_left _ (List.mem_append_left _ (List.mem_append_left _ (List.mem_append_left _ (List.mem_append_left _ (List.mem_append_right _ h)))))))), good_of_word (gq_wsX00 w h)⟩
theorem gt_wsX4_whetting_wsX30 : GoodIn wsX4_whetting wsX30 := fun w h => ⟨List.mem_cons_of_mem _ (List.mem_append_left _ (List.mem_append_left _ (List.mem_append_left _ (List.mem_append_left _ (List.mem_append_left _ (List.mem_append_left _ (List.mem_append_right _ h))))))), good_of_word (gq_wsX30 w h)⟩
theorem gt_wsX4_whetting_wsX40 : GoodIn wsX4_whetting wsX40 := fun w h => ⟨List.mem_cons_of_mem _ (List.mem_append_left _ (List.mem_append_left _ (List.mem_append_left _ (List.mem_append_left _ (List.mem_append_left _ (List.mem_append_right _ h)))))), good_of_word (gq_wsX40 w h)⟩
theorem gt_wsX4_whetting_wsX60 : GoodIn wsX4_whetting wsX60 := fun w h => ⟨List.mem_cons_of_mem _ (List.mem_append_left _ (List.mem_append_left _ (List.mem_append_left _ (List.mem_append_left _ (List.mem_append_right _ h))))), good_of_word (gq_wsX60 w h)⟩
theorem gt_wsX4_whetting_wsX70 : GoodIn wsX4_whetting wsX70 := fun w h => ⟨List.mem_cons_of_mem _ (List.mem_append_left _ (List.mem_append_left _ (List.mem_append_left _ (List.mem_append_right _ h)))), good_of_word (gq_wsX70 w h)⟩
theorem gt_wsX4_whetting_wsX80 : GoodIn wsX4_whetting wsX80 := fun w h => ⟨List.mem_cons_of_mem _ (List.mem_append_left _ (List.mem_append_left _ (List.mem_append_right _ h))), good_of_word (gq_wsX80 w h)⟩
theorem gt_wsX4_whetting_wsX100 : GoodIn wsX4_whetting wsX100 := fun w h => ⟨List.mem_cons_of_mem _ (List.mem_append_left _ (List.mem_append_right _ h)), good_of_word (gq_wsX100 w h)⟩
set_option maxRecDepth 20000 in
theorem ggX4_whetting_X4_mowing : GoodIn wsX4_whetting wsX4_mowing := goodIn_ca (goodIn_ca (goodIn_ca (goodIn_ca (goodIn_ca (goodIn_ca (goodIn_ca (goodIn_ca (goodIn_s _ [(14, 2), (2, 7)] rfl (by decide +kernel)) gt_wsX4_whetting_wsX00) gt_wsX4_whetting_wsX30) gt_wsX4_whetting_wsX40) gt_wsX4_whetting_wsX60) gt_wsX4_whetting_wsX70) gt_wsX4_whetting_wsX80) gt_wsX4_whetting_wsX100) gt_wsX4_whetting_wsX50
set_option maxRecDepth 20000 in
theorem gX4_whetting_X4_mowing_u31X0 : GoodIn wsX4_whetting (va_wsU RX4 31 RX0 "NineMowers$Mower" ⟨"NineMowers$Mower", "mowing", "(ILNineMowers$Numbers;)I"⟩ yX4_mowing wsX4_mowing) := goodIn_app (goodIn_of _ (by decide +kernel)) ggX4_whetting_X4_mowing
set_option maxRecDepth 20000 in
theorem ggX4_whetting_X3_mowing : GoodIn wsX4_whetting wsX3_mowing := goodIn_ca (goodIn_ca (goodIn_ca (goodIn_ca (goodIn_ca (goodIn_ca (goodIn_ca (goodIn_ca (goodIn_s _ [(20, 2), (3, 6), (22, 1), (10, 1), (23, 1), (12, 4), (2, 1)] rfl (by decide +kernel)) gt_wsX4_whetting_wsX50) gt_wsX4_whetting_wsX00) gt_wsX4_whetting_wsX30) gt_wsX4_whetting_wsX40) gt_wsX4_whetting_wsX60) gt_wsX4_whetting_wsX70) gt_wsX4_whetting_wsX80) gt_wsX4_whetting_wsX100
set_option maxRecDepth 20000 in
theorem gX4_whetting_X3_mowing_u31X3 : GoodIn wsX4_whetting (va_wsO RX4 31 RX3 "NineMowers$Mower" ⟨"NineMowers$Mower", "mowing", "(ILNineMowers$Numbers;)I"⟩ yX3_mowing wsX3_mowing) := goodIn_app (goodIn_of _ (by decide +kernel)) ggX4_whetting_X3_mowing
set_option maxRecDepth 20000 in
theorem gX4_whetting_X4_mowing : GoodIn wsX4_whetting (wsV RX4 31 RX4 yX4_mowing wsX4_mowing) := goodIn_app (goodIn_of _ (by decide +kernel)) ggX4_whetting_X4_mowing
set_option maxRecDepth 20000 in
theorem ggX4_whetting_X6_mowing : GoodIn wsX4_whetting wsX6_mowing := goodIn_ca (goodIn_s _ [(29, 2), (3, 6)] rfl (by decide +kernel)) gt_wsX4_whetting_wsX50
set_option maxRecDepth 20000 in
theorem gX4_whetting_X6_mowing_u31X6 : GoodIn wsX4_whetting (va_wsO RX4 31 RX6 "NineMowers$Mower" ⟨"NineMowers$Mower", "mowing", "(ILNineMowers$Numbers;)I"⟩ yX6_mowing wsX6_mowing) := goodIn_app (goodIn_of _ (by decide +kernel)) ggX4_whetting_X6_mowing
set_option maxRecDepth 20000 in
theorem gX4_whetting_X3_mowing_u31X7 : GoodIn wsX4_whetting (va_wsO RX4 31 RX7 "NineMowers$Mower" ⟨"NineMowers$Mower", "mowing", "(ILNineMowers$Numbers;)I"⟩ yX3_mowing wsX3_mowing) := goodIn_app (goodIn_of _ (by decide +kernel)) ggX4_whetting_X3_mowing
set_option maxRecDepth 20000 in
theorem gX4_whetting_X4_mowing_u31X8 : GoodIn wsX4_whetting (va_wsU RX4 31 RX8 "NineMowers$Mower" ⟨"NineMowers$Mower", "mowing", "(ILNineMowers$Numbers;)I"⟩ yX4_mowing wsX4_mowing) := goodIn_app (goodIn_of _ (by decide +kernel)) ggX4_whetting_X4_mowing
set_option maxRecDepth 20000 in
theorem ggX4_whetting_X10_mowing : GoodIn wsX4_whetting wsX10_mowing := goodIn_ca (goodIn_ca (goodIn_ca (goodIn_ca (goodIn_ca (goodIn_ca (goodIn_ca (goodIn_ca (goodIn_s _ [(36, 4), (3, 6)] rfl (by decide +kernel)) gt_wsX4_whetting_wsX00) gt_wsX4_whetting_wsX30) gt_wsX4_whetting_wsX40) gt_wsX4_whetting_wsX60) gt_wsX4_whetting_wsX70) gt_wsX4_whetting_wsX80) gt_wsX4_whetting_wsX100) gt_wsX4_whetting_wsX50
set_option maxRecDepth 20000 in
theorem gX4_whetting_X10_mowing_u31X10 : GoodIn wsX4_whetting (va_wsO RX4 31 RX10 "NineMowers$Mower" ⟨"NineMowers$Mower", "mowing", "(ILNineMowers$Numbers;)I"⟩ yX10_mowing wsX10_mowing) := goodIn_app (goodIn_of _ (by decide +kernel)) ggX4_whetting_X10_mowing
theorem dX4_whetting_0 : decode cX4_whetting 0 = .ok (.aload_n 2, 1) := o_44 (by decide +kernel)
theorem dX4_whetting_1 : decode cX4_whetting 1 = .ok (.bipush 11, 2) := o_16 (by decide +kernel)
theorem dX4_whetting_3 : decode cX4_whetting 3 = .ok (.invokevirtual 25, 3) := o_182 (by decide +kernel)
theorem dX4_whetting_6 : decode cX4_whetting 6 = .ok (.aload_n 0, 1) := o_42 (by decide +kernel)
theorem dX4_whetting_7 : decode cX4_whetting 7 = .ok (.iload_n 1, 1) := o_27 (by decide +kernel)
theorem dX4_whetting_8 : decode cX4_whetting 8 = .ok (.aload_n 2, 1) := o_44 (by decide +kernel)
theorem dX4_whetting_9 : decode cX4_whetting 9 = .ok (.invokevirtual 31, 3) := o_182 (by decide +kernel)
theorem dX4_whetting_12 : decode cX4_whetting 12 = .ok (.aload_n 0, 1) := o_42 (by decide +kernel)
theorem dX4_whetting_13 : decode cX4_whetting 13 = .ok (.getfield 16, 3) := o_180 (by decide +kernel)
theorem dX4_whetting_16 : decode cX4_whetting 16 = .ok (.isub, 1) := o_100 (by decide +kernel)
theorem dX4_whetting_17 : decode cX4_whetting 17 = .ok (.ireturn, 1) := o_172 (by decide +kernel)
theorem gt_wsX4_telling_wsX50 : GoodIn wsX4_telling wsX50 := fun w h => ⟨List.mem_cons_of_mem _ (List.mem_append_left _ (List.mem_append_left _ (List.mem_append_left _ (List.mem_append_left _ (List.mem_append_left _ (List.mem_append_left _ (List.mem_append_left _ (List.mem_append_right _ h)))))))), good_of_word (gq_wsX50 w h)⟩
set_option maxRecDepth 20000 in
theorem ggX4_telling_X5_comes : GoodIn wsX4_telling wsX5_comes := goodIn_ca (goodIn_s _ [(5, 3)] rfl (by decide +kernel)) gt_wsX4_telling_wsX50
set_option maxRecDepth 20000 in
theorem gX4_telling_X5_comes : GoodIn wsX4_telling (wsV RX4 25 RX5 yX5_comes wsX5_comes) := goodIn_app (goodIn_of _ (by decide +kernel)) ggX4_telling_X5_comes
theorem gt_wsX4_telling_wsX00 : GoodIn wsX4_telling wsX00 := fun w h => ⟨List.mem_cons_of_mem _ (List.mem_append_left _ (List.mem_append_left _ (List.mem_append_left _ (List.mem_append_left _ (List.mem_append_left _ (List.mem_append_left _ (List.mem_append_right _ h))))))), good_of_word (gq_wsX00 w h)⟩
theorem gt_wsX4_telling_wsX30 : GoodIn wsX4_telling wsX30 := fun w h => ⟨List.mem_cons_of_mem _ (List.mem_append_left _ (List.mem_append_left _ (List.mem_append_left _ (List.mem_append_left _ (List.mem_append_left _ (List.mem_append_right _ h)))))), good_of_word (gq_wsX30 w h)⟩
theorem gt_wsX4_telling_wsX40 : GoodIn wsX4_telling wsX40 := fun w h => ⟨List.mem_cons_of_mem _ (List.mem_append_left _ (List.mem_append_left _ (List.mem_append_left _ (List.mem_append_left _ (List.mem_append_right _ h))))), good_of_word (gq_wsX40 w h)⟩
theorem gt_wsX4_telling_wsX60 : GoodIn wsX4_telling wsX60 := fun w h => ⟨List.mem_cons_of_mem _ (List.mem_append_left _ (List.mem_append_left _ (List.mem_append_left _ (List.mem_append_right _ h)))), good_of_word (gq_wsX60 w h)⟩
theorem gt_wsX4_telling_wsX70 : GoodIn wsX4_telling wsX70 := fun w h => ⟨List.mem_cons_of_mem _ (List.mem_append_left _ (List.mem_append_left _ (List.mem_append_right _ h))), good_of_word (gq_wsX70 w h)⟩
theorem gt_wsX4_telling_wsX80 : GoodIn wsX4_telling wsX80 := fun w h => ⟨List.mem_cons_of_mem _ (List.mem_append_left _ (List.mem_append_right _ h)), good_of_word (gq_wsX80 w h)⟩
theorem gt_wsX4_telling_wsX100 : GoodIn wsX4_telling wsX100 := fun w h => ⟨List.mem_cons_of_mem _ (List.mem_append_right _ h), good_of_word (gq_wsX100 w h)⟩
set_option maxRecDepth 20000 in
theorem ggX4_telling_X4_whetting : GoodIn wsX4_telling wsX4_whetting := goodIn_ca (goodIn_ca (goodIn_ca (goodIn_ca (goodIn_ca (goodIn_ca (goodIn_ca (goodIn_ca (goodIn_s _ [(13, 2), (1, 7), (15, 4), (12, 1), (19, 26)] rfl (by decide +kernel)) gt_wsX4_telling_wsX00) gt_wsX4_telling_wsX30) gt_wsX4_telling_wsX40) gt_wsX4_telling_wsX60) gt_wsX4_telling_wsX70) gt_wsX4_telling_wsX80) gt_wsX4_telling_wsX100) gt_wsX4_telling_wsX50
set_option maxRecDepth 20000 in
theorem gX4_telling_X4_whetting_u35X0 : GoodIn wsX4_telling (va_wsU RX4 35 RX0 "NineMowers$Mower" ⟨"NineMowers$Mower", "whetting", "(ILNineMowers$Numbers;)I"⟩ yX4_whetting wsX4_whetting) := goodIn_app (goodIn_of _ (by decide +kernel)) ggX4_telling_X4_whetting
set_option maxRecDepth 20000 in
theorem gX4_telling_X4_whetting_u35X3 : GoodIn wsX4_telling (va_wsU RX4 35 RX3 "NineMowers$Mower" ⟨"NineMowers$Mower", "whetting", "(ILNineMowers$Numbers;)I"⟩ yX4_whetting wsX4_whetting) := goodIn_app (goodIn_of _ (by decide +kernel)) ggX4_telling_X4_whetting
set_option maxRecDepth 20000 in
theorem gX4_telling_X4_whetting : GoodIn wsX4_telling (wsV RX4 35 RX4 yX4_whetting wsX4_whetting) := goodIn_app (goodIn_of _ (by decide +kernel)) ggX4_telling_X4_whetting
set_option maxRecDepth 20000 in
theorem ggX4_telling_X6_whetting : GoodIn wsX4_telling wsX6_whetting := goodIn_ca (goodIn_ca (goodIn_ca (goodIn_ca (goodIn_ca (goodIn_ca (goodIn_ca (goodIn_ca (goodIn_s _ [(51, 1), (35, 1), (2, 6), (52, 8), (9, 1), (60, 1), (11, 4), (1, 1), (15, 20), (36, 9)] rfl (by decide +kernel)) gt_wsX4_telling_wsX50) gt_wsX4_telling_wsX00) gt_wsX4_telling_wsX30) gt_wsX4_telling_wsX40) gt_wsX4_telling_wsX60) gt_wsX4_telling_wsX70) gt_wsX4_telling_wsX80) gt_wsX4_telling_wsX100
set_option maxRecDepth 20000 in
theorem gX4_telling_X6_whetting_u35X6 : GoodIn wsX4_telling (va_wsO RX4 35 RX6 "NineMowers$Mower" ⟨"NineMowers$Mower", "whetting", "(ILNineMowers$Numbers;)I"⟩ yX6_whetting wsX6_whetting) := goodIn_app (goodIn_of _ (by decide +kernel)) ggX4_telling_X6_whetting
set_option maxRecDepth 20000 in
theorem gX4_telling_X4_whetting_u35X7 : GoodIn wsX4_telling (va_wsU RX4 35 RX7 "NineMowers$Mower" ⟨"NineMowers$Mower", "whetting", "(ILNineMowers$Numbers;)I"⟩ yX4_whetting wsX4_whetting) := goodIn_app (goodIn_of _ (by decide +kernel)) ggX4_telling_X4_whetting
set_option maxRecDepth 20000 in
theorem ggX4_telling_X8_whetting : GoodIn wsX4_telling wsX8_whetting := goodIn_ca (goodIn_ca (goodIn_ca (goodIn_ca (goodIn_ca (goodIn_ca (goodIn_ca (goodIn_ca (goodIn_s _ [(57, 2), (2, 6), (59, 1), (9, 1), (60, 1), (11, 4), (1, 1), (15, 30)] rfl (by decide +kernel)) gt_wsX4_telling_wsX50) gt_wsX4_telling_wsX00) gt_wsX4_telling_wsX30) gt_wsX4_telling_wsX40) gt_wsX4_telling_wsX60) gt_wsX4_telling_wsX70) gt_wsX4_telling_wsX80) gt_wsX4_telling_wsX100
set_option maxRecDepth 20000 in
theorem gX4_telling_X8_whetting_u35X8 : GoodIn wsX4_telling (va_wsO RX4 35 RX8 "NineMowers$Mower" ⟨"NineMowers$Mower", "whetting", "(ILNineMowers$Numbers;)I"⟩ yX8_whetting wsX8_whetting) := goodIn_app (goodIn_of _ (by decide +kernel)) ggX4_telling_X8_whetting
set_option maxRecDepth 20000 in
theorem ggX4_telling_X10_whetting : GoodIn wsX4_telling wsX10_whetting := goodIn_ca (goodIn_s _ [(65, 1), (44, 1), (2, 6)] rfl (by decide +kernel)) gt_wsX4_telling_wsX50
set_option maxRecDepth 20000 in
theorem gX4_telling_X10_whetting_u35X10 : GoodIn wsX4_telling (va_wsO RX4 35 RX10 "NineMowers$Mower" ⟨"NineMowers$Mower", "whetting", "(ILNineMowers$Numbers;)I"⟩ yX10_whetting wsX10_whetting) := goodIn_app (goodIn_of _ (by decide +kernel)) ggX4_telling_X10_whetting
theorem dX4_telling_0 : decode cX4_telling 0 = .ok (.aload_n 2, 1) := o_44 (by decide +kernel)
theorem dX4_telling_1 : decode cX4_telling 1 = .ok (.bipush 12, 2) := o_16 (by decide +kernel)
theorem dX4_telling_3 : decode cX4_telling 3 = .ok (.invokevirtual 25, 3) := o_182 (by decide +kernel)
theorem dX4_telling_6 : decode cX4_telling 6 = .ok (.aload_n 0, 1) := o_42 (by decide +kernel)
theorem dX4_telling_7 : decode cX4_telling 7 = .ok (.iload_n 1, 1) := o_27 (by decide +kernel)
theorem dX4_telling_8 : decode cX4_telling 8 = .ok (.aload_n 2, 1) := o_44 (by decide +kernel)
theorem dX4_telling_9 : decode cX4_telling 9 = .ok (.invokevirtual 35, 3) := o_182 (by decide +kernel)
theorem dX4_telling_12 : decode cX4_telling 12 = .ok (.iconst 2, 1) := o_5 (by decide +kernel)
theorem dX4_telling_13 : decode cX4_telling 13 = .ok (.imul, 1) := o_104 (by decide +kernel)
theorem dX4_telling_14 : decode cX4_telling 14 = .ok (.ireturn, 1) := o_172 (by decide +kernel)
theorem dX5_init_0 : decode cX5_init 0 = .ok (.aload_n 0, 1) := o_42 (by decide +kernel)
theorem dX5_init_1 : decode cX5_init 1 = .ok (.invokespecial 1, 3) := o_183 (by decide +kernel)
theorem dX5_init_4 : decode cX5_init 4 = .ok (.aload_n 0, 1) := o_42 (by decide +kernel)
theorem dX5_init_5 : decode cX5_init 5 = .ok (.iconst 0, 1) := o_3 (by decide +kernel)
theorem dX5_init_6 : decode cX5_init 6 = .ok (.putfield 7, 3) := o_181 (by decide +kernel)
theorem dX5_init_9 : decode cX5_init 9 = .ok (.aload_n 0, 1) := o_42 (by decide +kernel)
theorem dX5_init_10 : decode cX5_init 10 = .ok (.iload_n 1, 1) := o_27 (by decide +kernel)
theorem dX5_init_11 : decode cX5_init 11 = .ok (.newarray .int, 2) := on_int (by decide +kernel)
theorem dX5_init_13 : decode cX5_init 13 = .ok (.putfield 13, 3) := o_181 (by decide +kernel)
theorem dX5_init_16 : decode cX5_init 16 = .ok (.return_, 1) := o_177 (by decide +kernel)
theorem dX5_isFull_0 : decode cX5_isFull 0 = .ok (.aload_n 0, 1) := o_42 (by decide +kernel)
theorem dX5_isFull_1 : decode cX5_isFull 1 = .ok (.getfield 7, 3) := o_180 (by decide +kernel)
theorem dX5_isFull_4 : decode cX5_isFull 4 = .ok (.aload_n 0, 1) := o_42 (by decide +kernel)
theorem dX5_isFull_5 : decode cX5_isFull 5 = .ok (.getfield 13, 3) := o_180 (by decide +kernel)
theorem dX5_isFull_8 : decode cX5_isFull 8 = .ok (.arraylength, 1) := o_190 (by decide +kernel)
theorem dX5_isFull_9 : decode cX5_isFull 9 = .ok (.if_icmp .lt 7, 3) := o_161 (by decide +kernel)
theorem dX5_isFull_12 : decode cX5_isFull 12 = .ok (.iconst 1, 1) := o_4 (by decide +kernel)
theorem dX5_isFull_13 : decode cX5_isFull 13 = .ok (.goto 4, 3) := o_167 (by decide +kernel)
theorem dX5_isFull_16 : decode cX5_isFull 16 = .ok (.iconst 0, 1) := o_3 (by decide +kernel)
theorem dX5_isFull_17 : decode cX5_isFull 17 = .ok (.ireturn, 1) := o_172 (by decide +kernel)
theorem dX5_has_0 : decode cX5_has 0 = .ok (.iload_n 1, 1) := o_27 (by decide +kernel)
theorem dX5_has_1 : decode cX5_has 1 = .ok (.ifCond .lt 24, 3) := o_155 (by decide +kernel)
theorem dX5_has_4 : decode cX5_has 4 = .ok (.iload_n 1, 1) := o_27 (by decide +kernel)
theorem dX5_has_5 : decode cX5_has 5 = .ok (.aload_n 0, 1) := o_42 (by decide +kernel)
theorem dX5_has_6 : decode cX5_has 6 = .ok (.getfield 7, 3) := o_180 (by decide +kernel)
theorem dX5_has_9 : decode cX5_has 9 = .ok (.if_icmp .ge 16, 3) := o_162 (by decide +kernel)
theorem dX5_has_12 : decode cX5_has 12 = .ok (.iload_n 1, 1) := o_27 (by decide +kernel)
theorem dX5_has_13 : decode cX5_has 13 = .ok (.aload_n 0, 1) := o_42 (by decide +kernel)
theorem dX5_has_14 : decode cX5_has 14 = .ok (.getfield 13, 3) := o_180 (by decide +kernel)
theorem dX5_has_17 : decode cX5_has 17 = .ok (.arraylength, 1) := o_190 (by decide +kernel)
theorem dX5_has_18 : decode cX5_has 18 = .ok (.if_icmp .ge 7, 3) := o_162 (by decide +kernel)
theorem dX5_has_21 : decode cX5_has 21 = .ok (.iconst 1, 1) := o_4 (by decide +kernel)
theorem dX5_has_22 : decode cX5_has 22 = .ok (.goto 4, 3) := o_167 (by decide +kernel)
theorem dX5_has_25 : decode cX5_has 25 = .ok (.iconst 0, 1) := o_3 (by decide +kernel)
theorem dX5_has_26 : decode cX5_has 26 = .ok (.ireturn, 1) := o_172 (by decide +kernel)
theorem dX5_comes_0 : decode cX5_comes 0 = .ok (.aload_n 0, 1) := o_42 (by decide +kernel)
theorem dX5_comes_1 : decode cX5_comes 1 = .ok (.getfield 7, 3) := o_180 (by decide +kernel)
theorem dX5_comes_4 : decode cX5_comes 4 = .ok (.aload_n 0, 1) := o_42 (by decide +kernel)
theorem dX5_comes_5 : decode cX5_comes 5 = .ok (.getfield 13, 3) := o_180 (by decide +kernel)
theorem dX5_comes_8 : decode cX5_comes 8 = .ok (.arraylength, 1) := o_190 (by decide +kernel)
theorem dX5_comes_9 : decode cX5_comes 9 = .ok (.if_icmp .ge 13, 3) := o_162 (by decide +kernel)
theorem dX5_comes_12 : decode cX5_comes 12 = .ok (.aload_n 0, 1) := o_42 (by decide +kernel)
theorem dX5_comes_13 : decode cX5_comes 13 = .ok (.getfield 13, 3) := o_180 (by decide +kernel)
theorem dX5_comes_16 : decode cX5_comes 16 = .ok (.aload_n 0, 1) := o_42 (by decide +kernel)
theorem dX5_comes_17 : decode cX5_comes 17 = .ok (.getfield 7, 3) := o_180 (by decide +kernel)
theorem dX5_comes_20 : decode cX5_comes 20 = .ok (.iload_n 1, 1) := o_27 (by decide +kernel)
theorem dX5_comes_21 : decode cX5_comes 21 = .ok (.iastore, 1) := o_79 (by decide +kernel)
theorem dX5_comes_22 : decode cX5_comes 22 = .ok (.aload_n 0, 1) := o_42 (by decide +kernel)
theorem dX5_comes_23 : decode cX5_comes 23 = .ok (.dup, 1) := o_89 (by decide +kernel)
theorem dX5_comes_24 : decode cX5_comes 24 = .ok (.getfield 7, 3) := o_180 (by decide +kernel)
theorem dX5_comes_27 : decode cX5_comes 27 = .ok (.iconst 1, 1) := o_4 (by decide +kernel)
theorem dX5_comes_28 : decode cX5_comes 28 = .ok (.iadd, 1) := o_96 (by decide +kernel)
theorem dX5_comes_29 : decode cX5_comes 29 = .ok (.putfield 7, 3) := o_181 (by decide +kernel)
theorem dX5_comes_32 : decode cX5_comes 32 = .ok (.return_, 1) := o_177 (by decide +kernel)
theorem dX5_becomes_0 : decode cX5_becomes 0 = .ok (.aload_n 0, 1) := o_42 (by decide +kernel)
theorem dX5_becomes_1 : decode cX5_becomes 1 = .ok (.aload_n 1, 1) := o_43 (by decide +kernel)
theorem dX5_becomes_2 : decode cX5_becomes 2 = .ok (.getfield 7, 3) := o_180 (by decide +kernel)
theorem dX5_becomes_5 : decode cX5_becomes 5 = .ok (.putfield 7, 3) := o_181 (by decide +kernel)
theorem dX5_becomes_8 : decode cX5_becomes 8 = .ok (.aload_n 1, 1) := o_43 (by decide +kernel)
theorem dX5_becomes_9 : decode cX5_becomes 9 = .ok (.getfield 13, 3) := o_180 (by decide +kernel)
theorem dX5_becomes_12 : decode cX5_becomes 12 = .ok (.iconst 0, 1) := o_3 (by decide +kernel)
theorem dX5_becomes_13 : decode cX5_becomes 13 = .ok (.aload_n 0, 1) := o_42 (by decide +kernel)
theorem dX5_becomes_14 : decode cX5_becomes 14 = .ok (.getfield 13, 3) := o_180 (by decide +kernel)
theorem dX5_becomes_17 : decode cX5_becomes 17 = .ok (.iconst 0, 1) := o_3 (by decide +kernel)
theorem dX5_becomes_18 : decode cX5_becomes 18 = .ok (.aload_n 0, 1) := o_42 (by decide +kernel)
theorem dX5_becomes_19 : decode cX5_becomes 19 = .ok (.getfield 13, 3) := o_180 (by decide +kernel)
theorem dX5_becomes_22 : decode cX5_becomes 22 = .ok (.arraylength, 1) := o_190 (by decide +kernel)
theorem dX5_becomes_23 : decode cX5_becomes 23 = .ok (.aload_n 1, 1) := o_43 (by decide +kernel)
theorem dX5_becomes_24 : decode cX5_becomes 24 = .ok (.getfield 13, 3) := o_180 (by decide +kernel)
theorem dX5_becomes_27 : decode cX5_becomes 27 = .ok (.arraylength, 1) := o_190 (by decide +kernel)
theorem dX5_becomes_28 : decode cX5_becomes 28 = .ok (.invokestatic 17, 3) := o_184 (by decide +kernel)
theorem dX5_becomes_31 : decode cX5_becomes 31 = .ok (.invokestatic 23, 3) := o_184 (by decide +kernel)
theorem dX5_becomes_34 : decode cX5_becomes 34 = .ok (.return_, 1) := o_177 (by decide +kernel)
theorem gt_wsX6_init_wsX00 : GoodIn wsX6_init wsX00 := fun w h => ⟨List.mem_cons_of_mem _ (List.mem_append_left _ (List.mem_append_left _ (List.mem_append_left _ (List.mem_append_left _ (List.mem_append_left _ (List.mem_append_left _ (List.mem_append_right _ h))))))), good_of_word (gq_wsX00 w h)⟩
theorem gt_wsX6_init_wsX30 : GoodIn wsX6_init wsX30 := fun w h => ⟨List.mem_cons_of_mem _ (List.mem_append_left _ (List.mem_append_left _ (List.mem_append_left _ (List.mem_append_left _ (List.mem_append_left _ (List.mem_append_right _ h)))))), good_of_word (gq_wsX30 w h)⟩
theorem gt_wsX6_init_wsX40 : GoodIn wsX6_init wsX40 := fun w h => ⟨List.mem_cons_of_mem _ (List.mem_append_left _ (List.mem_append_left _ (List.mem_append_left _ (List.mem_append_left _ (List.mem_append_right _ h))))), good_of_word (gq_wsX40 w h)⟩
theorem gt_wsX6_init_wsX60 : GoodIn wsX6_init wsX60 := fun w h => ⟨List.mem_cons_of_mem _ (List.mem_append_left _ (List.mem_append_left _ (List.mem_append_left _ (List.mem_append_right _ h)))), good_of_word (gq_wsX60 w h)⟩
theorem gt_wsX6_init_wsX70 : GoodIn wsX6_init wsX70 := fun w h => ⟨List.mem_cons_of_mem _ (List.mem_append_left _ (List.mem_append_left _ (List.mem_append_right _ h))), good_of_word (gq_wsX70 w h)⟩
theorem gt_wsX6_init_wsX80 : GoodIn wsX6_init wsX80 := fun w h => ⟨List.mem_cons_of_mem _ (List.mem_append_left _ (List.mem_append_right _ h)), good_of_word (gq_wsX80 w h)⟩
theorem gt_wsX6_init_wsX100 : GoodIn wsX6_init wsX100 := fun w h => ⟨List.mem_cons_of_mem _ (List.mem_append_right _ h), good_of_word (gq_wsX100 w h)⟩
set_option maxRecDepth 20000 in
theorem ggX6_init_X8_init : GoodIn wsX6_init wsX8_init := goodIn_ca (goodIn_ca (goodIn_ca (goodIn_ca (goodIn_ca (goodIn_ca (goodIn_ca (goodIn_s _ [(4, 11)] rfl (by decide +kernel)) gt_wsX6_init_wsX00) gt_wsX6_init_wsX30) gt_wsX6_init_wsX40) gt_wsX6_init_wsX60) gt_wsX6_init_wsX70) gt_wsX6_init_wsX80) gt_wsX6_init_wsX100
set_option maxRecDepth 20000 in
theorem gX6_init_X8_init : GoodIn wsX6_init (wsX8_init) := ggX6_init_X8_init
theorem dX6_init_0 : decode cX6_init 0 = .ok (.aload_n 0, 1) := o_42 (by decide +kernel)
theorem dX6_init_1 : decode cX6_init 1 = .ok (.iload_n 1, 1) := o_27 (by decide +kernel)
theorem dX6_init_2 : decode cX6_init 2 = .ok (.iload_n 2, 1) := o_28 (by decide +kernel)
theorem dX6_init_3 : decode cX6_init 3 = .ok (.iload_n 3, 1) := o_29 (by decide +kernel)
theorem dX6_init_4 : decode cX6_init 4 = .ok (.invokespecial 1, 3) := o_183 (by decide +kernel)
theorem dX6_init_7 : decode cX6_init 7 = .ok (.return_, 1) := o_177 (by decide +kernel)
set_option maxRecDepth 20000 in
theorem ggX6_strides_X8_strides : GoodIn wsX6_strides wsX8_strides := goodIn_s _ [(8, 1)] rfl (by decide +kernel)
set_option maxRecDepth 20000 in
theorem gX6_strides_X8_strides_s7 : GoodIn wsX6_strides (va_wsSU RX6 7 yX8_strides wsX8_strides) := goodIn_app (goodIn_of _ (by decide +kernel)) ggX6_strides_X8_strides
theorem dX6_strides_0 : decode cX6_strides 0 = .ok (.aload_n 0, 1) := o_42 (by decide +kernel)
theorem dX6_strides_1 : decode cX6_strides 1 = .ok (.iload_n 1, 1) := o_27 (by decide +kernel)
theorem dX6_strides_2 : decode cX6_strides 2 = .ok (.aload_n 2, 1) := o_44 (by decide +kernel)
theorem dX6_strides_3 : decode cX6_strides 3 = .ok (.iload_n 3, 1) := o_29 (by decide +kernel)
theorem dX6_strides_4 : decode cX6_strides 4 = .ok (.invokespecial 7, 3) := o_183 (by decide +kernel)
theorem dX6_strides_7 : decode cX6_strides 7 = .ok (.aload_n 0, 1) := o_42 (by decide +kernel)
theorem dX6_strides_8 : decode cX6_strides 8 = .ok (.getfield 11, 3) := o_180 (by decide +kernel)
theorem dX6_strides_11 : decode cX6_strides 11 = .ok (.iconst 3, 1) := o_6 (by decide +kernel)
theorem dX6_strides_12 : decode cX6_strides 12 = .ok (.idiv, 1) := o_108 (by decide +kernel)
theorem dX6_strides_13 : decode cX6_strides 13 = .ok (.isub, 1) := o_100 (by decide +kernel)
theorem dX6_strides_14 : decode cX6_strides 14 = .ok (.istore 4, 2) := o_54 (by decide +kernel)
theorem dX6_strides_16 : decode cX6_strides 16 = .ok (.iload 4, 2) := o_21 (by decide +kernel)
theorem dX6_strides_18 : decode cX6_strides 18 = .ok (.ifCond .le 8, 3) := o_158 (by decide +kernel)
theorem dX6_strides_21 : decode cX6_strides 21 = .ok (.iload 4, 2) := o_21 (by decide +kernel)
theorem dX6_strides_23 : decode cX6_strides 23 = .ok (.goto 4, 3) := o_167 (by decide +kernel)
theorem dX6_strides_26 : decode cX6_strides 26 = .ok (.iconst 0, 1) := o_3 (by decide +kernel)
theorem dX6_strides_27 : decode cX6_strides 27 = .ok (.ireturn, 1) := o_172 (by decide +kernel)
theorem gt_wsX6_mowing_wsX50 : GoodIn wsX6_mowing wsX50 := fun w h => ⟨List.mem_cons_of_mem _ (List.mem_append_right _ h), good_of_word (gq_wsX50 w h)⟩
set_option maxRecDepth 20000 in
theorem ggX6_mowing_X5_comes : GoodIn wsX6_mowing wsX5_comes := goodIn_ca (goodIn_s _ [(5, 3)] rfl (by decide +kernel)) gt_wsX6_mowing_wsX50
set_option maxRecDepth 20000 in
theorem gX6_mowing_X5_comes : GoodIn wsX6_mowing (wsV RX6 17 RX5 yX5_comes wsX5_comes) := goodIn_app (goodIn_of _ (by decide +kernel)) ggX6_mowing_X5_comes
theorem dX6_mowing_0 : decode cX6_mowing 0 = .ok (.aload_n 2, 1) := o_44 (by decide +kernel)
theorem dX6_mowing_1 : decode cX6_mowing 1 = .ok (.bipush 50, 2) := o_16 (by decide +kernel)
theorem dX6_mowing_3 : decode cX6_mowing 3 = .ok (.invokevirtual 17, 3) := o_182 (by decide +kernel)
theorem dX6_mowing_6 : decode cX6_mowing 6 = .ok (.aload_n 0, 1) := o_42 (by decide +kernel)
theorem dX6_mowing_7 : decode cX6_mowing 7 = .ok (.iload_n 1, 1) := o_27 (by decide +kernel)
theorem dX6_mowing_8 : decode cX6_mowing 8 = .ok (.aload_n 2, 1) := o_44 (by decide +kernel)
theorem dX6_mowing_9 : decode cX6_mowing 9 = .ok (.invokespecial 23, 3) := o_183 (by decide +kernel)
theorem dX6_mowing_12 : decode cX6_mowing 12 = .ok (.ineg, 1) := o_116 (by decide +kernel)
theorem dX6_mowing_13 : decode cX6_mowing 13 = .ok (.ireturn, 1) := o_172 (by decide +kernel)
theorem gt_wsX6_whetting_wsX50 : GoodIn wsX6_whetting wsX50 := fun w h => ⟨List.mem_cons_of_mem _ (List.mem_append_left _ (List.mem_append_left _ (List.mem_append_left _ (List.mem_append_left _ (List.mem_append_left _ (List.mem_append_left _ (List.mem_append_left _ (List.mem_append_right _ h)))))))), good_of_word (gq_wsX50 w h)⟩
set_option maxRecDepth 20000 in
theorem ggX6_whetting_X5_comes : GoodIn wsX6_whetting wsX5_comes := goodIn_ca (goodIn_s _ [(5, 3)] rfl (by decide +kernel)) gt_wsX6_whetting_wsX50
set_option maxRecDepth 20000 in
theorem gX6_whetting_X5_comes : GoodIn wsX6_whetting (wsV RX6 17 RX5 yX5_comes wsX5_comes) := goodIn_app (goodIn_of _ (by decide +kernel)) ggX6_whetting_X5_comes
theorem gt_wsX6_whetting_wsX00 : GoodIn wsX6_whetting wsX00 := fun w h => ⟨List.mem_cons_of_mem _ (List.mem_append_left _ (List.mem_append_left _ (List.mem_append_left _ (List.mem_append_left _ (List.mem_append_left _ (List.mem_append_left _ (List.mem_append_right _ h))))))), good_of_word (gq_wsX00 w h)⟩
theorem gt_wsX6_whetting_wsX30 : GoodIn wsX6_whetting wsX30 := fun w h => ⟨List.mem_cons_of_mem _ (List.mem_append_left _ (List.mem_append_left _ (List.mem_append_left _ (List.mem_append_left _ (List.mem_append_left _ (List.mem_append_right _ h)))))), good_of_word (gq_wsX30 w h)⟩
theorem gt_wsX6_whetting_wsX40 : GoodIn wsX6_whetting wsX40 := fun w h => ⟨List.mem_cons_of_mem _ (List.mem_append_left _ (List.mem_append_left _ (List.mem_append_left _ (List.mem_append_left _ (List.mem_append_right _ h))))), good_of_word (gq_wsX40 w h)⟩
theorem gt_wsX6_whetting_wsX60 : GoodIn wsX6_whetting wsX60 := fun w h => ⟨List.mem_cons_of_mem _ (List.mem_append_left _ (List.mem_append_left _ (List.mem_append_left _ (List.mem_append_right _ h)))), good_of_word (gq_wsX60 w h)⟩
theorem gt_wsX6_whetting_wsX70 : GoodIn wsX6_whetting wsX70 := fun w h => ⟨List.mem_cons_of_mem _ (List.mem_append_left _ (List.mem_append_left _ (List.mem_append_right _ h))), good_of_word (gq_wsX70 w h)⟩
theorem gt_wsX6_whetting_wsX80 : GoodIn wsX6_whetting wsX80 := fun w h => ⟨List.mem_cons_of_mem _ (List.mem_append_left _ (List.mem_append_right _ h)), good_of_word (gq_wsX80 w h)⟩
theorem gt_wsX6_whetting_wsX100 : GoodIn wsX6_whetting wsX100 := fun w h => ⟨List.mem_cons_of_mem _ (List.mem_append_right _ h), good_of_word (gq_wsX100 w h)⟩
set_option maxRecDepth 20000 in
theorem ggX6_whetting_X8_whetting : GoodIn wsX6_whetting wsX8_whetting := goodIn_ca (goodIn_ca (goodIn_ca (goodIn_ca (goodIn_ca (goodIn_ca (goodIn_ca (goodIn_ca (goodIn_s _ [(13, 2), (2, 6), (15, 28), (1, 1), (43, 9)] rfl (by decide +kernel)) gt_wsX6_whetting_wsX50) gt_wsX6_whetting_wsX00) gt_wsX6_whetting_wsX30) gt_wsX6_whetting_wsX40) gt_wsX6_whetting_wsX60) gt_wsX6_whetting_wsX70) gt_wsX6_whetting_wsX80) gt_wsX6_whetting_wsX100
set_option maxRecDepth 20000 in
theorem gX6_whetting_X8_whetting_s27 : GoodIn wsX6_whetting (va_wsSU RX6 27 yX8_whetting wsX8_whetting) := goodIn_app (goodIn_of _ (by decide +kernel)) ggX6_whetting_X8_whetting
theorem dX6_whetting_0 : decode cX6_whetting 0 = .ok (.aload_n 2, 1) := o_44 (by decide +kernel)
theorem dX6_whetting_1 : decode cX6_whetting 1 = .ok (.bipush 51, 2) := o_16 (by decide +kernel)
theorem dX6_whetting_3 : decode cX6_whetting 3 = .ok (.invokevirtual 17, 3) := o_182 (by decide +kernel)
theorem dX6_whetting_6 : decode cX6_whetting 6 = .ok (.aload_n 0, 1) := o_42 (by decide +kernel)
theorem dX6_whetting_7 : decode cX6_whetting 7 = .ok (.iload_n 1, 1) := o_27 (by decide +kernel)
theorem dX6_whetting_8 : decode cX6_whetting 8 = .ok (.iconst 1, 1) := o_4 (by decide +kernel)
theorem dX6_whetting_9 : decode cX6_whetting 9 = .ok (.iadd, 1) := o_96 (by decide +kernel)
theorem dX6_whetting_10 : decode cX6_whetting 10 = .ok (.aload_n 2, 1) := o_44 (by decide +kernel)
theorem dX6_whetting_11 : decode cX6_whetting 11 = .ok (.invokespecial 27, 3) := o_183 (by decide +kernel)
theorem dX6_whetting_14 : decode cX6_whetting 14 = .ok (.ireturn, 1) := o_172 (by decide +kernel)
theorem gt_wsX7_init_wsX00 : GoodIn wsX7_init wsX00 := fun w h => ⟨List.mem_cons_of_mem _ (List.mem_append_left _ (List.mem_append_left _ (List.mem_append_left _ (List.mem_append_left _ (List.mem_append_left _ (List.mem_append_left _ (List.mem_append_right _ h))))))), good_of_word (gq_wsX00 w h)⟩
theorem gt_wsX7_init_wsX30 : GoodIn wsX7_init wsX30 := fun w h => ⟨List.mem_cons_of_mem _ (List.mem_append_left _ (List.mem_append_left _ (List.mem_append_left _ (List.mem_append_left _ (List.mem_append_left _ (List.mem_append_right _ h)))))), good_of_word (gq_wsX30 w h)⟩
theorem gt_wsX7_init_wsX40 : GoodIn wsX7_init wsX40 := fun w h => ⟨List.mem_cons_of_mem _ (List.mem_append_left _ (List.mem_append_left _ (List.mem_append_left _ (List.mem_append_left _ (List.mem_append_right _ h))))), good_of_word (gq_wsX40 w h)⟩
theorem gt_wsX7_init_wsX60 : GoodIn wsX7_init wsX60 := fun w h => ⟨List.mem_cons_of_mem _ (List.mem_append_left _ (List.mem_append_left _ (List.mem_append_left _ (List.mem_append_right _ h)))), good_of_word (gq_wsX60 w h)⟩
theorem gt_wsX7_init_wsX70 : GoodIn wsX7_init wsX70 := fun w h => ⟨List.mem_cons_of_mem _ (List.mem_append_left _ (List.mem_append_left _ (List.mem_append_right _ h))), good_of_word (gq_wsX70 w h)⟩
theorem gt_wsX7_init_wsX80 : GoodIn wsX7_init wsX80 := fun w h => ⟨List.mem_cons_of_mem _ (List.mem_append_left _ (List.mem_append_right _ h)), good_of_word (gq_wsX80 w h)⟩
theorem gt_wsX7_init_wsX100 : GoodIn wsX7_init wsX100 := fun w h => ⟨List.mem_cons_of_mem _ (List.mem_append_right _ h), good_of_word (gq_wsX100 w h)⟩
set_option maxRecDepth 20000 in
theorem ggX7_init_X3_init : GoodIn wsX7_init wsX3_init := goodIn_ca (goodIn_ca (goodIn_ca (goodIn_ca (goodIn_ca (goodIn_ca (goodIn_ca (goodIn_s _ [(4, 11)] rfl (by decide +kernel)) gt_wsX7_init_wsX00) gt_wsX7_init_wsX30) gt_wsX7_init_wsX40) gt_wsX7_init_wsX60) gt_wsX7_init_wsX70) gt_wsX7_init_wsX80) gt_wsX7_init_wsX100
set_option maxRecDepth 20000 in
theorem gX7_init_X3_init : GoodIn wsX7_init (wsX3_init) := ggX7_init_X3_init
theorem dX7_init_0 : decode cX7_init 0 = .ok (.aload_n 0, 1) := o_42 (by decide +kernel)
theorem dX7_init_1 : decode cX7_init 1 = .ok (.iload_n 1, 1) := o_27 (by decide +kernel)
theorem dX7_init_2 : decode cX7_init 2 = .ok (.iload_n 2, 1) := o_28 (by decide +kernel)
theorem dX7_init_3 : decode cX7_init 3 = .ok (.iload_n 3, 1) := o_29 (by decide +kernel)
theorem dX7_init_4 : decode cX7_init 4 = .ok (.invokespecial 1, 3) := o_183 (by decide +kernel)
theorem dX7_init_7 : decode cX7_init 7 = .ok (.return_, 1) := o_177 (by decide +kernel)
theorem gt_wsX7_strides_wsX10 : GoodIn wsX7_strides wsX10 := fun w h => ⟨List.mem_cons_of_mem _ (List.mem_append_left _ (List.mem_append_left _ (List.mem_append_left _ (List.mem_append_left _ (List.mem_append_left _ (List.mem_append_left _ (List.mem_append_left _ (List.mem_append_left _ (List.mem_append_right _ h))))))))), good_of_word (gq_wsX10 w h)⟩
theorem gt_wsX7_strides_wsX00 : GoodIn wsX7_strides wsX00 := fun w h => ⟨List.mem_cons_of_mem _ (List.mem_append_left _ (List.mem_append_left _ (List.mem_append_left _ (List.mem_append_left _ (List.mem_append_left _ (List.mem_append_left _ (List.mem_append_left _ (List.mem_append_right _ h)))))))), good_of_word (gq_wsX00 w h)⟩
theorem gt_wsX7_strides_wsX30 : GoodIn wsX7_strides wsX30 := fun w h => ⟨List.mem_cons_of_mem _ (List.mem_append_left _ (List.mem_append_left _ (List.mem_append_left _ (List.mem_append_left _ (List.mem_append_left _ (List.mem_append_left _ (List.mem_append_right _ h))))))), good_of_word (gq_wsX30 w h)⟩
theorem gt_wsX7_strides_wsX40 : GoodIn wsX7_strides wsX40 := fun w h => ⟨List.mem_cons_of_mem _ (List.mem_append_left _ (List.mem_append_left _ (List.mem_append_left _ (List.mem_append_left _ (List.mem_append_left _ (List.mem_append_right _ h)))))), good_of_word (gq_wsX40 w h)⟩
theorem gt_wsX7_strides_wsX60 : GoodIn wsX7_strides wsX60 := fun w h => ⟨List.mem_cons_of_mem _ (List.mem_append_left _ (List.mem_append_left _ (List.mem_append_left _ (List.mem_append_left _ (List.mem_append_right _ h))))), good_of_word (gq_wsX60 w h)⟩
theorem gt_wsX7_strides_wsX70 : GoodIn wsX7_strides wsX70 := fun w h => ⟨List.mem_cons_of_mem _ (List.mem_append_left _ (List.mem_append_left _ (List.mem_append_left _ (List.mem_append_right _ h)))), good_of_word (gq_wsX70 w h)⟩
theorem gt_wsX7_strides_wsX80 : GoodIn wsX7_strides wsX80 := fun w h => ⟨List.mem_cons_of_mem _ (List.mem_append_left _ (List.mem_append_left _ (List.mem_append_right _ h))), good_of_word (gq_wsX80 w h)⟩
theorem gt_wsX7_strides_wsX100 : GoodIn wsX7_strides wsX100 := fun w h => ⟨List.mem_cons_of_mem _ (List.mem_append_left _ (List.mem_append_right _ h)), good_of_word (gq_wsX100 w h)⟩
set_option maxRecDepth 20000 in
theorem ggX7_strides_X3_strides : GoodIn wsX7_strides wsX3_strides := goodIn_ca (goodIn_ca (goodIn_ca (goodIn_ca (goodIn_ca (goodIn_ca (goodIn_ca (goodIn_ca (goodIn_s _ [(6, 14)] rfl (by decide +kernel)) gt_wsX7_strides_wsX10) gt_wsX7_strides_wsX00) gt_wsX7_strides_wsX30) gt_wsX7_strides_wsX40) gt_wsX7_strides_wsX60) gt_wsX7_strides_wsX70) gt_wsX7_strides_wsX80) gt_wsX7_strides_wsX100
set_option maxRecDepth 20000 in
theorem gX7_strides_X3_strides_s7 : GoodIn wsX7_strides (va_wsSU RX7 7 yX3_strides wsX3_strides) := goodIn_app (goodIn_of _ (by decide +kernel)) ggX7_strides_X3_strides
theorem gt_wsX7_strides_wsX20 : GoodIn wsX7_strides wsX20 := fun w h => ⟨List.mem_cons_of_mem _ (List.mem_append_right _ h), good_of_word (gq_wsX20 w h)⟩
set_option maxRecDepth 20000 in
theorem ggX7_strides_X1_isPressedAt : GoodIn wsX7_strides wsX1_isPressedAt := goodIn_ca (goodIn_ca (goodIn_s _ [(24, 7), (23, 1), (31, 4)] rfl (by decide +kernel)) gt_wsX7_strides_wsX10) gt_wsX7_strides_wsX20
set_option maxRecDepth 20000 in
theorem gX7_strides_X1_isPressedAt : GoodIn wsX7_strides (wsV RX7 11 RX1 yX1_isPressedAt wsX1_isPressedAt) := goodIn_app (goodIn_of _ (by decide +kernel)) ggX7_strides_X1_isPressedAt
theorem dX7_strides_0 : decode cX7_strides 0 = .ok (.aload_n 0, 1) := o_42 (by decide +kernel)
theorem dX7_strides_1 : decode cX7_strides 1 = .ok (.iload_n 1, 1) := o_27 (by decide +kernel)
theorem dX7_strides_2 : decode cX7_strides 2 = .ok (.aload_n 2, 1) := o_44 (by decide +kernel)
theorem dX7_strides_3 : decode cX7_strides 3 = .ok (.iload_n 3, 1) := o_29 (by decide +kernel)
theorem dX7_strides_4 : decode cX7_strides 4 = .ok (.invokespecial 7, 3) := o_183 (by decide +kernel)
theorem dX7_strides_7 : decode cX7_strides 7 = .ok (.aload_n 2, 1) := o_44 (by decide +kernel)
theorem dX7_strides_8 : decode cX7_strides 8 = .ok (.iload_n 3, 1) := o_29 (by decide +kernel)
theorem dX7_strides_9 : decode cX7_strides 9 = .ok (.invokevirtual 11, 3) := o_182 (by decide +kernel)
theorem dX7_strides_12 : decode cX7_strides 12 = .ok (.ifCond .eq 7, 3) := o_153 (by decide +kernel)
theorem dX7_strides_15 : decode cX7_strides 15 = .ok (.iconst 2, 1) := o_5 (by decide +kernel)
theorem dX7_strides_16 : decode cX7_strides 16 = .ok (.goto 4, 3) := o_167 (by decide +kernel)
theorem dX7_strides_19 : decode cX7_strides 19 = .ok (.iconst 0, 1) := o_3 (by decide +kernel)
theorem dX7_strides_20 : decode cX7_strides 20 = .ok (.iadd, 1) := o_96 (by decide +kernel)
theorem dX7_strides_21 : decode cX7_strides 21 = .ok (.ireturn, 1) := o_172 (by decide +kernel)
theorem gt_wsX7_telling_wsX50 : GoodIn wsX7_telling wsX50 := fun w h => ⟨List.mem_cons_of_mem _ (List.mem_append_right _ h), good_of_word (gq_wsX50 w h)⟩
set_option maxRecDepth 20000 in
theorem ggX7_telling_X5_comes : GoodIn wsX7_telling wsX5_comes := goodIn_ca (goodIn_s _ [(7, 3)] rfl (by decide +kernel)) gt_wsX7_telling_wsX50
set_option maxRecDepth 20000 in
theorem gX7_telling_X5_comes : GoodIn wsX7_telling (wsV RX7 17 RX5 yX5_comes wsX5_comes) := goodIn_app (goodIn_of _ (by decide +kernel)) ggX7_telling_X5_comes
theorem dX7_telling_0 : decode cX7_telling 0 = .ok (.aload_n 2, 1) := o_44 (by decide +kernel)
theorem dX7_telling_1 : decode cX7_telling 1 = .ok (.bipush 60, 2) := o_16 (by decide +kernel)
theorem dX7_telling_3 : decode cX7_telling 3 = .ok (.invokevirtual 17, 3) := o_182 (by decide +kernel)
theorem dX7_telling_6 : decode cX7_telling 6 = .ok (.aload_n 0, 1) := o_42 (by decide +kernel)
theorem dX7_telling_7 : decode cX7_telling 7 = .ok (.iload_n 1, 1) := o_27 (by decide +kernel)
theorem dX7_telling_8 : decode cX7_telling 8 = .ok (.aload_n 0, 1) := o_42 (by decide +kernel)
theorem dX7_telling_9 : decode cX7_telling 9 = .ok (.getfield 23, 3) := o_180 (by decide +kernel)
theorem dX7_telling_12 : decode cX7_telling 12 = .ok (.isub, 1) := o_100 (by decide +kernel)
theorem dX7_telling_13 : decode cX7_telling 13 = .ok (.aload_n 2, 1) := o_44 (by decide +kernel)
theorem dX7_telling_14 : decode cX7_telling 14 = .ok (.invokespecial 29, 3) := o_183 (by decide +kernel)
theorem dX7_telling_17 : decode cX7_telling 17 = .ok (.ireturn, 1) := o_172 (by decide +kernel)
theorem gt_wsX8_init_wsX00 : GoodIn wsX8_init wsX00 := fun w h => ⟨List.mem_cons_of_mem _ (List.mem_append_left _ (List.mem_append_left _ (List.mem_append_left _ (List.mem_append_left _ (List.mem_append_left _ (List.mem_append_left _ (List.mem_append_right _ h))))))), good_of_word (gq_wsX00 w h)⟩
theorem gt_wsX8_init_wsX30 : GoodIn wsX8_init wsX30 := fun w h => ⟨List.mem_cons_of_mem _ (List.mem_append_left _ (List.mem_append_left _ (List.mem_append_left _ (List.mem_append_left _ (List.mem_append_left _ (List.mem_append_right _ h)))))), good_of_word (gq_wsX30 w h)⟩
theorem gt_wsX8_init_wsX40 : GoodIn wsX8_init wsX40 := fun w h => ⟨List.mem_cons_of_mem _ (List.mem_append_left _ (List.mem_append_left _ (List.mem_append_left _ (List.mem_append_left _ (List.mem_append_right _ h))))), good_of_word (gq_wsX40 w h)⟩
theorem gt_wsX8_init_wsX60 : GoodIn wsX8_init wsX60 := fun w h => ⟨List.mem_cons_of_mem _ (List.mem_append_left _ (List.mem_append_left _ (List.mem_append_left _ (List.mem_append_right _ h)))), good_of_word (gq_wsX60 w h)⟩
theorem gt_wsX8_init_wsX70 : GoodIn wsX8_init wsX70 := fun w h => ⟨List.mem_cons_of_mem _ (List.mem_append_left _ (List.mem_append_left _ (List.mem_append_right _ h))), good_of_word (gq_wsX70 w h)⟩
theorem gt_wsX8_init_wsX80 : GoodIn wsX8_init wsX80 := fun w h => ⟨List.mem_cons_of_mem _ (List.mem_append_left _ (List.mem_append_right _ h)), good_of_word (gq_wsX80 w h)⟩
theorem gt_wsX8_init_wsX100 : GoodIn wsX8_init wsX100 := fun w h => ⟨List.mem_cons_of_mem _ (List.mem_append_right _ h), good_of_word (gq_wsX100 w h)⟩
set_option maxRecDepth 20000 in
theorem ggX8_init_X4_init : GoodIn wsX8_init wsX4_init := goodIn_ca (goodIn_ca (goodIn_ca (goodIn_ca (goodIn_ca (goodIn_ca (goodIn_ca (goodIn_s _ [(4, 7)] rfl (by decide +kernel)) gt_wsX8_init_wsX00) gt_wsX8_init_wsX30) gt_wsX8_init_wsX40) gt_wsX8_init_wsX60) gt_wsX8_init_wsX70) gt_wsX8_init_wsX80) gt_wsX8_init_wsX100
set_option maxRecDepth 20000 in
theorem gX8_init_X4_init : GoodIn wsX8_init (wsX4_init) := ggX8_init_X4_init
theorem dX8_init_0 : decode cX8_init 0 = .ok (.aload_n 0, 1) := o_42 (by decide +kernel)
theorem dX8_init_1 : decode cX8_init 1 = .ok (.iload_n 1, 1) := o_27 (by decide +kernel)
theorem dX8_init_2 : decode cX8_init 2 = .ok (.iload_n 2, 1) := o_28 (by decide +kernel)
theorem dX8_init_3 : decode cX8_init 3 = .ok (.iload_n 3, 1) := o_29 (by decide +kernel)
theorem dX8_init_4 : decode cX8_init 4 = .ok (.invokespecial 1, 3) := o_183 (by decide +kernel)
theorem dX8_init_7 : decode cX8_init 7 = .ok (.return_, 1) := o_177 (by decide +kernel)
theorem dX8_strides_0 : decode cX8_strides 0 = .ok (.iload_n 1, 1) := o_27 (by decide +kernel)
theorem dX8_strides_1 : decode cX8_strides 1 = .ok (.ireturn, 1) := o_172 (by decide +kernel)
theorem gt_wsX8_whetting_wsX50 : GoodIn wsX8_whetting wsX50 := fun w h => ⟨List.mem_cons_of_mem _ (List.mem_append_left _ (List.mem_append_left _ (List.mem_append_left _ (List.mem_append_left _ (List.mem_append_left _ (List.mem_append_left _ (List.mem_append_left _ (List.mem_append_right _ h)))))))), good_of_word (gq_wsX50 w h)⟩
set_option maxRecDepth 20000 in
theorem ggX8_whetting_X5_comes : GoodIn wsX8_whetting wsX5_comes := goodIn_ca (goodIn_s _ [(5, 3)] rfl (by decide +kernel)) gt_wsX8_whetting_wsX50
set_option maxRecDepth 20000 in
theorem gX8_whetting_X5_comes : GoodIn wsX8_whetting (wsV RX8 7 RX5 yX5_comes wsX5_comes) := goodIn_app (goodIn_of _ (by decide +kernel)) ggX8_whetting_X5_comes
theorem gt_wsX8_whetting_wsX00 : GoodIn wsX8_whetting wsX00 := fun w h => ⟨List.mem_cons_of_mem _ (List.mem_append_left _ (List.mem_append_left _ (List.mem_append_left _ (List.mem_append_left _ (List.mem_append_left _ (List.mem_append_left _ (List.mem_append_right _ h))))))), good_of_word (gq_wsX00 w h)⟩
theorem gt_wsX8_whetting_wsX30 : GoodIn wsX8_whetting wsX30 := fun w h => ⟨List.mem_cons_of_mem _ (List.mem_append_left _ (List.mem_append_left _ (List.mem_append_left _ (List.mem_append_left _ (List.mem_append_left _ (List.mem_append_right _ h)))))), good_of_word (gq_wsX30 w h)⟩
theorem gt_wsX8_whetting_wsX40 : GoodIn wsX8_whetting wsX40 := fun w h => ⟨List.mem_cons_of_mem _ (List.mem_append_left _ (List.mem_append_left _ (List.mem_append_left _ (List.mem_append_left _ (List.mem_append_right _ h))))), good_of_word (gq_wsX40 w h)⟩
theorem gt_wsX8_whetting_wsX60 : GoodIn wsX8_whetting wsX60 := fun w h => ⟨List.mem_cons_of_mem _ (List.mem_append_left _ (List.mem_append_left _ (List.mem_append_left _ (List.mem_append_right _ h)))), good_of_word (gq_wsX60 w h)⟩
theorem gt_wsX8_whetting_wsX70 : GoodIn wsX8_whetting wsX70 := fun w h => ⟨List.mem_cons_of_mem _ (List.mem_append_left _ (List.mem_append_left _ (List.mem_append_right _ h))), good_of_word (gq_wsX70 w h)⟩
theorem gt_wsX8_whetting_wsX80 : GoodIn wsX8_whetting wsX80 := fun w h => ⟨List.mem_cons_of_mem _ (List.mem_append_left _ (List.mem_append_right _ h)), good_of_word (gq_wsX80 w h)⟩
theorem gt_wsX8_whetting_wsX100 : GoodIn wsX8_whetting wsX100 := fun w h => ⟨List.mem_cons_of_mem _ (List.mem_append_right _ h), good_of_word (gq_wsX100 w h)⟩
set_option maxRecDepth 20000 in
theorem ggX8_whetting_X4_whetting : GoodIn wsX8_whetting wsX4_whetting := goodIn_ca (goodIn_ca (goodIn_ca (goodIn_ca (goodIn_ca (goodIn_ca (goodIn_ca (goodIn_ca (goodIn_s _ [(13, 3), (2, 6), (16, 4), (12, 1), (20, 26)] rfl (by decide +kernel)) gt_wsX8_whetting_wsX00) gt_wsX8_whetting_wsX30) gt_wsX8_whetting_wsX40) gt_wsX8_whetting_wsX60) gt_wsX8_whetting_wsX70) gt_wsX8_whetting_wsX80) gt_wsX8_whetting_wsX100) gt_wsX8_whetting_wsX50
set_option maxRecDepth 20000 in
theorem gX8_whetting_X4_whetting_s13 : GoodIn wsX8_whetting (va_wsSU RX8 13 yX4_whetting wsX4_whetting) := goodIn_app (goodIn_of _ (by decide +kernel)) ggX8_whetting_X4_whetting
theorem dX8_whetting_0 : decode cX8_whetting 0 = .ok (.aload_n 2, 1) := o_44 (by decide +kernel)
theorem dX8_whetting_1 : decode cX8_whetting 1 = .ok (.bipush 20, 2) := o_16 (by decide +kernel)
theorem dX8_whetting_3 : decode cX8_whetting 3 = .ok (.invokevirtual 7, 3) := o_182 (by decide +kernel)
theorem dX8_whetting_6 : decode cX8_whetting 6 = .ok (.aload_n 0, 1) := o_42 (by decide +kernel)
theorem dX8_whetting_7 : decode cX8_whetting 7 = .ok (.iload_n 1, 1) := o_27 (by decide +kernel)
theorem dX8_whetting_8 : decode cX8_whetting 8 = .ok (.aload_n 2, 1) := o_44 (by decide +kernel)
theorem dX8_whetting_9 : decode cX8_whetting 9 = .ok (.invokespecial 13, 3) := o_183 (by decide +kernel)
theorem dX8_whetting_12 : decode cX8_whetting 12 = .ok (.bipush 6, 2) := o_16 (by decide +kernel)
theorem dX8_whetting_14 : decode cX8_whetting 14 = .ok (.ixor, 1) := o_130 (by decide +kernel)
theorem dX8_whetting_15 : decode cX8_whetting 15 = .ok (.ireturn, 1) := o_172 (by decide +kernel)
theorem dX9_init_0 : decode cX9_init 0 = .ok (.aload_n 0, 1) := o_42 (by decide +kernel)
theorem dX9_init_1 : decode cX9_init 1 = .ok (.invokespecial 1, 3) := o_183 (by decide +kernel)
theorem dX9_init_4 : decode cX9_init 4 = .ok (.aload_n 0, 1) := o_42 (by decide +kernel)
theorem dX9_init_5 : decode cX9_init 5 = .ok (.bipush 60, 2) := o_16 (by decide +kernel)
theorem dX9_init_7 : decode cX9_init 7 = .ok (.newarray .long, 2) := on_long (by decide +kernel)
theorem dX9_init_9 : decode cX9_init 9 = .ok (.putfield 9, 3) := o_181 (by decide +kernel)
theorem dX9_init_12 : decode cX9_init 12 = .ok (.aload_n 0, 1) := o_42 (by decide +kernel)
theorem dX9_init_13 : decode cX9_init 13 = .ok (.iconst (-1), 1) := o_2 (by decide +kernel)
theorem dX9_init_14 : decode cX9_init 14 = .ok (.putfield 13, 3) := o_181 (by decide +kernel)
theorem dX9_init_17 : decode cX9_init 17 = .ok (.aload_n 0, 1) := o_42 (by decide +kernel)
theorem dX9_init_18 : decode cX9_init 18 = .ok (.iconst 0, 1) := o_3 (by decide +kernel)
theorem dX9_init_19 : decode cX9_init 19 = .ok (.putfield 17, 3) := o_181 (by decide +kernel)
theorem dX9_init_22 : decode cX9_init 22 = .ok (.return_, 1) := o_177 (by decide +kernel)
set_option maxRecDepth 20000 in
theorem ggX9_becomes_J7_fill_d0a16 : GoodIn wsX9_becomes wsJ7_fill_d0a16 := goodIn_s _ [(7, 1)] rfl (by decide +kernel)
set_option maxRecDepth 20000 in
theorem gX9_becomes_J7_fill_d0a16 : GoodIn wsX9_becomes (va_wsS RX9 20 yJ7_fill_d0a16 wsJ7_fill_d0a16) := goodIn_app (goodIn_of _ (by decide +kernel)) ggX9_becomes_J7_fill_d0a16
theorem dX9_becomes_0 : decode cX9_becomes 0 = .ok (.aload_n 0, 1) := o_42 (by decide +kernel)
theorem dX9_becomes_1 : decode cX9_becomes 1 = .ok (.iload_n 1, 1) := o_27 (by decide +kernel)
theorem dX9_becomes_2 : decode cX9_becomes 2 = .ok (.putfield 13, 3) := o_181 (by decide +kernel)
theorem dX9_becomes_5 : decode cX9_becomes 5 = .ok (.aload_n 0, 1) := o_42 (by decide +kernel)
theorem dX9_becomes_6 : decode cX9_becomes 6 = .ok (.iload_n 2, 1) := o_28 (by decide +kernel)
theorem dX9_becomes_7 : decode cX9_becomes 7 = .ok (.putfield 17, 3) := o_181 (by decide +kernel)
theorem dX9_becomes_10 : decode cX9_becomes 10 = .ok (.aload_n 0, 1) := o_42 (by decide +kernel)
theorem dX9_becomes_11 : decode cX9_becomes 11 = .ok (.getfield 9, 3) := o_180 (by decide +kernel)
theorem dX9_becomes_14 : decode cX9_becomes 14 = .ok (.lconst 0, 1) := o_9 (by decide +kernel)
theorem dX9_becomes_15 : decode cX9_becomes 15 = .ok (.invokestatic 20, 3) := o_184 (by decide +kernel)
theorem dX9_becomes_18 : decode cX9_becomes 18 = .ok (.return_, 1) := o_177 (by decide +kernel)
theorem dX9_isEmpty_0 : decode cX9_isEmpty 0 = .ok (.aload_n 0, 1) := o_42 (by decide +kernel)
theorem dX9_isEmpty_1 : decode cX9_isEmpty 1 = .ok (.getfield 13, 3) := o_180 (by decide +kernel)
theorem dX9_isEmpty_4 : decode cX9_isEmpty 4 = .ok (.ifCond .ge 7, 3) := o_156 (by decide +kernel)
theorem dX9_isEmpty_7 : decode cX9_isEmpty 7 = .ok (.iconst 1, 1) := o_4 (by decide +kernel)
theorem dX9_isEmpty_8 : decode cX9_isEmpty 8 = .ok (.goto 4, 3) := o_167 (by decide +kernel)
theorem dX9_isEmpty_11 : decode cX9_isEmpty 11 = .ok (.iconst 0, 1) := o_3 (by decide +kernel)
theorem dX9_isEmpty_12 : decode cX9_isEmpty 12 = .ok (.ireturn, 1) := o_172 (by decide +kernel)
theorem dX9_has_0 : decode cX9_has 0 = .ok (.iload_n 1, 1) := o_27 (by decide +kernel)
theorem dX9_has_1 : decode cX9_has 1 = .ok (.ifCond .lt 15, 3) := o_155 (by decide +kernel)
theorem dX9_has_4 : decode cX9_has 4 = .ok (.iload_n 1, 1) := o_27 (by decide +kernel)
theorem dX9_has_5 : decode cX9_has 5 = .ok (.aload_n 0, 1) := o_42 (by decide +kernel)
theorem dX9_has_6 : decode cX9_has 6 = .ok (.getfield 17, 3) := o_180 (by decide +kernel)
theorem dX9_has_9 : decode cX9_has 9 = .ok (.if_icmp .ge 7, 3) := o_162 (by decide +kernel)
theorem dX9_has_12 : decode cX9_has 12 = .ok (.iconst 1, 1) := o_4 (by decide +kernel)
theorem dX9_has_13 : decode cX9_has 13 = .ok (.goto 4, 3) := o_167 (by decide +kernel)
theorem dX9_has_16 : decode cX9_has 16 = .ok (.iconst 0, 1) := o_3 (by decide +kernel)
theorem dX9_has_17 : decode cX9_has 17 = .ok (.ireturn, 1) := o_172 (by decide +kernel)
theorem dX9_hasPart_0 : decode cX9_hasPart 0 = .ok (.iload_n 2, 1) := o_28 (by decide +kernel)
theorem dX9_hasPart_1 : decode cX9_hasPart 1 = .ok (.ifCond .lt 29, 3) := o_155 (by decide +kernel)
theorem dX9_hasPart_4 : decode cX9_hasPart 4 = .ok (.iload_n 1, 1) := o_27 (by decide +kernel)
theorem dX9_hasPart_5 : decode cX9_hasPart 5 = .ok (.ifCond .lt 25, 3) := o_155 (by decide +kernel)
theorem dX9_hasPart_8 : decode cX9_hasPart 8 = .ok (.iload_n 2, 1) := o_28 (by decide +kernel)
theorem dX9_hasPart_9 : decode cX9_hasPart 9 = .ok (.aload_n 0, 1) := o_42 (by decide +kernel)
theorem dX9_hasPart_10 : decode cX9_hasPart 10 = .ok (.getfield 17, 3) := o_180 (by decide +kernel)
theorem dX9_hasPart_13 : decode cX9_hasPart 13 = .ok (.if_icmp .gt 17, 3) := o_163 (by decide +kernel)
theorem dX9_hasPart_16 : decode cX9_hasPart 16 = .ok (.iload_n 1, 1) := o_27 (by decide +kernel)
theorem dX9_hasPart_17 : decode cX9_hasPart 17 = .ok (.aload_n 0, 1) := o_42 (by decide +kernel)
theorem dX9_hasPart_18 : decode cX9_hasPart 18 = .ok (.getfield 17, 3) := o_180 (by decide +kernel)
theorem dX9_hasPart_21 : decode cX9_hasPart 21 = .ok (.iload_n 2, 1) := o_28 (by decide +kernel)
theorem dX9_hasPart_22 : decode cX9_hasPart 22 = .ok (.isub, 1) := o_100 (by decide +kernel)
theorem dX9_hasPart_23 : decode cX9_hasPart 23 = .ok (.if_icmp .gt 7, 3) := o_163 (by decide +kernel)
theorem dX9_hasPart_26 : decode cX9_hasPart 26 = .ok (.iconst 1, 1) := o_4 (by decide +kernel)
theorem dX9_hasPart_27 : decode cX9_hasPart 27 = .ok (.goto 4, 3) := o_167 (by decide +kernel)
theorem dX9_hasPart_30 : decode cX9_hasPart 30 = .ok (.iconst 0, 1) := o_3 (by decide +kernel)
theorem dX9_hasPart_31 : decode cX9_hasPart 31 = .ok (.ireturn, 1) := o_172 (by decide +kernel)
theorem dX9_cut_0 : decode cX9_cut 0 = .ok (.aload_n 0, 1) := o_42 (by decide +kernel)
theorem dX9_cut_1 : decode cX9_cut 1 = .ok (.getfield 13, 3) := o_180 (by decide +kernel)
theorem dX9_cut_4 : decode cX9_cut 4 = .ok (.tableswitch 62 0 4 #[36, 41, 46, 62, 50], 36) := by decide +kernel
theorem dX9_cut_40 : decode cX9_cut 40 = .ok (.lload_n 1, 1) := o_31 (by decide +kernel)
theorem dX9_cut_41 : decode cX9_cut 41 = .ok (.l2i, 1) := o_136 (by decide +kernel)
theorem dX9_cut_42 : decode cX9_cut 42 = .ok (.i2b, 1) := o_145 (by decide +kernel)
theorem dX9_cut_43 : decode cX9_cut 43 = .ok (.i2l, 1) := o_133 (by decide +kernel)
theorem dX9_cut_44 : decode cX9_cut 44 = .ok (.lreturn, 1) := o_173 (by decide +kernel)
theorem dX9_cut_45 : decode cX9_cut 45 = .ok (.lload_n 1, 1) := o_31 (by decide +kernel)
theorem dX9_cut_46 : decode cX9_cut 46 = .ok (.l2i, 1) := o_136 (by decide +kernel)
theorem dX9_cut_47 : decode cX9_cut 47 = .ok (.i2s, 1) := o_147 (by decide +kernel)
theorem dX9_cut_48 : decode cX9_cut 48 = .ok (.i2l, 1) := o_133 (by decide +kernel)
theorem dX9_cut_49 : decode cX9_cut 49 = .ok (.lreturn, 1) := o_173 (by decide +kernel)
theorem dX9_cut_50 : decode cX9_cut 50 = .ok (.lload_n 1, 1) := o_31 (by decide +kernel)
theorem dX9_cut_51 : decode cX9_cut 51 = .ok (.l2i, 1) := o_136 (by decide +kernel)
theorem dX9_cut_52 : decode cX9_cut 52 = .ok (.i2l, 1) := o_133 (by decide +kernel)
theorem dX9_cut_53 : decode cX9_cut 53 = .ok (.lreturn, 1) := o_173 (by decide +kernel)
theorem dX9_cut_54 : decode cX9_cut 54 = .ok (.lload_n 1, 1) := o_31 (by decide +kernel)
theorem dX9_cut_55 : decode cX9_cut 55 = .ok (.lconst 0, 1) := o_9 (by decide +kernel)
theorem dX9_cut_56 : decode cX9_cut 56 = .ok (.lcmp, 1) := o_148 (by decide +kernel)
theorem dX9_cut_57 : decode cX9_cut 57 = .ok (.ifCond .eq 7, 3) := o_153 (by decide +kernel)
theorem dX9_cut_60 : decode cX9_cut 60 = .ok (.lconst 1, 1) := o_10 (by decide +kernel)
theorem dX9_cut_61 : decode cX9_cut 61 = .ok (.goto 4, 3) := o_167 (by decide +kernel)
theorem dX9_cut_64 : decode cX9_cut 64 = .ok (.lconst 0, 1) := o_9 (by decide +kernel)
theorem dX9_cut_65 : decode cX9_cut 65 = .ok (.lreturn, 1) := o_173 (by decide +kernel)
theorem dX9_cut_66 : decode cX9_cut 66 = .ok (.lload_n 1, 1) := o_31 (by decide +kernel)
theorem dX9_cut_67 : decode cX9_cut 67 = .ok (.lreturn, 1) := o_173 (by decide +kernel)
theorem gt_wsX10_init_wsX00 : GoodIn wsX10_init wsX00 := fun w h => ⟨List.mem_cons_of_mem _ (List.mem_append_left _ (List.mem_append_left _ (List.mem_append_left _ (List.mem_append_left _ (List.mem_append_left _ (List.mem_append_left _ (List.mem_append_right _ h))))))), good_of_word (gq_wsX00 w h)⟩
theorem gt_wsX10_init_wsX30 : GoodIn wsX10_init wsX30 := fun w h => ⟨List.mem_cons_of_mem _ (List.mem_append_left _ (List.mem_append_left _ (List.mem_append_left _ (List.mem_append_left _ (List.mem_append_left _ (List.mem_append_right _ h)))))), good_of_word (gq_wsX30 w h)⟩
theorem gt_wsX10_init_wsX40 : GoodIn wsX10_init wsX40 := fun w h => ⟨List.mem_cons_of_mem _ (List.mem_append_left _ (List.mem_append_left _ (List.mem_append_left _ (List.mem_append_left _ (List.mem_append_right _ h))))), good_of_word (gq_wsX40 w h)⟩
theorem gt_wsX10_init_wsX60 : GoodIn wsX10_init wsX60 := fun w h => ⟨List.mem_cons_of_mem _ (List.mem_append_left _ (List.mem_append_left _ (List.mem_append_left _ (List.mem_append_right _ h)))), good_of_word (gq_wsX60 w h)⟩
theorem gt_wsX10_init_wsX70 : GoodIn wsX10_init wsX70 := fun w h => ⟨List.mem_cons_of_mem _ (List.mem_append_left _ (List.mem_append_left _ (List.mem_append_right _ h))), good_of_word (gq_wsX70 w h)⟩
theorem gt_wsX10_init_wsX80 : GoodIn wsX10_init wsX80 := fun w h => ⟨List.mem_cons_of_mem _ (List.mem_append_left _ (List.mem_append_right _ h)), good_of_word (gq_wsX80 w h)⟩
theorem gt_wsX10_init_wsX100 : GoodIn wsX10_init wsX100 := fun w h => ⟨List.mem_cons_of_mem _ (List.mem_append_right _ h), good_of_word (gq_wsX100 w h)⟩
set_option maxRecDepth 20000 in
theorem ggX10_init_X0_init : GoodIn wsX10_init wsX0_init := goodIn_ca (goodIn_ca (goodIn_ca (goodIn_ca (goodIn_ca (goodIn_ca (goodIn_ca (goodIn_s _ [(4, 11)] rfl (by decide +kernel)) gt_wsX10_init_wsX00) gt_wsX10_init_wsX30) gt_wsX10_init_wsX40) gt_wsX10_init_wsX60) gt_wsX10_init_wsX70) gt_wsX10_init_wsX80) gt_wsX10_init_wsX100
set_option maxRecDepth 20000 in
theorem gX10_init_X0_init : GoodIn wsX10_init (wsX0_init) := ggX10_init_X0_init
theorem dX10_init_0 : decode cX10_init 0 = .ok (.aload_n 0, 1) := o_42 (by decide +kernel)
theorem dX10_init_1 : decode cX10_init 1 = .ok (.iload_n 1, 1) := o_27 (by decide +kernel)
theorem dX10_init_2 : decode cX10_init 2 = .ok (.iload_n 2, 1) := o_28 (by decide +kernel)
theorem dX10_init_3 : decode cX10_init 3 = .ok (.iload_n 3, 1) := o_29 (by decide +kernel)
theorem dX10_init_4 : decode cX10_init 4 = .ok (.invokespecial 1, 3) := o_183 (by decide +kernel)
theorem dX10_init_7 : decode cX10_init 7 = .ok (.return_, 1) := o_177 (by decide +kernel)
theorem gt_wsX10_strides_wsX10 : GoodIn wsX10_strides wsX10 := fun w h => ⟨List.mem_cons_of_mem _ (List.mem_append_left _ (List.mem_append_left _ (List.mem_append_left _ (List.mem_append_left _ (List.mem_append_left _ (List.mem_append_left _ (List.mem_append_left _ (List.mem_append_right _ h)))))))), good_of_word (gq_wsX10 w h)⟩
theorem gt_wsX10_strides_wsX00 : GoodIn wsX10_strides wsX00 := fun w h => ⟨List.mem_cons_of_mem _ (List.mem_append_left _ (List.mem_append_left _ (List.mem_append_left _ (List.mem_append_left _ (List.mem_append_left _ (List.mem_append_left _ (List.mem_append_right _ h))))))), good_of_word (gq_wsX00 w h)⟩
theorem gt_wsX10_strides_wsX30 : GoodIn wsX10_strides wsX30 := fun w h => ⟨List.mem_cons_of_mem _ (List.mem_append_left _ (List.mem_append_left _ (List.mem_append_left _ (List.mem_append_left _ (List.mem_append_left _ (List.mem_append_right _ h)))))), good_of_word (gq_wsX30 w h)⟩
theorem gt_wsX10_strides_wsX40 : GoodIn wsX10_strides wsX40 := fun w h => ⟨List.mem_cons_of_mem _ (List.mem_append_left _ (List.mem_append_left _ (List.mem_append_left _ (List.mem_append_left _ (List.mem_append_right _ h))))), good_of_word (gq_wsX40 w h)⟩
theorem gt_wsX10_strides_wsX60 : GoodIn wsX10_strides wsX60 := fun w h => ⟨List.mem_cons_of_mem _ (List.mem_append_left _ (List.mem_append_left _ (List.mem_append_left _ (List.mem_append_right _ h)))), good_of_word (gq_wsX60 w h)⟩
theorem gt_wsX10_strides_wsX70 : GoodIn wsX10_strides wsX70 := fun w h => ⟨List.mem_cons_of_mem _ (List.mem_append_left _ (List.mem_append_left _ (List.mem_append_right _ h))), good_of_word (gq_wsX70 w h)⟩
theorem gt_wsX10_strides_wsX80 : GoodIn wsX10_strides wsX80 := fun w h => ⟨List.mem_cons_of_mem _ (List.mem_append_left _ (List.mem_append_right _ h)), good_of_word (gq_wsX80 w h)⟩
theorem gt_wsX10_strides_wsX100 : GoodIn wsX10_strides wsX100 := fun w h => ⟨List.mem_cons_of_mem _ (List.mem_append_right _ h), good_of_word (gq_wsX100 w h)⟩
set_option maxRecDepth 20000 in
theorem ggX10_strides_X0_strides : GoodIn wsX10_strides wsX0_strides := goodIn_ca (goodIn_ca (goodIn_ca (goodIn_ca (goodIn_ca (goodIn_ca (goodIn_ca (goodIn_ca (goodIn_s _ [(10, 9)] rfl (by decide +kernel)) gt_wsX10_strides_wsX10) gt_wsX10_strides_wsX00) gt_wsX10_strides_wsX30) gt_wsX10_strides_wsX40) gt_wsX10_strides_wsX60) gt_wsX10_strides_wsX70) gt_wsX10_strides_wsX80) gt_wsX10_strides_wsX100
set_option maxRecDepth 20000 in
theorem gX10_strides_X0_strides_s7 : GoodIn wsX10_strides (va_wsSU RX10 7 yX0_strides wsX0_strides) := goodIn_app (goodIn_of _ (by decide +kernel)) ggX10_strides_X0_strides
theorem dX10_strides_0 : decode cX10_strides 0 = .ok (.aload_n 0, 1) := o_42 (by decide +kernel)
theorem dX10_strides_1 : decode cX10_strides 1 = .ok (.iload_n 1, 1) := o_27 (by decide +kernel)
theorem dX10_strides_2 : decode cX10_strides 2 = .ok (.aload_n 2, 1) := o_44 (by decide +kernel)
theorem dX10_strides_3 : decode cX10_strides 3 = .ok (.iload_n 3, 1) := o_29 (by decide +kernel)
theorem dX10_strides_4 : decode cX10_strides 4 = .ok (.invokespecial 7, 3) := o_183 (by decide +kernel)
theorem dX10_strides_7 : decode cX10_strides 7 = .ok (.aload_n 2, 1) := o_44 (by decide +kernel)
theorem dX10_strides_8 : decode cX10_strides 8 = .ok (.getfield 11, 3) := o_180 (by decide +kernel)
theorem dX10_strides_11 : decode cX10_strides 11 = .ok (.iconst 4, 1) := o_7 (by decide +kernel)
theorem dX10_strides_12 : decode cX10_strides 12 = .ok (.aload_n 0, 1) := o_42 (by decide +kernel)
theorem dX10_strides_13 : decode cX10_strides 13 = .ok (.getfield 17, 3) := o_180 (by decide +kernel)
theorem dX10_strides_16 : decode cX10_strides 16 = .ok (.imul, 1) := o_104 (by decide +kernel)
theorem dX10_strides_17 : decode cX10_strides 17 = .ok (.aload_n 2, 1) := o_44 (by decide +kernel)
theorem dX10_strides_18 : decode cX10_strides 18 = .ok (.getfield 23, 3) := o_180 (by decide +kernel)
theorem dX10_strides_21 : decode cX10_strides 21 = .ok (.iconst 4, 1) := o_7 (by decide +kernel)
theorem dX10_strides_22 : decode cX10_strides 22 = .ok (.irem, 1) := o_112 (by decide +kernel)
theorem dX10_strides_23 : decode cX10_strides 23 = .ok (.iadd, 1) := o_96 (by decide +kernel)
theorem dX10_strides_24 : decode cX10_strides 24 = .ok (.iaload, 1) := o_46 (by decide +kernel)
theorem dX10_strides_25 : decode cX10_strides 25 = .ok (.iadd, 1) := o_96 (by decide +kernel)
theorem dX10_strides_26 : decode cX10_strides 26 = .ok (.ireturn, 1) := o_172 (by decide +kernel)
theorem gt_wsX10_whetting_wsX50 : GoodIn wsX10_whetting wsX50 := fun w h => ⟨List.mem_cons_of_mem _ (List.mem_append_right _ h), good_of_word (gq_wsX50 w h)⟩
set_option maxRecDepth 20000 in
theorem ggX10_whetting_X5_comes : GoodIn wsX10_whetting wsX5_comes := goodIn_ca (goodIn_s _ [(5, 3)] rfl (by decide +kernel)) gt_wsX10_whetting_wsX50
set_option maxRecDepth 20000 in
theorem gX10_whetting_X5_comes : GoodIn wsX10_whetting (wsV RX10 26 RX5 yX5_comes wsX5_comes) := goodIn_app (goodIn_of _ (by decide +kernel)) ggX10_whetting_X5_comes
theorem dX10_whetting_0 : decode cX10_whetting 0 = .ok (.aload_n 2, 1) := o_44 (by decide +kernel)
theorem dX10_whetting_1 : decode cX10_whetting 1 = .ok (.bipush 70, 2) := o_16 (by decide +kernel)
theorem dX10_whetting_3 : decode cX10_whetting 3 = .ok (.invokevirtual 26, 3) := o_182 (by decide +kernel)
theorem dX10_whetting_6 : decode cX10_whetting 6 = .ok (.aload_n 0, 1) := o_42 (by decide +kernel)
theorem dX10_whetting_7 : decode cX10_whetting 7 = .ok (.iload_n 1, 1) := o_27 (by decide +kernel)
theorem dX10_whetting_8 : decode cX10_whetting 8 = .ok (.aload_n 2, 1) := o_44 (by decide +kernel)
theorem dX10_whetting_9 : decode cX10_whetting 9 = .ok (.invokespecial 32, 3) := o_183 (by decide +kernel)
theorem dX10_whetting_12 : decode cX10_whetting 12 = .ok (.aload_n 0, 1) := o_42 (by decide +kernel)
theorem dX10_whetting_13 : decode cX10_whetting 13 = .ok (.iconst 2, 1) := o_5 (by decide +kernel)
theorem dX10_whetting_14 : decode cX10_whetting 14 = .ok (.aload_n 2, 1) := o_44 (by decide +kernel)
theorem dX10_whetting_15 : decode cX10_whetting 15 = .ok (.invokespecial 36, 3) := o_183 (by decide +kernel)
theorem dX10_whetting_18 : decode cX10_whetting 18 = .ok (.iadd, 1) := o_96 (by decide +kernel)
theorem dX10_whetting_19 : decode cX10_whetting 19 = .ok (.ireturn, 1) := o_172 (by decide +kernel)
theorem gt_wsX10_mowing_wsX50 : GoodIn wsX10_mowing wsX50 := fun w h => ⟨List.mem_cons_of_mem _ (List.mem_append_right _ h), good_of_word (gq_wsX50 w h)⟩
set_option maxRecDepth 20000 in
theorem ggX10_mowing_X5_comes : GoodIn wsX10_mowing wsX5_comes := goodIn_ca (goodIn_s _ [(7, 3)] rfl (by decide +kernel)) gt_wsX10_mowing_wsX50
set_option maxRecDepth 20000 in
theorem gX10_mowing_X5_comes : GoodIn wsX10_mowing (wsV RX10 26 RX5 yX5_comes wsX5_comes) := goodIn_app (goodIn_of _ (by decide +kernel)) ggX10_mowing_X5_comes
theorem dX10_mowing_0 : decode cX10_mowing 0 = .ok (.aload_n 2, 1) := o_44 (by decide +kernel)
theorem dX10_mowing_1 : decode cX10_mowing 1 = .ok (.bipush 71, 2) := o_16 (by decide +kernel)
theorem dX10_mowing_3 : decode cX10_mowing 3 = .ok (.invokevirtual 26, 3) := o_182 (by decide +kernel)
theorem dX10_mowing_6 : decode cX10_mowing 6 = .ok (.aload_n 0, 1) := o_42 (by decide +kernel)
theorem dX10_mowing_7 : decode cX10_mowing 7 = .ok (.iload_n 1, 1) := o_27 (by decide +kernel)
theorem dX10_mowing_8 : decode cX10_mowing 8 = .ok (.aload_n 2, 1) := o_44 (by decide +kernel)
theorem dX10_mowing_9 : decode cX10_mowing 9 = .ok (.invokespecial 36, 3) := o_183 (by decide +kernel)
theorem dX10_mowing_12 : decode cX10_mowing 12 = .ok (.aload_n 0, 1) := o_42 (by decide +kernel)
theorem dX10_mowing_13 : decode cX10_mowing 13 = .ok (.getfield 39, 3) := o_180 (by decide +kernel)
theorem dX10_mowing_16 : decode cX10_mowing 16 = .ok (.ixor, 1) := o_130 (by decide +kernel)
theorem dX10_mowing_17 : decode cX10_mowing 17 = .ok (.ireturn, 1) := o_172 (by decide +kernel)
theorem gt_wsX11_init_wsX10 : GoodIn wsX11_init wsX10 := fun w h => ⟨List.mem_cons_of_mem _ (List.mem_append_left _ (List.mem_append_left _ (List.mem_append_left _ (List.mem_append_left _ (List.mem_append_right _ h))))), good_of_word (gq_wsX10 w h)⟩
theorem gt_wsX11_init_wsX50 : GoodIn wsX11_init wsX50 := fun w h => ⟨List.mem_cons_of_mem _ (List.mem_append_left _ (List.mem_append_left _ (List.mem_append_right _ h))), good_of_word (gq_wsX50 w h)⟩
set_option maxRecDepth 20000 in
theorem ggX11_init_X1_init : GoodIn wsX11_init wsX1_init := goodIn_ca (goodIn_ca (goodIn_s _ [(33, 2), (2, 2), (35, 3), (23, 1), (38, 11), (20, 2), (49, 11)] rfl (by decide +kernel)) gt_wsX11_init_wsX10) gt_wsX11_init_wsX50
set_option maxRecDepth 20000 in
theorem gX11_init_X1_init_n11 : GoodIn wsX11_init (wsX1_init) := ggX11_init_X1_init
set_option maxRecDepth 20000 in
theorem ggX11_init_X5_init : GoodIn wsX11_init wsX5_init := goodIn_ca (goodIn_s _ [(56, 2), (2, 2), (58, 1), (23, 1), (59, 1)] rfl (by decide +kernel)) gt_wsX11_init_wsX50
set_option maxRecDepth 20000 in
theorem gX11_init_X5_init : GoodIn wsX11_init (wsX5_init) := ggX11_init_X5_init
theorem gt_wsX11_init_wsX20 : GoodIn wsX11_init wsX20 := fun w h => ⟨List.mem_cons_of_mem _ (List.mem_append_left _ (List.mem_append_right _ h)), good_of_word (gq_wsX20 w h)⟩
set_option maxRecDepth 20000 in
theorem ggX11_init_X2_init : GoodIn wsX11_init wsX2_init := goodIn_ca (goodIn_s _ [(62, 2), (2, 2), (64, 3), (23, 1), (67, 9)] rfl (by decide +kernel)) gt_wsX11_init_wsX20
set_option maxRecDepth 20000 in
theorem gX11_init_X2_init_n70 : GoodIn wsX11_init (wsX2_init) := ggX11_init_X2_init
theorem gq_wsX90 : ∀ w ∈ wsX90, goodWord w = true := fun w h => List.all_eq_true.mp (by decide +kernel : wsX90.all goodWord = true) w h
theorem gt_wsX11_init_wsX90 : GoodIn wsX11_init wsX90 := fun w h => ⟨List.mem_cons_of_mem _ (List.mem_append_right _ h), good_of_word (gq_wsX90 w h)⟩
set_option maxRecDepth 20000 in
theorem ggX11_init_X9_init : GoodIn wsX11_init wsX9_init := goodIn_ca (goodIn_s _ [(77, 2), (2, 2), (79, 4)] rfl (by decide +kernel)) gt_wsX11_init_wsX90
set_option maxRecDepth 20000 in
theorem gX11_init_X9_init_n75 : GoodIn wsX11_init (wsX9_init) := ggX11_init_X9_init
theorem dX11_init_0 : decode cX11_init 0 = .ok (.aload_n 0, 1) := o_42 (by decide +kernel)
theorem dX11_init_1 : decode cX11_init 1 = .ok (.invokespecial 3, 3) := o_183 (by decide +kernel)
theorem dX11_init_4 : decode cX11_init 4 = .ok (.aload_n 0, 1) := o_42 (by decide +kernel)
theorem dX11_init_5 : decode cX11_init 5 = .ok (.new 9, 3) := o_187 (by decide +kernel)
theorem dX11_init_8 : decode cX11_init 8 = .ok (.dup, 1) := o_89 (by decide +kernel)
theorem dX11_init_9 : decode cX11_init 9 = .ok (.invokespecial 11, 3) := o_183 (by decide +kernel)
theorem dX11_init_12 : decode cX11_init 12 = .ok (.putfield 12, 3) := o_181 (by decide +kernel)
theorem dX11_init_15 : decode cX11_init 15 = .ok (.aload_n 0, 1) := o_42 (by decide +kernel)
theorem dX11_init_16 : decode cX11_init 16 = .ok (.new 9, 3) := o_187 (by decide +kernel)
theorem dX11_init_19 : decode cX11_init 19 = .ok (.dup, 1) := o_89 (by decide +kernel)
theorem dX11_init_20 : decode cX11_init 20 = .ok (.invokespecial 11, 3) := o_183 (by decide +kernel)
theorem dX11_init_23 : decode cX11_init 23 = .ok (.putfield 18, 3) := o_181 (by decide +kernel)
theorem dX11_init_26 : decode cX11_init 26 = .ok (.aload_n 0, 1) := o_42 (by decide +kernel)
theorem dX11_init_27 : decode cX11_init 27 = .ok (.new 9, 3) := o_187 (by decide +kernel)
theorem dX11_init_30 : decode cX11_init 30 = .ok (.dup, 1) := o_89 (by decide +kernel)
theorem dX11_init_31 : decode cX11_init 31 = .ok (.invokespecial 11, 3) := o_183 (by decide +kernel)
theorem dX11_init_34 : decode cX11_init 34 = .ok (.putfield 21, 3) := o_181 (by decide +kernel)
theorem dX11_init_37 : decode cX11_init 37 = .ok (.aload_n 0, 1) := o_42 (by decide +kernel)
theorem dX11_init_38 : decode cX11_init 38 = .ok (.iconst 0, 1) := o_3 (by decide +kernel)
theorem dX11_init_39 : decode cX11_init 39 = .ok (.putfield 24, 3) := o_181 (by decide +kernel)
theorem dX11_init_42 : decode cX11_init 42 = .ok (.aload_n 0, 1) := o_42 (by decide +kernel)
theorem dX11_init_43 : decode cX11_init 43 = .ok (.bipush 6, 2) := o_16 (by decide +kernel)
theorem dX11_init_45 : decode cX11_init 45 = .ok (.anewarray 28, 3) := o_189 (by decide +kernel)
theorem dX11_init_48 : decode cX11_init 48 = .ok (.putfield 30, 3) := o_181 (by decide +kernel)
theorem dX11_init_51 : decode cX11_init 51 = .ok (.aload_n 0, 1) := o_42 (by decide +kernel)
theorem dX11_init_52 : decode cX11_init 52 = .ok (.iconst 0, 1) := o_3 (by decide +kernel)
theorem dX11_init_53 : decode cX11_init 53 = .ok (.putfield 34, 3) := o_181 (by decide +kernel)
theorem dX11_init_56 : decode cX11_init 56 = .ok (.aload_n 0, 1) := o_42 (by decide +kernel)
theorem dX11_init_57 : decode cX11_init 57 = .ok (.bipush 100, 2) := o_16 (by decide +kernel)
theorem dX11_init_59 : decode cX11_init 59 = .ok (.newarray .byte, 2) := on_byte (by decide +kernel)
theorem dX11_init_61 : decode cX11_init 61 = .ok (.putfield 38, 3) := o_181 (by decide +kernel)
theorem dX11_init_64 : decode cX11_init 64 = .ok (.aload_n 0, 1) := o_42 (by decide +kernel)
theorem dX11_init_65 : decode cX11_init 65 = .ok (.iconst 0, 1) := o_3 (by decide +kernel)
theorem dX11_init_66 : decode cX11_init 66 = .ok (.putfield 42, 3) := o_181 (by decide +kernel)
theorem dX11_init_69 : decode cX11_init 69 = .ok (.aload_n 0, 1) := o_42 (by decide +kernel)
theorem dX11_init_70 : decode cX11_init 70 = .ok (.bipush 6, 2) := o_16 (by decide +kernel)
theorem dX11_init_72 : decode cX11_init 72 = .ok (.anewarray 45, 3) := o_189 (by decide +kernel)
theorem dX11_init_75 : decode cX11_init 75 = .ok (.putfield 47, 3) := o_181 (by decide +kernel)
theorem dX11_init_78 : decode cX11_init 78 = .ok (.aload_n 0, 1) := o_42 (by decide +kernel)
theorem dX11_init_79 : decode cX11_init 79 = .ok (.new 51, 3) := o_187 (by decide +kernel)
theorem dX11_init_82 : decode cX11_init 82 = .ok (.dup, 1) := o_89 (by decide +kernel)
theorem dX11_init_83 : decode cX11_init 83 = .ok (.bipush 20, 2) := o_16 (by decide +kernel)
theorem dX11_init_85 : decode cX11_init 85 = .ok (.invokespecial 53, 3) := o_183 (by decide +kernel)
theorem dX11_init_88 : decode cX11_init 88 = .ok (.putfield 56, 3) := o_181 (by decide +kernel)
theorem dX11_init_91 : decode cX11_init 91 = .ok (.aload_n 0, 1) := o_42 (by decide +kernel)
theorem dX11_init_92 : decode cX11_init 92 = .ok (.iconst 5, 1) := o_8 (by decide +kernel)
theorem dX11_init_93 : decode cX11_init 93 = .ok (.newarray .int, 2) := on_int (by decide +kernel)
theorem dX11_init_95 : decode cX11_init 95 = .ok (.putfield 60, 3) := o_181 (by decide +kernel)
theorem dX11_init_98 : decode cX11_init 98 = .ok (.aload_n 0, 1) := o_42 (by decide +kernel)
theorem dX11_init_99 : decode cX11_init 99 = .ok (.iconst 5, 1) := o_8 (by decide +kernel)
theorem dX11_init_100 : decode cX11_init 100 = .ok (.newarray .int, 2) := on_int (by decide +kernel)
theorem dX11_init_102 : decode cX11_init 102 = .ok (.putfield 64, 3) := o_181 (by decide +kernel)
theorem dX11_init_105 : decode cX11_init 105 = .ok (.aload_n 0, 1) := o_42 (by decide +kernel)
theorem dX11_init_106 : decode cX11_init 106 = .ok (.bipush 6, 2) := o_16 (by decide +kernel)
theorem dX11_init_108 : decode cX11_init 108 = .ok (.newarray .int, 2) := on_int (by decide +kernel)
theorem dX11_init_110 : decode cX11_init 110 = .ok (.putfield 67, 3) := o_181 (by decide +kernel)
theorem dX11_init_113 : decode cX11_init 113 = .ok (.new 28, 3) := o_187 (by decide +kernel)
theorem dX11_init_116 : decode cX11_init 116 = .ok (.dup, 1) := o_89 (by decide +kernel)
theorem dX11_init_117 : decode cX11_init 117 = .ok (.invokespecial 70, 3) := o_183 (by decide +kernel)
theorem dX11_init_120 : decode cX11_init 120 = .ok (.astore_n 1, 1) := o_76 (by decide +kernel)
theorem dX11_init_121 : decode cX11_init 121 = .ok (.aload_n 0, 1) := o_42 (by decide +kernel)
theorem dX11_init_122 : decode cX11_init 122 = .ok (.getfield 12, 3) := o_180 (by decide +kernel)
theorem dX11_init_125 : decode cX11_init 125 = .ok (.aload_n 1, 1) := o_43 (by decide +kernel)
theorem dX11_init_126 : decode cX11_init 126 = .ok (.putfield 71, 3) := o_181 (by decide +kernel)
theorem dX11_init_129 : decode cX11_init 129 = .ok (.aload_n 0, 1) := o_42 (by decide +kernel)
theorem dX11_init_130 : decode cX11_init 130 = .ok (.getfield 18, 3) := o_180 (by decide +kernel)
theorem dX11_init_133 : decode cX11_init 133 = .ok (.aload_n 1, 1) := o_43 (by decide +kernel)
theorem dX11_init_134 : decode cX11_init 134 = .ok (.putfield 71, 3) := o_181 (by decide +kernel)
theorem dX11_init_137 : decode cX11_init 137 = .ok (.aload_n 0, 1) := o_42 (by decide +kernel)
theorem dX11_init_138 : decode cX11_init 138 = .ok (.getfield 21, 3) := o_180 (by decide +kernel)
theorem dX11_init_141 : decode cX11_init 141 = .ok (.aload_n 1, 1) := o_43 (by decide +kernel)
theorem dX11_init_142 : decode cX11_init 142 = .ok (.putfield 71, 3) := o_181 (by decide +kernel)
theorem dX11_init_145 : decode cX11_init 145 = .ok (.iconst 0, 1) := o_3 (by decide +kernel)
theorem dX11_init_146 : decode cX11_init 146 = .ok (.istore_n 2, 1) := o_61 (by decide +kernel)
theorem dX11_init_147 : decode cX11_init 147 = .ok (.iload_n 2, 1) := o_28 (by decide +kernel)
theorem dX11_init_148 : decode cX11_init 148 = .ok (.bipush 6, 2) := o_16 (by decide +kernel)
theorem dX11_init_150 : decode cX11_init 150 = .ok (.if_icmp .ge 22, 3) := o_162 (by decide +kernel)
theorem dX11_init_153 : decode cX11_init 153 = .ok (.aload_n 0, 1) := o_42 (by decide +kernel)
theorem dX11_init_154 : decode cX11_init 154 = .ok (.getfield 47, 3) := o_180 (by decide +kernel)
theorem dX11_init_157 : decode cX11_init 157 = .ok (.iload_n 2, 1) := o_28 (by decide +kernel)
theorem dX11_init_158 : decode cX11_init 158 = .ok (.new 45, 3) := o_187 (by decide +kernel)
theorem dX11_init_161 : decode cX11_init 161 = .ok (.dup, 1) := o_89 (by decide +kernel)
theorem dX11_init_162 : decode cX11_init 162 = .ok (.invokespecial 75, 3) := o_183 (by decide +kernel)
theorem dX11_init_165 : decode cX11_init 165 = .ok (.aastore, 1) := o_83 (by decide +kernel)
theorem dX11_init_166 : decode cX11_init 166 = .ok (.iinc 2 1, 3) := o_132 (by decide +kernel)
theorem dX11_init_169 : decode cX11_init 169 = .ok (.goto (-22), 3) := o_167 (by decide +kernel)
theorem dX11_init_172 : decode cX11_init 172 = .ok (.return_, 1) := o_177 (by decide +kernel)
theorem gt_wsX11_mower_wsX80 : GoodIn wsX11_mower wsX80 := fun w h => ⟨List.mem_cons_of_mem _ (List.mem_append_left _ (List.mem_append_left _ (List.mem_append_left _ (List.mem_append_left _ (List.mem_append_left _ (List.mem_append_left _ (List.mem_append_right _ h))))))), good_of_word (gq_wsX80 w h)⟩
theorem gt_wsX11_mower_wsX30 : GoodIn wsX11_mower wsX30 := fun w h => ⟨List.mem_cons_of_mem _ (List.mem_append_left _ (List.mem_append_left _ (List.mem_append_left _ (List.mem_append_left _ (List.mem_append_left _ (List.mem_append_right _ h)))))), good_of_word (gq_wsX30 w h)⟩
theorem gt_wsX11_mower_wsX00 : GoodIn wsX11_mower wsX00 := fun w h => ⟨List.mem_cons_of_mem _ (List.mem_append_left _ (List.mem_append_left _ (List.mem_append_left _ (List.mem_append_left _ (List.mem_append_right _ h))))), good_of_word (gq_wsX00 w h)⟩
theorem gt_wsX11_mower_wsX60 : GoodIn wsX11_mower wsX60 := fun w h => ⟨List.mem_cons_of_mem _ (List.mem_append_left _ (List.mem_append_left _ (List.mem_append_left _ (List.mem_append_right _ h)))), good_of_word (gq_wsX60 w h)⟩
theorem gt_wsX11_mower_wsX70 : GoodIn wsX11_mower wsX70 := fun w h => ⟨List.mem_cons_of_mem _ (List.mem_append_left _ (List.mem_append_left _ (List.mem_append_right _ h))), good_of_word (gq_wsX70 w h)⟩
theorem gt_wsX11_mower_wsX100 : GoodIn wsX11_mower wsX100 := fun w h => ⟨List.mem_cons_of_mem _ (List.mem_append_left _ (List.mem_append_right _ h)), good_of_word (gq_wsX100 w h)⟩
theorem gt_wsX11_mower_wsX40 : GoodIn wsX11_mower wsX40 := fun w h => ⟨List.mem_cons_of_mem _ (List.mem_append_right _ h), good_of_word (gq_wsX40 w h)⟩
set_option maxRecDepth 20000 in
theorem ggX11_mower_X11_made : GoodIn wsX11_mower wsX11_made := goodIn_ca (goodIn_ca (goodIn_ca (goodIn_ca (goodIn_ca (goodIn_ca (goodIn_ca (goodIn_s _ [(6, 55)] rfl (by decide +kernel)) gt_wsX11_mower_wsX80) gt_wsX11_mower_wsX30) gt_wsX11_mower_wsX00) gt_wsX11_mower_wsX60) gt_wsX11_mower_wsX70) gt_wsX11_mower_wsX100) gt_wsX11_mower_wsX40
set_option maxRecDepth 20000 in
theorem gX11_mower_X11_made : GoodIn wsX11_mower (va_wsS RX11 79 yX11_made wsX11_made) := goodIn_app (goodIn_of _ (by decide +kernel)) ggX11_mower_X11_made
theorem gt_wsX11_mower_wsX10 : GoodIn wsX11_mower wsX10 := fun w h => ⟨List.mem_cons_of_mem _ (List.mem_append_left _ (List.mem_append_left _ (List.mem_append_left _ (List.mem_append_left _ (List.mem_append_left _ (List.mem_append_left _ (List.mem_append_left _ (List.mem_append_right _ h)))))))), good_of_word (gq_wsX10 w h)⟩
set_option maxRecDepth 20000 in
theorem ggX11_mower_X1_comes : GoodIn wsX11_mower wsX1_comes := goodIn_ca (goodIn_ca (goodIn_ca (goodIn_ca (goodIn_ca (goodIn_ca (goodIn_ca (goodIn_ca (goodIn_s _ [(65, 7)] rfl (by decide +kernel)) gt_wsX11_mower_wsX00) gt_wsX11_mower_wsX30) gt_wsX11_mower_wsX40) gt_wsX11_mower_wsX60) gt_wsX11_mower_wsX70) gt_wsX11_mower_wsX80) gt_wsX11_mower_wsX100) gt_wsX11_mower_wsX10
set_option maxRecDepth 20000 in
theorem gX11_mower_X1_comes : GoodIn wsX11_mower (wsV RX11 83 RX1 yX1_comes wsX1_comes) := goodIn_app (goodIn_of _ (by decide +kernel)) ggX11_mower_X1_comes
theorem dX11_mower_0 : decode cX11_mower 0 = .ok (.iload_n 1, 1) := o_27 (by decide +kernel)
theorem dX11_mower_1 : decode cX11_mower 1 = .ok (.ifCond .lt 9, 3) := o_155 (by decide +kernel)
theorem dX11_mower_4 : decode cX11_mower 4 = .ok (.iload_n 1, 1) := o_27 (by decide +kernel)
theorem dX11_mower_5 : decode cX11_mower 5 = .ok (.bipush 6, 2) := o_16 (by decide +kernel)
theorem dX11_mower_7 : decode cX11_mower 7 = .ok (.if_icmp .le 5, 3) := o_164 (by decide +kernel)
theorem dX11_mower_10 : decode cX11_mower 10 = .ok (.iconst (-1), 1) := o_2 (by decide +kernel)
theorem dX11_mower_11 : decode cX11_mower 11 = .ok (.ireturn, 1) := o_172 (by decide +kernel)
theorem dX11_mower_12 : decode cX11_mower 12 = .ok (.iload_n 2, 1) := o_28 (by decide +kernel)
theorem dX11_mower_13 : decode cX11_mower 13 = .ok (.ifCond .lt 9, 3) := o_155 (by decide +kernel)
theorem dX11_mower_16 : decode cX11_mower 16 = .ok (.iload_n 2, 1) := o_28 (by decide +kernel)
theorem dX11_mower_17 : decode cX11_mower 17 = .ok (.bipush 9, 2) := o_16 (by decide +kernel)
theorem dX11_mower_19 : decode cX11_mower 19 = .ok (.if_icmp .le 6, 3) := o_164 (by decide +kernel)
theorem dX11_mower_22 : decode cX11_mower 22 = .ok (.bipush (-2), 2) := o_16 (by decide +kernel)
theorem dX11_mower_24 : decode cX11_mower 24 = .ok (.ireturn, 1) := o_172 (by decide +kernel)
theorem dX11_mower_25 : decode cX11_mower 25 = .ok (.aload_n 0, 1) := o_42 (by decide +kernel)
theorem dX11_mower_26 : decode cX11_mower 26 = .ok (.getfield 12, 3) := o_180 (by decide +kernel)
theorem dX11_mower_29 : decode cX11_mower 29 = .ok (.getfield 76, 3) := o_180 (by decide +kernel)
theorem dX11_mower_32 : decode cX11_mower 32 = .ok (.bipush 6, 2) := o_16 (by decide +kernel)
theorem dX11_mower_34 : decode cX11_mower 34 = .ok (.if_icmp .lt 6, 3) := o_161 (by decide +kernel)
theorem dX11_mower_37 : decode cX11_mower 37 = .ok (.bipush (-4), 2) := o_16 (by decide +kernel)
theorem dX11_mower_39 : decode cX11_mower 39 = .ok (.ireturn, 1) := o_172 (by decide +kernel)
theorem dX11_mower_40 : decode cX11_mower 40 = .ok (.aload_n 0, 1) := o_42 (by decide +kernel)
theorem dX11_mower_41 : decode cX11_mower 41 = .ok (.getfield 12, 3) := o_180 (by decide +kernel)
theorem dX11_mower_44 : decode cX11_mower 44 = .ok (.iload_n 1, 1) := o_27 (by decide +kernel)
theorem dX11_mower_45 : decode cX11_mower 45 = .ok (.aload_n 0, 1) := o_42 (by decide +kernel)
theorem dX11_mower_46 : decode cX11_mower 46 = .ok (.getfield 12, 3) := o_180 (by decide +kernel)
theorem dX11_mower_49 : decode cX11_mower 49 = .ok (.getfield 76, 3) := o_180 (by decide +kernel)
theorem dX11_mower_52 : decode cX11_mower 52 = .ok (.iload_n 2, 1) := o_28 (by decide +kernel)
theorem dX11_mower_53 : decode cX11_mower 53 = .ok (.invokestatic 79, 3) := o_184 (by decide +kernel)
theorem dX11_mower_56 : decode cX11_mower 56 = .ok (.invokevirtual 83, 3) := o_182 (by decide +kernel)
theorem dX11_mower_59 : decode cX11_mower 59 = .ok (.ireturn, 1) := o_172 (by decide +kernel)
theorem gt_wsX11_made_wsX00 : GoodIn wsX11_made wsX00 := fun w h => ⟨List.mem_cons_of_mem _ (List.mem_append_left _ (List.mem_append_left _ (List.mem_append_left _ (List.mem_append_left _ (List.mem_append_right _ h))))), good_of_word (gq_wsX00 w h)⟩
theorem gt_wsX11_made_wsX30 : GoodIn wsX11_made wsX30 := fun w h => ⟨List.mem_cons_of_mem _ (List.mem_append_left _ (List.mem_append_left _ (List.mem_append_left _ (List.mem_append_left _ (List.mem_append_left _ (List.mem_append_right _ h)))))), good_of_word (gq_wsX30 w h)⟩
theorem gt_wsX11_made_wsX40 : GoodIn wsX11_made wsX40 := fun w h => ⟨List.mem_cons_of_mem _ (List.mem_append_right _ h), good_of_word (gq_wsX40 w h)⟩
theorem gt_wsX11_made_wsX60 : GoodIn wsX11_made wsX60 := fun w h => ⟨List.mem_cons_of_mem _ (List.mem_append_left _ (List.mem_append_left _ (List.mem_append_left _ (List.mem_append_right _ h)))), good_of_word (gq_wsX60 w h)⟩
theorem gt_wsX11_made_wsX70 : GoodIn wsX11_made wsX70 := fun w h => ⟨List.mem_cons_of_mem _ (List.mem_append_left _ (List.mem_append_left _ (List.mem_append_right _ h))), good_of_word (gq_wsX70 w h)⟩
theorem gt_wsX11_made_wsX80 : GoodIn wsX11_made wsX80 := fun w h => ⟨List.mem_cons_of_mem _ (List.mem_append_left _ (List.mem_append_left _ (List.mem_append_left _ (List.mem_append_left _ (List.mem_append_left _ (List.mem_append_left _ (List.mem_append_right _ h))))))), good_of_word (gq_wsX80 w h)⟩
theorem gt_wsX11_made_wsX100 : GoodIn wsX11_made wsX100 := fun w h => ⟨List.mem_cons_of_mem _ (List.mem_append_left _ (List.mem_append_right _ h)), good_of_word (gq_wsX100 w h)⟩
set_option maxRecDepth 20000 in
theorem ggX11_made_X8_init : GoodIn wsX11_made wsX8_init := goodIn_ca (goodIn_ca (goodIn_ca (goodIn_ca (goodIn_ca (goodIn_ca (goodIn_ca (goodIn_s _ [(24, 3), (21, 1), (27, 7)] rfl (by decide +kernel)) gt_wsX11_made_wsX00) gt_wsX11_made_wsX30) gt_wsX11_made_wsX40) gt_wsX11_made_wsX60) gt_wsX11_made_wsX70) gt_wsX11_made_wsX80) gt_wsX11_made_wsX100
set_option maxRecDepth 20000 in
theorem gX11_made_X8_init : GoodIn wsX11_made (wsX8_init) := ggX11_made_X8_init
set_option maxRecDepth 20000 in
theorem ggX11_made_X3_init : GoodIn wsX11_made wsX3_init := goodIn_ca (goodIn_ca (goodIn_ca (goodIn_ca (goodIn_ca (goodIn_ca (goodIn_ca (goodIn_s _ [(36, 2), (26, 1), (21, 1), (27, 7)] rfl (by decide +kernel)) gt_wsX11_made_wsX00) gt_wsX11_made_wsX30) gt_wsX11_made_wsX40) gt_wsX11_made_wsX60) gt_wsX11_made_wsX70) gt_wsX11_made_wsX80) gt_wsX11_made_wsX100
set_option maxRecDepth 20000 in
theorem gX11_made_X3_init : GoodIn wsX11_made (wsX3_init) := ggX11_made_X3_init
set_option maxRecDepth 20000 in
theorem ggX11_made_X0_init : GoodIn wsX11_made wsX0_init := goodIn_ca (goodIn_ca (goodIn_ca (goodIn_ca (goodIn_ca (goodIn_ca (goodIn_ca (goodIn_s _ [(40, 2), (26, 1), (21, 1), (27, 7)] rfl (by decide +kernel)) gt_wsX11_made_wsX00) gt_wsX11_made_wsX30) gt_wsX11_made_wsX40) gt_wsX11_made_wsX60) gt_wsX11_made_wsX70) gt_wsX11_made_wsX80) gt_wsX11_made_wsX100
set_option maxRecDepth 20000 in
theorem gX11_made_X0_init : GoodIn wsX11_made (wsX0_init) := ggX11_made_X0_init
set_option maxRecDepth 20000 in
theorem ggX11_made_X6_init : GoodIn wsX11_made wsX6_init := goodIn_ca (goodIn_ca (goodIn_ca (goodIn_ca (goodIn_ca (goodIn_ca (goodIn_ca (goodIn_s _ [(44, 2), (23, 1), (3, 1), (24, 3), (21, 1), (27, 7)] rfl (by decide +kernel)) gt_wsX11_made_wsX00) gt_wsX11_made_wsX30) gt_wsX11_made_wsX40) gt_wsX11_made_wsX60) gt_wsX11_made_wsX70) gt_wsX11_made_wsX80) gt_wsX11_made_wsX100
set_option maxRecDepth 20000 in
theorem gX11_made_X6_init : GoodIn wsX11_made (wsX6_init) := ggX11_made_X6_init
set_option maxRecDepth 20000 in
theorem ggX11_made_X7_init : GoodIn wsX11_made wsX7_init := goodIn_ca (goodIn_ca (goodIn_ca (goodIn_ca (goodIn_ca (goodIn_ca (goodIn_ca (goodIn_s _ [(48, 2), (35, 1), (6, 1), (36, 2), (26, 1), (21, 1), (27, 7)] rfl (by decide +kernel)) gt_wsX11_made_wsX00) gt_wsX11_made_wsX30) gt_wsX11_made_wsX40) gt_wsX11_made_wsX60) gt_wsX11_made_wsX70) gt_wsX11_made_wsX80) gt_wsX11_made_wsX100
set_option maxRecDepth 20000 in
theorem gX11_made_X7_init : GoodIn wsX11_made (wsX7_init) := ggX11_made_X7_init
set_option maxRecDepth 20000 in
theorem ggX11_made_X10_init : GoodIn wsX11_made wsX10_init := goodIn_ca (goodIn_ca (goodIn_ca (goodIn_ca (goodIn_ca (goodIn_ca (goodIn_ca (goodIn_s _ [(52, 2), (39, 1), (9, 1), (40, 2), (26, 1), (21, 1), (27, 7)] rfl (by decide +kernel)) gt_wsX11_made_wsX00) gt_wsX11_made_wsX30) gt_wsX11_made_wsX40) gt_wsX11_made_wsX60) gt_wsX11_made_wsX70) gt_wsX11_made_wsX80) gt_wsX11_made_wsX100
set_option maxRecDepth 20000 in
theorem gX11_made_X10_init : GoodIn wsX11_made (wsX10_init) := ggX11_made_X10_init
set_option maxRecDepth 20000 in
theorem ggX11_made_X4_init : GoodIn wsX11_made wsX4_init := goodIn_ca (goodIn_ca (goodIn_ca (goodIn_ca (goodIn_ca (goodIn_ca (goodIn_ca (goodIn_s _ [(27, 7)] rfl (by decide +kernel)) gt_wsX11_made_wsX00) gt_wsX11_made_wsX30) gt_wsX11_made_wsX40) gt_wsX11_made_wsX60) gt_wsX11_made_wsX70) gt_wsX11_made_wsX80) gt_wsX11_made_wsX100
set_option maxRecDepth 20000 in
theorem gX11_made_X4_init : GoodIn wsX11_made (wsX4_init) := ggX11_made_X4_init
theorem dX11_made_0 : decode cX11_made 0 = .ok (.iload_n 0, 1) := o_26 (by decide +kernel)
theorem dX11_made_1 : decode cX11_made 1 = .ok (.tableswitch 105 1 6 #[39, 50, 61, 72, 83, 94], 39) := by decide +kernel
theorem dX11_made_40 : decode cX11_made 40 = .ok (.new 87, 3) := o_187 (by decide +kernel)
theorem dX11_made_43 : decode cX11_made 43 = .ok (.dup, 1) := o_89 (by decide +kernel)
theorem dX11_made_44 : decode cX11_made 44 = .ok (.iload_n 0, 1) := o_26 (by decide +kernel)
theorem dX11_made_45 : decode cX11_made 45 = .ok (.iload_n 1, 1) := o_27 (by decide +kernel)
theorem dX11_made_46 : decode cX11_made 46 = .ok (.iload_n 2, 1) := o_28 (by decide +kernel)
theorem dX11_made_47 : decode cX11_made 47 = .ok (.invokespecial 89, 3) := o_183 (by decide +kernel)
theorem dX11_made_50 : decode cX11_made 50 = .ok (.areturn, 1) := o_176 (by decide +kernel)
theorem dX11_made_51 : decode cX11_made 51 = .ok (.new 92, 3) := o_187 (by decide +kernel)
theorem dX11_made_54 : decode cX11_made 54 = .ok (.dup, 1) := o_89 (by decide +kernel)
theorem dX11_made_55 : decode cX11_made 55 = .ok (.iload_n 0, 1) := o_26 (by decide +kernel)
theorem dX11_made_56 : decode cX11_made 56 = .ok (.iload_n 1, 1) := o_27 (by decide +kernel)
theorem dX11_made_57 : decode cX11_made 57 = .ok (.iload_n 2, 1) := o_28 (by decide +kernel)
theorem dX11_made_58 : decode cX11_made 58 = .ok (.invokespecial 94, 3) := o_183 (by decide +kernel)
theorem dX11_made_61 : decode cX11_made 61 = .ok (.areturn, 1) := o_176 (by decide +kernel)
theorem dX11_made_62 : decode cX11_made 62 = .ok (.new 95, 3) := o_187 (by decide +kernel)
theorem dX11_made_65 : decode cX11_made 65 = .ok (.dup, 1) := o_89 (by decide +kernel)
theorem dX11_made_66 : decode cX11_made 66 = .ok (.iload_n 0, 1) := o_26 (by decide +kernel)
theorem dX11_made_67 : decode cX11_made 67 = .ok (.iload_n 1, 1) := o_27 (by decide +kernel)
theorem dX11_made_68 : decode cX11_made 68 = .ok (.iload_n 2, 1) := o_28 (by decide +kernel)
theorem dX11_made_69 : decode cX11_made 69 = .ok (.invokespecial 97, 3) := o_183 (by decide +kernel)
theorem dX11_made_72 : decode cX11_made 72 = .ok (.areturn, 1) := o_176 (by decide +kernel)
theorem dX11_made_73 : decode cX11_made 73 = .ok (.new 98, 3) := o_187 (by decide +kernel)
theorem dX11_made_76 : decode cX11_made 76 = .ok (.dup, 1) := o_89 (by decide +kernel)
theorem dX11_made_77 : decode cX11_made 77 = .ok (.iload_n 0, 1) := o_26 (by decide +kernel)
theorem dX11_made_78 : decode cX11_made 78 = .ok (.iload_n 1, 1) := o_27 (by decide +kernel)
theorem dX11_made_79 : decode cX11_made 79 = .ok (.iload_n 2, 1) := o_28 (by decide +kernel)
theorem dX11_made_80 : decode cX11_made 80 = .ok (.invokespecial 100, 3) := o_183 (by decide +kernel)
theorem dX11_made_83 : decode cX11_made 83 = .ok (.areturn, 1) := o_176 (by decide +kernel)
theorem dX11_made_84 : decode cX11_made 84 = .ok (.new 101, 3) := o_187 (by decide +kernel)
theorem dX11_made_87 : decode cX11_made 87 = .ok (.dup, 1) := o_89 (by decide +kernel)
theorem dX11_made_88 : decode cX11_made 88 = .ok (.iload_n 0, 1) := o_26 (by decide +kernel)
theorem dX11_made_89 : decode cX11_made 89 = .ok (.iload_n 1, 1) := o_27 (by decide +kernel)
theorem dX11_made_90 : decode cX11_made 90 = .ok (.iload_n 2, 1) := o_28 (by decide +kernel)
theorem dX11_made_91 : decode cX11_made 91 = .ok (.invokespecial 103, 3) := o_183 (by decide +kernel)
theorem dX11_made_94 : decode cX11_made 94 = .ok (.areturn, 1) := o_176 (by decide +kernel)
theorem dX11_made_95 : decode cX11_made 95 = .ok (.new 104, 3) := o_187 (by decide +kernel)
theorem dX11_made_98 : decode cX11_made 98 = .ok (.dup, 1) := o_89 (by decide +kernel)
theorem dX11_made_99 : decode cX11_made 99 = .ok (.iload_n 0, 1) := o_26 (by decide +kernel)
theorem dX11_made_100 : decode cX11_made 100 = .ok (.iload_n 1, 1) := o_27 (by decide +kernel)
theorem dX11_made_101 : decode cX11_made 101 = .ok (.iload_n 2, 1) := o_28 (by decide +kernel)
theorem dX11_made_102 : decode cX11_made 102 = .ok (.invokespecial 106, 3) := o_183 (by decide +kernel)
theorem dX11_made_105 : decode cX11_made 105 = .ok (.areturn, 1) := o_176 (by decide +kernel)
theorem dX11_made_106 : decode cX11_made 106 = .ok (.new 107, 3) := o_187 (by decide +kernel)
theorem dX11_made_109 : decode cX11_made 109 = .ok (.dup, 1) := o_89 (by decide +kernel)
theorem dX11_made_110 : decode cX11_made 110 = .ok (.iload_n 0, 1) := o_26 (by decide +kernel)
theorem dX11_made_111 : decode cX11_made 111 = .ok (.iload_n 1, 1) := o_27 (by decide +kernel)
theorem dX11_made_112 : decode cX11_made 112 = .ok (.iload_n 2, 1) := o_28 (by decide +kernel)
theorem dX11_made_113 : decode cX11_made 113 = .ok (.invokespecial 109, 3) := o_183 (by decide +kernel)
theorem dX11_made_116 : decode cX11_made 116 = .ok (.areturn, 1) := o_176 (by decide +kernel)
theorem dX11_isMower_0 : decode cX11_isMower 0 = .ok (.iload_n 1, 1) := o_27 (by decide +kernel)
theorem dX11_isMower_1 : decode cX11_isMower 1 = .ok (.ifCond .lt 18, 3) := o_155 (by decide +kernel)
theorem dX11_isMower_4 : decode cX11_isMower 4 = .ok (.iload_n 1, 1) := o_27 (by decide +kernel)
theorem dX11_isMower_5 : decode cX11_isMower 5 = .ok (.aload_n 0, 1) := o_42 (by decide +kernel)
theorem dX11_isMower_6 : decode cX11_isMower 6 = .ok (.getfield 12, 3) := o_180 (by decide +kernel)
theorem dX11_isMower_9 : decode cX11_isMower 9 = .ok (.getfield 76, 3) := o_180 (by decide +kernel)
theorem dX11_isMower_12 : decode cX11_isMower 12 = .ok (.if_icmp .ge 7, 3) := o_162 (by decide +kernel)
theorem dX11_isMower_15 : decode cX11_isMower 15 = .ok (.iconst 1, 1) := o_4 (by decide +kernel)
theorem dX11_isMower_16 : decode cX11_isMower 16 = .ok (.goto 4, 3) := o_167 (by decide +kernel)
theorem dX11_isMower_19 : decode cX11_isMower 19 = .ok (.iconst 0, 1) := o_3 (by decide +kernel)
theorem dX11_isMower_20 : decode cX11_isMower 20 = .ok (.ireturn, 1) := o_172 (by decide +kernel)
theorem gq_wsX110 : ∀ w ∈ wsX110, goodWord w = true := fun w h => List.all_eq_true.mp (by decide +kernel : wsX110.all goodWord = true) w h
theorem gt_wsX11_of_wsX110 : GoodIn wsX11_of wsX110 := fun w h => ⟨List.mem_cons_of_mem _ (List.mem_append_left _ (List.mem_append_left _ (List.mem_append_left _ (List.mem_append_left _ (List.mem_append_left _ (List.mem_append_left _ (List.mem_append_left _ (List.mem_append_left _ (List.mem_append_left _ (List.mem_append_right _ h)))))))))), good_of_word (gq_wsX110 w h)⟩
theorem gt_wsX11_of_wsX10 : GoodIn wsX11_of wsX10 := fun w h => ⟨List.mem_cons_of_mem _ (List.mem_append_left _ (List.mem_append_left _ (List.mem_append_left _ (List.mem_append_left _ (List.mem_append_left _ (List.mem_append_left _ (List.mem_append_left _ (List.mem_append_left _ (List.mem_append_right _ h))))))))), good_of_word (gq_wsX10 w h)⟩
set_option maxRecDepth 20000 in
theorem ggX11_of_X11_isMower : GoodIn wsX11_of wsX11_isMower := goodIn_ca (goodIn_ca (goodIn_s _ [(13, 1), (1, 1), (14, 1)] rfl (by decide +kernel)) gt_wsX11_of_wsX110) gt_wsX11_of_wsX10
set_option maxRecDepth 20000 in
theorem gX11_of_X11_isMower : GoodIn wsX11_of (wsV RX11 110 RX11 yX11_isMower wsX11_isMower) := goodIn_app (goodIn_of _ (by decide +kernel)) ggX11_of_X11_isMower
set_option maxRecDepth 20000 in
theorem ggX11_of_X1_placeOf : GoodIn wsX11_of wsX1_placeOf := goodIn_ca (goodIn_s _ [(19, 3)] rfl (by decide +kernel)) gt_wsX11_of_wsX10
set_option maxRecDepth 20000 in
theorem gX11_of_X1_placeOf : GoodIn wsX11_of (wsV RX11 136 RX1 yX1_placeOf wsX1_placeOf) := goodIn_app (goodIn_of _ (by decide +kernel)) ggX11_of_X1_placeOf
theorem gt_wsX11_of_wsX00 : GoodIn wsX11_of wsX00 := fun w h => ⟨List.mem_cons_of_mem _ (List.mem_append_left _ (List.mem_append_left _ (List.mem_append_left _ (List.mem_append_left _ (List.mem_append_left _ (List.mem_append_left _ (List.mem_append_left _ (List.mem_append_right _ h)))))))), good_of_word (gq_wsX00 w h)⟩
theorem gt_wsX11_of_wsX30 : GoodIn wsX11_of wsX30 := fun w h => ⟨List.mem_cons_of_mem _ (List.mem_append_left _ (List.mem_append_left _ (List.mem_append_left _ (List.mem_append_left _ (List.mem_append_left _ (List.mem_append_left _ (List.mem_append_right _ h))))))), good_of_word (gq_wsX30 w h)⟩
theorem gt_wsX11_of_wsX40 : GoodIn wsX11_of wsX40 := fun w h => ⟨List.mem_cons_of_mem _ (List.mem_append_left _ (List.mem_append_left _ (List.mem_append_left _ (List.mem_append_left _ (List.mem_append_left _ (List.mem_append_right _ h)))))), good_of_word (gq_wsX40 w h)⟩
theorem gt_wsX11_of_wsX60 : GoodIn wsX11_of wsX60 := fun w h => ⟨List.mem_cons_of_mem _ (List.mem_append_left _ (List.mem_append_left _ (List.mem_append_left _ (List.mem_append_left _ (List.mem_append_right _ h))))), good_of_word (gq_wsX60 w h)⟩
theorem gt_wsX11_of_wsX70 : GoodIn wsX11_of wsX70 := fun w h => ⟨List.mem_cons_of_mem _ (List.mem_append_left _ (List.mem_append_left _ (List.mem_append_left _ (List.mem_append_right _ h)))), good_of_word (gq_wsX70 w h)⟩
theorem gt_wsX11_of_wsX80 : GoodIn wsX11_of wsX80 := fun w h => ⟨List.mem_cons_of_mem _ (List.mem_append_left _ (List.mem_append_left _ (List.mem_append_right _ h))), good_of_word (gq_wsX80 w h)⟩
theorem gt_wsX11_of_wsX100 : GoodIn wsX11_of wsX100 := fun w h => ⟨List.mem_cons_of_mem _ (List.mem_append_left _ (List.mem_append_right _ h)), good_of_word (gq_wsX100 w h)⟩
theorem gt_wsX11_of_wsX20 : GoodIn wsX11_of wsX20 := fun w h => ⟨List.mem_cons_of_mem _ (List.mem_append_right _ h), good_of_word (gq_wsX20 w h)⟩
set_option maxRecDepth 20000 in
theorem ggX11_of_X1_paceAt : GoodIn wsX11_of wsX1_paceAt := goodIn_ca (goodIn_ca (goodIn_ca (goodIn_ca (goodIn_ca (goodIn_ca (goodIn_ca (goodIn_ca (goodIn_ca (goodIn_s _ [(25, 1), (21, 1), (26, 22)] rfl (by decide +kernel)) gt_wsX11_of_wsX10) gt_wsX11_of_wsX00) gt_wsX11_of_wsX30) gt_wsX11_of_wsX40) gt_wsX11_of_wsX60) gt_wsX11_of_wsX70) gt_wsX11_of_wsX80) gt_wsX11_of_wsX100) gt_wsX11_of_wsX20
set_option maxRecDepth 20000 in
theorem gX11_of_X1_paceAt : GoodIn wsX11_of (wsV RX11 140 RX1 yX1_paceAt wsX1_paceAt) := goodIn_app (goodIn_of _ (by decide +kernel)) ggX11_of_X1_paceAt
set_option maxRecDepth 20000 in
theorem ggX11_of_X1_strideAt : GoodIn wsX11_of wsX1_strideAt := goodIn_ca (goodIn_ca (goodIn_ca (goodIn_ca (goodIn_ca (goodIn_ca (goodIn_ca (goodIn_ca (goodIn_ca (goodIn_s _ [(51, 1), (21, 1), (27, 1), (29, 1), (52, 1), (23, 2), (18, 1), (25, 2), (28, 1), (30, 18), (53, 50), (20, 1), (103, 19)] rfl (by decide +kernel)) gt_wsX11_of_wsX10) gt_wsX11_of_wsX00) gt_wsX11_of_wsX30) gt_wsX11_of_wsX40) gt_wsX11_of_wsX60) gt_wsX11_of_wsX70) gt_wsX11_of_wsX80) gt_wsX11_of_wsX100) gt_wsX11_of_wsX20
set_option maxRecDepth 20000 in
theorem gX11_of_X1_strideAt : GoodIn wsX11_of (wsV RX11 143 RX1 yX1_strideAt wsX1_strideAt) := goodIn_app (goodIn_of _ (by decide +kernel)) ggX11_of_X1_strideAt
theorem dX11_of_0 : decode cX11_of 0 = .ok (.aload_n 0, 1) := o_42 (by decide +kernel)
theorem dX11_of_1 : decode cX11_of 1 = .ok (.iload_n 1, 1) := o_27 (by decide +kernel)
theorem dX11_of_2 : decode cX11_of 2 = .ok (.invokevirtual 110, 3) := o_182 (by decide +kernel)
theorem dX11_of_5 : decode cX11_of 5 = .ok (.ifCond .ne 5, 3) := o_154 (by decide +kernel)
theorem dX11_of_8 : decode cX11_of 8 = .ok (.iconst (-1), 1) := o_2 (by decide +kernel)
theorem dX11_of_9 : decode cX11_of 9 = .ok (.ireturn, 1) := o_172 (by decide +kernel)
theorem dX11_of_10 : decode cX11_of 10 = .ok (.iload_n 2, 1) := o_28 (by decide +kernel)
theorem dX11_of_11 : decode cX11_of 11 = .ok (.tableswitch 156 0 8 #[49, 62, 75, 85, 95, 105, 115, 124, 140], 49) := by decide +kernel
theorem dX11_of_60 : decode cX11_of 60 = .ok (.aload_n 0, 1) := o_42 (by decide +kernel)
theorem dX11_of_61 : decode cX11_of 61 = .ok (.getfield 12, 3) := o_180 (by decide +kernel)
theorem dX11_of_64 : decode cX11_of 64 = .ok (.getfield 114, 3) := o_180 (by decide +kernel)
theorem dX11_of_67 : decode cX11_of 67 = .ok (.iload_n 1, 1) := o_27 (by decide +kernel)
theorem dX11_of_68 : decode cX11_of 68 = .ok (.aaload, 1) := o_50 (by decide +kernel)
theorem dX11_of_69 : decode cX11_of 69 = .ok (.getfield 118, 3) := o_180 (by decide +kernel)
theorem dX11_of_72 : decode cX11_of 72 = .ok (.ireturn, 1) := o_172 (by decide +kernel)
theorem dX11_of_73 : decode cX11_of 73 = .ok (.aload_n 0, 1) := o_42 (by decide +kernel)
theorem dX11_of_74 : decode cX11_of 74 = .ok (.getfield 12, 3) := o_180 (by decide +kernel)
theorem dX11_of_77 : decode cX11_of 77 = .ok (.getfield 114, 3) := o_180 (by decide +kernel)
theorem dX11_of_80 : decode cX11_of 80 = .ok (.iload_n 1, 1) := o_27 (by decide +kernel)
theorem dX11_of_81 : decode cX11_of 81 = .ok (.aaload, 1) := o_50 (by decide +kernel)
theorem dX11_of_82 : decode cX11_of 82 = .ok (.getfield 121, 3) := o_180 (by decide +kernel)
theorem dX11_of_85 : decode cX11_of 85 = .ok (.ireturn, 1) := o_172 (by decide +kernel)
theorem dX11_of_86 : decode cX11_of 86 = .ok (.aload_n 0, 1) := o_42 (by decide +kernel)
theorem dX11_of_87 : decode cX11_of 87 = .ok (.getfield 12, 3) := o_180 (by decide +kernel)
theorem dX11_of_90 : decode cX11_of 90 = .ok (.getfield 124, 3) := o_180 (by decide +kernel)
theorem dX11_of_93 : decode cX11_of 93 = .ok (.iload_n 1, 1) := o_27 (by decide +kernel)
theorem dX11_of_94 : decode cX11_of 94 = .ok (.iaload, 1) := o_46 (by decide +kernel)
theorem dX11_of_95 : decode cX11_of 95 = .ok (.ireturn, 1) := o_172 (by decide +kernel)
theorem dX11_of_96 : decode cX11_of 96 = .ok (.aload_n 0, 1) := o_42 (by decide +kernel)
theorem dX11_of_97 : decode cX11_of 97 = .ok (.getfield 12, 3) := o_180 (by decide +kernel)
theorem dX11_of_100 : decode cX11_of 100 = .ok (.getfield 127, 3) := o_180 (by decide +kernel)
theorem dX11_of_103 : decode cX11_of 103 = .ok (.iload_n 1, 1) := o_27 (by decide +kernel)
theorem dX11_of_104 : decode cX11_of 104 = .ok (.iaload, 1) := o_46 (by decide +kernel)
theorem dX11_of_105 : decode cX11_of 105 = .ok (.ireturn, 1) := o_172 (by decide +kernel)
theorem dX11_of_106 : decode cX11_of 106 = .ok (.aload_n 0, 1) := o_42 (by decide +kernel)
theorem dX11_of_107 : decode cX11_of 107 = .ok (.getfield 12, 3) := o_180 (by decide +kernel)
theorem dX11_of_110 : decode cX11_of 110 = .ok (.getfield 130, 3) := o_180 (by decide +kernel)
theorem dX11_of_113 : decode cX11_of 113 = .ok (.iload_n 1, 1) := o_27 (by decide +kernel)
theorem dX11_of_114 : decode cX11_of 114 = .ok (.iaload, 1) := o_46 (by decide +kernel)
theorem dX11_of_115 : decode cX11_of 115 = .ok (.ireturn, 1) := o_172 (by decide +kernel)
theorem dX11_of_116 : decode cX11_of 116 = .ok (.aload_n 0, 1) := o_42 (by decide +kernel)
theorem dX11_of_117 : decode cX11_of 117 = .ok (.getfield 12, 3) := o_180 (by decide +kernel)
theorem dX11_of_120 : decode cX11_of 120 = .ok (.getfield 133, 3) := o_180 (by decide +kernel)
theorem dX11_of_123 : decode cX11_of 123 = .ok (.iload_n 1, 1) := o_27 (by decide +kernel)
theorem dX11_of_124 : decode cX11_of 124 = .ok (.iaload, 1) := o_46 (by decide +kernel)
theorem dX11_of_125 : decode cX11_of 125 = .ok (.ireturn, 1) := o_172 (by decide +kernel)
theorem dX11_of_126 : decode cX11_of 126 = .ok (.aload_n 0, 1) := o_42 (by decide +kernel)
theorem dX11_of_127 : decode cX11_of 127 = .ok (.getfield 12, 3) := o_180 (by decide +kernel)
theorem dX11_of_130 : decode cX11_of 130 = .ok (.iload_n 1, 1) := o_27 (by decide +kernel)
theorem dX11_of_131 : decode cX11_of 131 = .ok (.invokevirtual 136, 3) := o_182 (by decide +kernel)
theorem dX11_of_134 : decode cX11_of 134 = .ok (.ireturn, 1) := o_172 (by decide +kernel)
theorem dX11_of_135 : decode cX11_of 135 = .ok (.aload_n 0, 1) := o_42 (by decide +kernel)
theorem dX11_of_136 : decode cX11_of 136 = .ok (.getfield 12, 3) := o_180 (by decide +kernel)
theorem dX11_of_139 : decode cX11_of 139 = .ok (.aload_n 0, 1) := o_42 (by decide +kernel)
theorem dX11_of_140 : decode cX11_of 140 = .ok (.getfield 12, 3) := o_180 (by decide +kernel)
theorem dX11_of_143 : decode cX11_of 143 = .ok (.iload_n 1, 1) := o_27 (by decide +kernel)
theorem dX11_of_144 : decode cX11_of 144 = .ok (.invokevirtual 136, 3) := o_182 (by decide +kernel)
theorem dX11_of_147 : decode cX11_of 147 = .ok (.invokevirtual 140, 3) := o_182 (by decide +kernel)
theorem dX11_of_150 : decode cX11_of 150 = .ok (.ireturn, 1) := o_172 (by decide +kernel)
theorem dX11_of_151 : decode cX11_of 151 = .ok (.aload_n 0, 1) := o_42 (by decide +kernel)
theorem dX11_of_152 : decode cX11_of 152 = .ok (.getfield 12, 3) := o_180 (by decide +kernel)
theorem dX11_of_155 : decode cX11_of 155 = .ok (.aload_n 0, 1) := o_42 (by decide +kernel)
theorem dX11_of_156 : decode cX11_of 156 = .ok (.getfield 12, 3) := o_180 (by decide +kernel)
theorem dX11_of_159 : decode cX11_of 159 = .ok (.iload_n 1, 1) := o_27 (by decide +kernel)
theorem dX11_of_160 : decode cX11_of 160 = .ok (.invokevirtual 136, 3) := o_182 (by decide +kernel)
theorem dX11_of_163 : decode cX11_of 163 = .ok (.invokevirtual 143, 3) := o_182 (by decide +kernel)
theorem dX11_of_166 : decode cX11_of 166 = .ok (.ireturn, 1) := o_172 (by decide +kernel)
theorem dX11_of_167 : decode cX11_of 167 = .ok (.iconst (-1), 1) := o_2 (by decide +kernel)
theorem dX11_of_168 : decode cX11_of 168 = .ok (.ireturn, 1) := o_172 (by decide +kernel)
theorem gt_wsX11_set_wsX110 : GoodIn wsX11_set wsX110 := fun w h => ⟨List.mem_cons_of_mem _ (List.mem_append_left _ (List.mem_append_right _ h)), good_of_word (gq_wsX110 w h)⟩
theorem gt_wsX11_set_wsX10 : GoodIn wsX11_set wsX10 := fun w h => ⟨List.mem_cons_of_mem _ (List.mem_append_right _ h), good_of_word (gq_wsX10 w h)⟩
set_option maxRecDepth 20000 in
theorem ggX11_set_X11_isMower : GoodIn wsX11_set wsX11_isMower := goodIn_ca (goodIn_ca (goodIn_s _ [(6, 1), (1, 1), (7, 1)] rfl (by decide +kernel)) gt_wsX11_set_wsX110) gt_wsX11_set_wsX10
set_option maxRecDepth 20000 in
theorem gX11_set_X11_isMower : GoodIn wsX11_set (wsV RX11 110 RX11 yX11_isMower wsX11_isMower) := goodIn_app (goodIn_of _ (by decide +kernel)) ggX11_set_X11_isMower
set_option maxRecDepth 20000 in
theorem ggX11_set_X1_numbersOf : GoodIn wsX11_set wsX1_numbersOf := goodIn_ca (goodIn_s _ [(12, 5)] rfl (by decide +kernel)) gt_wsX11_set_wsX10
set_option maxRecDepth 20000 in
theorem gX11_set_X1_numbersOf : GoodIn wsX11_set (wsV RX11 146 RX1 yX1_numbersOf wsX1_numbersOf) := goodIn_app (goodIn_of _ (by decide +kernel)) ggX11_set_X1_numbersOf
theorem dX11_set_0 : decode cX11_set 0 = .ok (.aload_n 0, 1) := o_42 (by decide +kernel)
theorem dX11_set_1 : decode cX11_set 1 = .ok (.iload_n 1, 1) := o_27 (by decide +kernel)
theorem dX11_set_2 : decode cX11_set 2 = .ok (.invokevirtual 110, 3) := o_182 (by decide +kernel)
theorem dX11_set_5 : decode cX11_set 5 = .ok (.ifCond .eq 12, 3) := o_153 (by decide +kernel)
theorem dX11_set_8 : decode cX11_set 8 = .ok (.iload_n 2, 1) := o_28 (by decide +kernel)
theorem dX11_set_9 : decode cX11_set 9 = .ok (.ifCond .lt 8, 3) := o_155 (by decide +kernel)
theorem dX11_set_12 : decode cX11_set 12 = .ok (.iload_n 2, 1) := o_28 (by decide +kernel)
theorem dX11_set_13 : decode cX11_set 13 = .ok (.iconst 3, 1) := o_6 (by decide +kernel)
theorem dX11_set_14 : decode cX11_set 14 = .ok (.if_icmp .le 5, 3) := o_164 (by decide +kernel)
theorem dX11_set_17 : decode cX11_set 17 = .ok (.iconst (-1), 1) := o_2 (by decide +kernel)
theorem dX11_set_18 : decode cX11_set 18 = .ok (.ireturn, 1) := o_172 (by decide +kernel)
theorem dX11_set_19 : decode cX11_set 19 = .ok (.iload_n 2, 1) := o_28 (by decide +kernel)
theorem dX11_set_20 : decode cX11_set 20 = .ok (.ifCond .ne 9, 3) := o_154 (by decide +kernel)
theorem dX11_set_23 : decode cX11_set 23 = .ok (.sipush 9999, 3) := o_17 (by decide +kernel)
theorem dX11_set_26 : decode cX11_set 26 = .ok (.goto 15, 3) := o_167 (by decide +kernel)
theorem dX11_set_29 : decode cX11_set 29 = .ok (.iload_n 2, 1) := o_28 (by decide +kernel)
theorem dX11_set_30 : decode cX11_set 30 = .ok (.iconst 1, 1) := o_4 (by decide +kernel)
theorem dX11_set_31 : decode cX11_set 31 = .ok (.if_icmp .ne 8, 3) := o_160 (by decide +kernel)
theorem dX11_set_34 : decode cX11_set 34 = .ok (.bipush 10, 2) := o_16 (by decide +kernel)
theorem dX11_set_36 : decode cX11_set 36 = .ok (.goto 5, 3) := o_167 (by decide +kernel)
theorem dX11_set_39 : decode cX11_set 39 = .ok (.bipush 99, 2) := o_16 (by decide +kernel)
theorem dX11_set_41 : decode cX11_set 41 = .ok (.istore 4, 2) := o_54 (by decide +kernel)
theorem dX11_set_43 : decode cX11_set 43 = .ok (.iload_n 3, 1) := o_29 (by decide +kernel)
theorem dX11_set_44 : decode cX11_set 44 = .ok (.ifCond .lt 9, 3) := o_155 (by decide +kernel)
theorem dX11_set_47 : decode cX11_set 47 = .ok (.iload_n 3, 1) := o_29 (by decide +kernel)
theorem dX11_set_48 : decode cX11_set 48 = .ok (.iload 4, 2) := o_21 (by decide +kernel)
theorem dX11_set_50 : decode cX11_set 50 = .ok (.if_icmp .le 6, 3) := o_164 (by decide +kernel)
theorem dX11_set_53 : decode cX11_set 53 = .ok (.bipush (-2), 2) := o_16 (by decide +kernel)
theorem dX11_set_55 : decode cX11_set 55 = .ok (.ireturn, 1) := o_172 (by decide +kernel)
theorem dX11_set_56 : decode cX11_set 56 = .ok (.aload_n 0, 1) := o_42 (by decide +kernel)
theorem dX11_set_57 : decode cX11_set 57 = .ok (.getfield 12, 3) := o_180 (by decide +kernel)
theorem dX11_set_60 : decode cX11_set 60 = .ok (.iload_n 2, 1) := o_28 (by decide +kernel)
theorem dX11_set_61 : decode cX11_set 61 = .ok (.invokevirtual 146, 3) := o_182 (by decide +kernel)
theorem dX11_set_64 : decode cX11_set 64 = .ok (.astore 5, 2) := o_58 (by decide +kernel)
theorem dX11_set_66 : decode cX11_set 66 = .ok (.aload 5, 2) := o_25 (by decide +kernel)
theorem dX11_set_68 : decode cX11_set 68 = .ok (.iload_n 1, 1) := o_27 (by decide +kernel)
theorem dX11_set_69 : decode cX11_set 69 = .ok (.iaload, 1) := o_46 (by decide +kernel)
theorem dX11_set_70 : decode cX11_set 70 = .ok (.istore 6, 2) := o_54 (by decide +kernel)
theorem dX11_set_72 : decode cX11_set 72 = .ok (.aload 5, 2) := o_25 (by decide +kernel)
theorem dX11_set_74 : decode cX11_set 74 = .ok (.iload_n 1, 1) := o_27 (by decide +kernel)
theorem dX11_set_75 : decode cX11_set 75 = .ok (.iload_n 3, 1) := o_29 (by decide +kernel)
theorem dX11_set_76 : decode cX11_set 76 = .ok (.iastore, 1) := o_79 (by decide +kernel)
theorem dX11_set_77 : decode cX11_set 77 = .ok (.iload 6, 2) := o_21 (by decide +kernel)
theorem dX11_set_79 : decode cX11_set 79 = .ok (.ireturn, 1) := o_172 (by decide +kernel)
theorem gt_wsX11_row_wsX110 : GoodIn wsX11_row wsX110 := fun w h => ⟨List.mem_cons_of_mem _ (List.mem_append_left _ (List.mem_append_right _ h)), good_of_word (gq_wsX110 w h)⟩
theorem gt_wsX11_row_wsX10 : GoodIn wsX11_row wsX10 := fun w h => ⟨List.mem_cons_of_mem _ (List.mem_append_right _ h), good_of_word (gq_wsX10 w h)⟩
set_option maxRecDepth 20000 in
theorem ggX11_row_X11_isMower : GoodIn wsX11_row wsX11_isMower := goodIn_ca (goodIn_ca (goodIn_s _ [(9, 1), (1, 1), (10, 1)] rfl (by decide +kernel)) gt_wsX11_row_wsX110) gt_wsX11_row_wsX10
set_option maxRecDepth 20000 in
theorem gX11_row_X11_isMower : GoodIn wsX11_row (wsV RX11 110 RX11 yX11_isMower wsX11_isMower) := goodIn_app (goodIn_of _ (by decide +kernel)) ggX11_row_X11_isMower
theorem dX11_row_0 : decode cX11_row 0 = .ok (.aload_n 0, 1) := o_42 (by decide +kernel)
theorem dX11_row_1 : decode cX11_row 1 = .ok (.iload_n 1, 1) := o_27 (by decide +kernel)
theorem dX11_row_2 : decode cX11_row 2 = .ok (.invokevirtual 110, 3) := o_182 (by decide +kernel)
theorem dX11_row_5 : decode cX11_row 5 = .ok (.ifCond .eq 12, 3) := o_153 (by decide +kernel)
theorem dX11_row_8 : decode cX11_row 8 = .ok (.iload_n 2, 1) := o_28 (by decide +kernel)
theorem dX11_row_9 : decode cX11_row 9 = .ok (.ifCond .lt 8, 3) := o_155 (by decide +kernel)
theorem dX11_row_12 : decode cX11_row 12 = .ok (.iload_n 2, 1) := o_28 (by decide +kernel)
theorem dX11_row_13 : decode cX11_row 13 = .ok (.iconst 3, 1) := o_6 (by decide +kernel)
theorem dX11_row_14 : decode cX11_row 14 = .ok (.if_icmp .le 5, 3) := o_164 (by decide +kernel)
theorem dX11_row_17 : decode cX11_row 17 = .ok (.iconst (-1), 1) := o_2 (by decide +kernel)
theorem dX11_row_18 : decode cX11_row 18 = .ok (.ireturn, 1) := o_172 (by decide +kernel)
theorem dX11_row_19 : decode cX11_row 19 = .ok (.iload_n 3, 1) := o_29 (by decide +kernel)
theorem dX11_row_20 : decode cX11_row 20 = .ok (.ifCond .lt 9, 3) := o_155 (by decide +kernel)
theorem dX11_row_23 : decode cX11_row 23 = .ok (.iload_n 3, 1) := o_29 (by decide +kernel)
theorem dX11_row_24 : decode cX11_row 24 = .ok (.bipush 9, 2) := o_16 (by decide +kernel)
theorem dX11_row_26 : decode cX11_row 26 = .ok (.if_icmp .le 6, 3) := o_164 (by decide +kernel)
theorem dX11_row_29 : decode cX11_row 29 = .ok (.bipush (-2), 2) := o_16 (by decide +kernel)
theorem dX11_row_31 : decode cX11_row 31 = .ok (.ireturn, 1) := o_172 (by decide +kernel)
theorem dX11_row_32 : decode cX11_row 32 = .ok (.aload_n 0, 1) := o_42 (by decide +kernel)
theorem dX11_row_33 : decode cX11_row 33 = .ok (.getfield 12, 3) := o_180 (by decide +kernel)
theorem dX11_row_36 : decode cX11_row 36 = .ok (.getfield 114, 3) := o_180 (by decide +kernel)
theorem dX11_row_39 : decode cX11_row 39 = .ok (.iload_n 1, 1) := o_27 (by decide +kernel)
theorem dX11_row_40 : decode cX11_row 40 = .ok (.aaload, 1) := o_50 (by decide +kernel)
theorem dX11_row_41 : decode cX11_row 41 = .ok (.instanceof 104, 3) := o_193 (by decide +kernel)
theorem dX11_row_44 : decode cX11_row 44 = .ok (.ifCond .ne 6, 3) := o_154 (by decide +kernel)
theorem dX11_row_47 : decode cX11_row 47 = .ok (.bipush (-3), 2) := o_16 (by decide +kernel)
theorem dX11_row_49 : decode cX11_row 49 = .ok (.ireturn, 1) := o_172 (by decide +kernel)
theorem dX11_row_50 : decode cX11_row 50 = .ok (.aload_n 0, 1) := o_42 (by decide +kernel)
theorem dX11_row_51 : decode cX11_row 51 = .ok (.getfield 12, 3) := o_180 (by decide +kernel)
theorem dX11_row_54 : decode cX11_row 54 = .ok (.getfield 150, 3) := o_180 (by decide +kernel)
theorem dX11_row_57 : decode cX11_row 57 = .ok (.iconst 4, 1) := o_7 (by decide +kernel)
theorem dX11_row_58 : decode cX11_row 58 = .ok (.iload_n 1, 1) := o_27 (by decide +kernel)
theorem dX11_row_59 : decode cX11_row 59 = .ok (.imul, 1) := o_104 (by decide +kernel)
theorem dX11_row_60 : decode cX11_row 60 = .ok (.iload_n 2, 1) := o_28 (by decide +kernel)
theorem dX11_row_61 : decode cX11_row 61 = .ok (.iadd, 1) := o_96 (by decide +kernel)
theorem dX11_row_62 : decode cX11_row 62 = .ok (.iaload, 1) := o_46 (by decide +kernel)
theorem dX11_row_63 : decode cX11_row 63 = .ok (.istore 4, 2) := o_54 (by decide +kernel)
theorem dX11_row_65 : decode cX11_row 65 = .ok (.aload_n 0, 1) := o_42 (by decide +kernel)
theorem dX11_row_66 : decode cX11_row 66 = .ok (.getfield 12, 3) := o_180 (by decide +kernel)
theorem dX11_row_69 : decode cX11_row 69 = .ok (.getfield 150, 3) := o_180 (by decide +kernel)
theorem dX11_row_72 : decode cX11_row 72 = .ok (.iconst 4, 1) := o_7 (by decide +kernel)
theorem dX11_row_73 : decode cX11_row 73 = .ok (.iload_n 1, 1) := o_27 (by decide +kernel)
theorem dX11_row_74 : decode cX11_row 74 = .ok (.imul, 1) := o_104 (by decide +kernel)
theorem dX11_row_75 : decode cX11_row 75 = .ok (.iload_n 2, 1) := o_28 (by decide +kernel)
theorem dX11_row_76 : decode cX11_row 76 = .ok (.iadd, 1) := o_96 (by decide +kernel)
theorem dX11_row_77 : decode cX11_row 77 = .ok (.iload_n 3, 1) := o_29 (by decide +kernel)
theorem dX11_row_78 : decode cX11_row 78 = .ok (.iastore, 1) := o_79 (by decide +kernel)
theorem dX11_row_79 : decode cX11_row 79 = .ok (.iload 4, 2) := o_21 (by decide +kernel)
theorem dX11_row_81 : decode cX11_row 81 = .ok (.ireturn, 1) := o_172 (by decide +kernel)
theorem gt_wsX11_place_wsX110 : GoodIn wsX11_place wsX110 := fun w h => ⟨List.mem_cons_of_mem _ (List.mem_append_left _ (List.mem_append_right _ h)), good_of_word (gq_wsX110 w h)⟩
theorem gt_wsX11_place_wsX10 : GoodIn wsX11_place wsX10 := fun w h => ⟨List.mem_cons_of_mem _ (List.mem_append_right _ h), good_of_word (gq_wsX10 w h)⟩
set_option maxRecDepth 20000 in
theorem ggX11_place_X11_isMower : GoodIn wsX11_place wsX11_isMower := goodIn_ca (goodIn_ca (goodIn_s _ [(7, 1), (1, 2)] rfl (by decide +kernel)) gt_wsX11_place_wsX110) gt_wsX11_place_wsX10
set_option maxRecDepth 20000 in
theorem gX11_place_X11_isMower : GoodIn wsX11_place (wsV RX11 110 RX11 yX11_isMower wsX11_isMower) := goodIn_app (goodIn_of _ (by decide +kernel)) ggX11_place_X11_isMower
set_option maxRecDepth 20000 in
theorem ggX11_place_X1_moves : GoodIn wsX11_place wsX1_moves := goodIn_ca (goodIn_s _ [(12, 5), (11, 1), (17, 2)] rfl (by decide +kernel)) gt_wsX11_place_wsX10
set_option maxRecDepth 20000 in
theorem gX11_place_X1_moves : GoodIn wsX11_place (wsV RX11 153 RX1 yX1_moves wsX1_moves) := goodIn_app (goodIn_of _ (by decide +kernel)) ggX11_place_X1_moves
theorem dX11_place_0 : decode cX11_place 0 = .ok (.aload_n 0, 1) := o_42 (by decide +kernel)
theorem dX11_place_1 : decode cX11_place 1 = .ok (.iload_n 1, 1) := o_27 (by decide +kernel)
theorem dX11_place_2 : decode cX11_place 2 = .ok (.invokevirtual 110, 3) := o_182 (by decide +kernel)
theorem dX11_place_5 : decode cX11_place 5 = .ok (.ifCond .eq 18, 3) := o_153 (by decide +kernel)
theorem dX11_place_8 : decode cX11_place 8 = .ok (.iload_n 2, 1) := o_28 (by decide +kernel)
theorem dX11_place_9 : decode cX11_place 9 = .ok (.ifCond .lt 14, 3) := o_155 (by decide +kernel)
theorem dX11_place_12 : decode cX11_place 12 = .ok (.iload_n 2, 1) := o_28 (by decide +kernel)
theorem dX11_place_13 : decode cX11_place 13 = .ok (.aload_n 0, 1) := o_42 (by decide +kernel)
theorem dX11_place_14 : decode cX11_place 14 = .ok (.getfield 12, 3) := o_180 (by decide +kernel)
theorem dX11_place_17 : decode cX11_place 17 = .ok (.getfield 76, 3) := o_180 (by decide +kernel)
theorem dX11_place_20 : decode cX11_place 20 = .ok (.if_icmp .lt 5, 3) := o_161 (by decide +kernel)
theorem dX11_place_23 : decode cX11_place 23 = .ok (.iconst (-1), 1) := o_2 (by decide +kernel)
theorem dX11_place_24 : decode cX11_place 24 = .ok (.ireturn, 1) := o_172 (by decide +kernel)
theorem dX11_place_25 : decode cX11_place 25 = .ok (.aload_n 0, 1) := o_42 (by decide +kernel)
theorem dX11_place_26 : decode cX11_place 26 = .ok (.getfield 12, 3) := o_180 (by decide +kernel)
theorem dX11_place_29 : decode cX11_place 29 = .ok (.iload_n 1, 1) := o_27 (by decide +kernel)
theorem dX11_place_30 : decode cX11_place 30 = .ok (.iload_n 2, 1) := o_28 (by decide +kernel)
theorem dX11_place_31 : decode cX11_place 31 = .ok (.invokevirtual 153, 3) := o_182 (by decide +kernel)
theorem dX11_place_34 : decode cX11_place 34 = .ok (.ireturn, 1) := o_172 (by decide +kernel)
theorem dX11_feed_0 : decode cX11_feed 0 = .ok (.iload_n 1, 1) := o_27 (by decide +kernel)
theorem dX11_feed_1 : decode cX11_feed 1 = .ok (.ifCond .lt 9, 3) := o_155 (by decide +kernel)
theorem dX11_feed_4 : decode cX11_feed 4 = .ok (.iload_n 1, 1) := o_27 (by decide +kernel)
theorem dX11_feed_5 : decode cX11_feed 5 = .ok (.bipush 127, 2) := o_16 (by decide +kernel)
theorem dX11_feed_7 : decode cX11_feed 7 = .ok (.if_icmp .le 6, 3) := o_164 (by decide +kernel)
theorem dX11_feed_10 : decode cX11_feed 10 = .ok (.bipush (-2), 2) := o_16 (by decide +kernel)
theorem dX11_feed_12 : decode cX11_feed 12 = .ok (.ireturn, 1) := o_172 (by decide +kernel)
theorem dX11_feed_13 : decode cX11_feed 13 = .ok (.aload_n 0, 1) := o_42 (by decide +kernel)
theorem dX11_feed_14 : decode cX11_feed 14 = .ok (.getfield 42, 3) := o_180 (by decide +kernel)
theorem dX11_feed_17 : decode cX11_feed 17 = .ok (.bipush 100, 2) := o_16 (by decide +kernel)
theorem dX11_feed_19 : decode cX11_feed 19 = .ok (.if_icmp .lt 6, 3) := o_161 (by decide +kernel)
theorem dX11_feed_22 : decode cX11_feed 22 = .ok (.bipush (-4), 2) := o_16 (by decide +kernel)
theorem dX11_feed_24 : decode cX11_feed 24 = .ok (.ireturn, 1) := o_172 (by decide +kernel)
theorem dX11_feed_25 : decode cX11_feed 25 = .ok (.aload_n 0, 1) := o_42 (by decide +kernel)
theorem dX11_feed_26 : decode cX11_feed 26 = .ok (.getfield 38, 3) := o_180 (by decide +kernel)
theorem dX11_feed_29 : decode cX11_feed 29 = .ok (.aload_n 0, 1) := o_42 (by decide +kernel)
theorem dX11_feed_30 : decode cX11_feed 30 = .ok (.getfield 42, 3) := o_180 (by decide +kernel)
theorem dX11_feed_33 : decode cX11_feed 33 = .ok (.iload_n 1, 1) := o_27 (by decide +kernel)
theorem dX11_feed_34 : decode cX11_feed 34 = .ok (.i2b, 1) := o_145 (by decide +kernel)
theorem dX11_feed_35 : decode cX11_feed 35 = .ok (.bastore, 1) := o_84 (by decide +kernel)
theorem dX11_feed_36 : decode cX11_feed 36 = .ok (.aload_n 0, 1) := o_42 (by decide +kernel)
theorem dX11_feed_37 : decode cX11_feed 37 = .ok (.dup, 1) := o_89 (by decide +kernel)
theorem dX11_feed_38 : decode cX11_feed 38 = .ok (.getfield 42, 3) := o_180 (by decide +kernel)
theorem dX11_feed_41 : decode cX11_feed 41 = .ok (.iconst 1, 1) := o_4 (by decide +kernel)
theorem dX11_feed_42 : decode cX11_feed 42 = .ok (.iadd, 1) := o_96 (by decide +kernel)
theorem dX11_feed_43 : decode cX11_feed 43 = .ok (.putfield 42, 3) := o_181 (by decide +kernel)
theorem dX11_feed_46 : decode cX11_feed 46 = .ok (.aload_n 0, 1) := o_42 (by decide +kernel)
theorem dX11_feed_47 : decode cX11_feed 47 = .ok (.getfield 42, 3) := o_180 (by decide +kernel)
theorem dX11_feed_50 : decode cX11_feed 50 = .ok (.ireturn, 1) := o_172 (by decide +kernel)
theorem gt_wsX11_field_wsX20 : GoodIn wsX11_field wsX20 := fun w h => ⟨List.mem_cons_of_mem _ (List.mem_append_left _ (List.mem_append_right _ h)), good_of_word (gq_wsX20 w h)⟩
set_option maxRecDepth 20000 in
theorem ggX11_field_X2_init : GoodIn wsX11_field wsX2_init := goodIn_ca (goodIn_s _ [(11, 17)] rfl (by decide +kernel)) gt_wsX11_field_wsX20
set_option maxRecDepth 20000 in
theorem gX11_field_X2_init_n70 : GoodIn wsX11_field (wsX2_init) := ggX11_field_X2_init
set_option maxRecDepth 20000 in
theorem ggX11_field_X2_reads : GoodIn wsX11_field wsX2_reads := goodIn_ca (goodIn_s _ [(31, 1), (15, 3), (20, 1), (24, 2), (32, 4), (26, 2), (36, 3), (5, 1), (39, 146), (19, 1), (185, 14), (21, 3)] rfl (by decide +kernel)) gt_wsX11_field_wsX20
set_option maxRecDepth 20000 in
theorem gX11_field_X2_reads : GoodIn wsX11_field (wsV RX11 157 RX2 yX2_reads wsX2_reads) := goodIn_app (goodIn_of _ (by decide +kernel)) ggX11_field_X2_reads
set_option maxRecDepth 20000 in
theorem ggX11_field_X2_fault : GoodIn wsX11_field wsX2_fault := goodIn_ca (goodIn_s _ [(202, 1), (27, 1)] rfl (by decide +kernel)) gt_wsX11_field_wsX20
set_option maxRecDepth 20000 in
theorem gX11_field_X2_fault : GoodIn wsX11_field (wsV RX11 161 RX2 yX2_fault wsX2_fault) := goodIn_app (goodIn_of _ (by decide +kernel)) ggX11_field_X2_fault
theorem dX11_field_0 : decode cX11_field 0 = .ok (.aload_n 0, 1) := o_42 (by decide +kernel)
theorem dX11_field_1 : decode cX11_field 1 = .ok (.getfield 34, 3) := o_180 (by decide +kernel)
theorem dX11_field_4 : decode cX11_field 4 = .ok (.bipush 6, 2) := o_16 (by decide +kernel)
theorem dX11_field_6 : decode cX11_field 6 = .ok (.if_icmp .lt 6, 3) := o_161 (by decide +kernel)
theorem dX11_field_9 : decode cX11_field 9 = .ok (.bipush (-4), 2) := o_16 (by decide +kernel)
theorem dX11_field_11 : decode cX11_field 11 = .ok (.ireturn, 1) := o_172 (by decide +kernel)
theorem dX11_field_12 : decode cX11_field 12 = .ok (.aload_n 0, 1) := o_42 (by decide +kernel)
theorem dX11_field_13 : decode cX11_field 13 = .ok (.getfield 30, 3) := o_180 (by decide +kernel)
theorem dX11_field_16 : decode cX11_field 16 = .ok (.aload_n 0, 1) := o_42 (by decide +kernel)
theorem dX11_field_17 : decode cX11_field 17 = .ok (.getfield 34, 3) := o_180 (by decide +kernel)
theorem dX11_field_20 : decode cX11_field 20 = .ok (.aaload, 1) := o_50 (by decide +kernel)
theorem dX11_field_21 : decode cX11_field 21 = .ok (.ifnonnull 19, 3) := o_199 (by decide +kernel)
theorem dX11_field_24 : decode cX11_field 24 = .ok (.aload_n 0, 1) := o_42 (by decide +kernel)
theorem dX11_field_25 : decode cX11_field 25 = .ok (.getfield 30, 3) := o_180 (by decide +kernel)
theorem dX11_field_28 : decode cX11_field 28 = .ok (.aload_n 0, 1) := o_42 (by decide +kernel)
theorem dX11_field_29 : decode cX11_field 29 = .ok (.getfield 34, 3) := o_180 (by decide +kernel)
theorem dX11_field_32 : decode cX11_field 32 = .ok (.new 28, 3) := o_187 (by decide +kernel)
theorem dX11_field_35 : decode cX11_field 35 = .ok (.dup, 1) := o_89 (by decide +kernel)
theorem dX11_field_36 : decode cX11_field 36 = .ok (.invokespecial 70, 3) := o_183 (by decide +kernel)
theorem dX11_field_39 : decode cX11_field 39 = .ok (.aastore, 1) := o_83 (by decide +kernel)
theorem dX11_field_40 : decode cX11_field 40 = .ok (.aload_n 0, 1) := o_42 (by decide +kernel)
theorem dX11_field_41 : decode cX11_field 41 = .ok (.getfield 30, 3) := o_180 (by decide +kernel)
theorem dX11_field_44 : decode cX11_field 44 = .ok (.aload_n 0, 1) := o_42 (by decide +kernel)
theorem dX11_field_45 : decode cX11_field 45 = .ok (.getfield 34, 3) := o_180 (by decide +kernel)
theorem dX11_field_48 : decode cX11_field 48 = .ok (.aaload, 1) := o_50 (by decide +kernel)
theorem dX11_field_49 : decode cX11_field 49 = .ok (.astore_n 1, 1) := o_76 (by decide +kernel)
theorem dX11_field_50 : decode cX11_field 50 = .ok (.aload_n 1, 1) := o_43 (by decide +kernel)
theorem dX11_field_51 : decode cX11_field 51 = .ok (.aload_n 0, 1) := o_42 (by decide +kernel)
theorem dX11_field_52 : decode cX11_field 52 = .ok (.getfield 38, 3) := o_180 (by decide +kernel)
theorem dX11_field_55 : decode cX11_field 55 = .ok (.aload_n 0, 1) := o_42 (by decide +kernel)
theorem dX11_field_56 : decode cX11_field 56 = .ok (.getfield 42, 3) := o_180 (by decide +kernel)
theorem dX11_field_59 : decode cX11_field 59 = .ok (.invokevirtual 157, 3) := o_182 (by decide +kernel)
theorem dX11_field_62 : decode cX11_field 62 = .ok (.istore_n 2, 1) := o_61 (by decide +kernel)
theorem dX11_field_63 : decode cX11_field 63 = .ok (.aload_n 0, 1) := o_42 (by decide +kernel)
theorem dX11_field_64 : decode cX11_field 64 = .ok (.iconst 0, 1) := o_3 (by decide +kernel)
theorem dX11_field_65 : decode cX11_field 65 = .ok (.putfield 42, 3) := o_181 (by decide +kernel)
theorem dX11_field_68 : decode cX11_field 68 = .ok (.iload_n 2, 1) := o_28 (by decide +kernel)
theorem dX11_field_69 : decode cX11_field 69 = .ok (.ifCond .ne 11, 3) := o_154 (by decide +kernel)
theorem dX11_field_72 : decode cX11_field 72 = .ok (.bipush (-10), 2) := o_16 (by decide +kernel)
theorem dX11_field_74 : decode cX11_field 74 = .ok (.aload_n 1, 1) := o_43 (by decide +kernel)
theorem dX11_field_75 : decode cX11_field 75 = .ok (.invokevirtual 161, 3) := o_182 (by decide +kernel)
theorem dX11_field_78 : decode cX11_field 78 = .ok (.isub, 1) := o_100 (by decide +kernel)
theorem dX11_field_79 : decode cX11_field 79 = .ok (.ireturn, 1) := o_172 (by decide +kernel)
theorem dX11_field_80 : decode cX11_field 80 = .ok (.aload_n 0, 1) := o_42 (by decide +kernel)
theorem dX11_field_81 : decode cX11_field 81 = .ok (.getfield 12, 3) := o_180 (by decide +kernel)
theorem dX11_field_84 : decode cX11_field 84 = .ok (.aload_n 1, 1) := o_43 (by decide +kernel)
theorem dX11_field_85 : decode cX11_field 85 = .ok (.putfield 71, 3) := o_181 (by decide +kernel)
theorem dX11_field_88 : decode cX11_field 88 = .ok (.aload_n 0, 1) := o_42 (by decide +kernel)
theorem dX11_field_89 : decode cX11_field 89 = .ok (.dup, 1) := o_89 (by decide +kernel)
theorem dX11_field_90 : decode cX11_field 90 = .ok (.getfield 34, 3) := o_180 (by decide +kernel)
theorem dX11_field_93 : decode cX11_field 93 = .ok (.iconst 1, 1) := o_4 (by decide +kernel)
theorem dX11_field_94 : decode cX11_field 94 = .ok (.iadd, 1) := o_96 (by decide +kernel)
theorem dX11_field_95 : decode cX11_field 95 = .ok (.putfield 34, 3) := o_181 (by decide +kernel)
theorem dX11_field_98 : decode cX11_field 98 = .ok (.aload_n 0, 1) := o_42 (by decide +kernel)
theorem dX11_field_99 : decode cX11_field 99 = .ok (.getfield 34, 3) := o_180 (by decide +kernel)
theorem dX11_field_102 : decode cX11_field 102 = .ok (.iconst 1, 1) := o_4 (by decide +kernel)
theorem dX11_field_103 : decode cX11_field 103 = .ok (.isub, 1) := o_100 (by decide +kernel)
theorem dX11_field_104 : decode cX11_field 104 = .ok (.ireturn, 1) := o_172 (by decide +kernel)
theorem dX11_told_0 : decode cX11_told 0 = .ok (.iload_n 1, 1) := o_27 (by decide +kernel)
theorem dX11_told_1 : decode cX11_told 1 = .ok (.tableswitch 72 0 3 #[31, 39, 50, 61], 31) := by decide +kernel
theorem dX11_told_32 : decode cX11_told 32 = .ok (.aload_n 0, 1) := o_42 (by decide +kernel)
theorem dX11_told_33 : decode cX11_told 33 = .ok (.getfield 12, 3) := o_180 (by decide +kernel)
theorem dX11_told_36 : decode cX11_told 36 = .ok (.getfield 165, 3) := o_180 (by decide +kernel)
theorem dX11_told_39 : decode cX11_told 39 = .ok (.ireturn, 1) := o_172 (by decide +kernel)
theorem dX11_told_40 : decode cX11_told 40 = .ok (.aload_n 0, 1) := o_42 (by decide +kernel)
theorem dX11_told_41 : decode cX11_told 41 = .ok (.getfield 12, 3) := o_180 (by decide +kernel)
theorem dX11_told_44 : decode cX11_told 44 = .ok (.getfield 71, 3) := o_180 (by decide +kernel)
theorem dX11_told_47 : decode cX11_told 47 = .ok (.getfield 168, 3) := o_180 (by decide +kernel)
theorem dX11_told_50 : decode cX11_told 50 = .ok (.ireturn, 1) := o_172 (by decide +kernel)
theorem dX11_told_51 : decode cX11_told 51 = .ok (.aload_n 0, 1) := o_42 (by decide +kernel)
theorem dX11_told_52 : decode cX11_told 52 = .ok (.getfield 12, 3) := o_180 (by decide +kernel)
theorem dX11_told_55 : decode cX11_told 55 = .ok (.getfield 71, 3) := o_180 (by decide +kernel)
theorem dX11_told_58 : decode cX11_told 58 = .ok (.getfield 171, 3) := o_180 (by decide +kernel)
theorem dX11_told_61 : decode cX11_told 61 = .ok (.ireturn, 1) := o_172 (by decide +kernel)
theorem dX11_told_62 : decode cX11_told 62 = .ok (.aload_n 0, 1) := o_42 (by decide +kernel)
theorem dX11_told_63 : decode cX11_told 63 = .ok (.getfield 12, 3) := o_180 (by decide +kernel)
theorem dX11_told_66 : decode cX11_told 66 = .ok (.getfield 71, 3) := o_180 (by decide +kernel)
theorem dX11_told_69 : decode cX11_told 69 = .ok (.getfield 174, 3) := o_180 (by decide +kernel)
theorem dX11_told_72 : decode cX11_told 72 = .ok (.ireturn, 1) := o_172 (by decide +kernel)
theorem dX11_told_73 : decode cX11_told 73 = .ok (.iload_n 1, 1) := o_27 (by decide +kernel)
theorem dX11_told_74 : decode cX11_told 74 = .ok (.bipush 10, 2) := o_16 (by decide +kernel)
theorem dX11_told_76 : decode cX11_told 76 = .ok (.if_icmp .lt 32, 3) := o_161 (by decide +kernel)
theorem dX11_told_79 : decode cX11_told 79 = .ok (.iload_n 1, 1) := o_27 (by decide +kernel)
theorem dX11_told_80 : decode cX11_told 80 = .ok (.bipush 10, 2) := o_16 (by decide +kernel)
theorem dX11_told_82 : decode cX11_told 82 = .ok (.isub, 1) := o_100 (by decide +kernel)
theorem dX11_told_83 : decode cX11_told 83 = .ok (.aload_n 0, 1) := o_42 (by decide +kernel)
theorem dX11_told_84 : decode cX11_told 84 = .ok (.getfield 12, 3) := o_180 (by decide +kernel)
theorem dX11_told_87 : decode cX11_told 87 = .ok (.getfield 76, 3) := o_180 (by decide +kernel)
theorem dX11_told_90 : decode cX11_told 90 = .ok (.if_icmp .ge 18, 3) := o_162 (by decide +kernel)
theorem dX11_told_93 : decode cX11_told 93 = .ok (.aload_n 0, 1) := o_42 (by decide +kernel)
theorem dX11_told_94 : decode cX11_told 94 = .ok (.getfield 12, 3) := o_180 (by decide +kernel)
theorem dX11_told_97 : decode cX11_told 97 = .ok (.getfield 177, 3) := o_180 (by decide +kernel)
theorem dX11_told_100 : decode cX11_told 100 = .ok (.iload_n 1, 1) := o_27 (by decide +kernel)
theorem dX11_told_101 : decode cX11_told 101 = .ok (.bipush 10, 2) := o_16 (by decide +kernel)
theorem dX11_told_103 : decode cX11_told 103 = .ok (.isub, 1) := o_100 (by decide +kernel)
theorem dX11_told_104 : decode cX11_told 104 = .ok (.iaload, 1) := o_46 (by decide +kernel)
theorem dX11_told_105 : decode cX11_told 105 = .ok (.goto 4, 3) := o_167 (by decide +kernel)
theorem dX11_told_108 : decode cX11_told 108 = .ok (.iconst (-1), 1) := o_2 (by decide +kernel)
theorem dX11_told_109 : decode cX11_told 109 = .ok (.ireturn, 1) := o_172 (by decide +kernel)
theorem gt_wsX11_minute_wsX10 : GoodIn wsX11_minute wsX10 := fun w h => ⟨List.mem_cons_of_mem _ (List.mem_append_left _ (List.mem_append_left _ (List.mem_append_left _ (List.mem_append_left _ (List.mem_append_left _ (List.mem_append_left _ (List.mem_append_left _ (List.mem_append_left _ (List.mem_append_right _ h))))))))), good_of_word (gq_wsX10 w h)⟩
theorem gt_wsX11_minute_wsX00 : GoodIn wsX11_minute wsX00 := fun w h => ⟨List.mem_cons_of_mem _ (List.mem_append_left _ (List.mem_append_left _ (List.mem_append_left _ (List.mem_append_left _ (List.mem_append_left _ (List.mem_append_left _ (List.mem_append_left _ (List.mem_append_right _ h)))))))), good_of_word (gq_wsX00 w h)⟩
theorem gt_wsX11_minute_wsX30 : GoodIn wsX11_minute wsX30 := fun w h => ⟨List.mem_cons_of_mem _ (List.mem_append_left _ (List.mem_append_left _ (List.mem_append_left _ (List.mem_append_left _ (List.mem_append_left _ (List.mem_append_left _ (List.mem_append_right _ h))))))), good_of_word (gq_wsX30 w h)⟩
theorem gt_wsX11_minute_wsX40 : GoodIn wsX11_minute wsX40 := fun w h => ⟨List.mem_cons_of_mem _ (List.mem_append_left _ (List.mem_append_left _ (List.mem_append_left _ (List.mem_append_left _ (List.mem_append_left _ (List.mem_append_right _ h)))))), good_of_word (gq_wsX40 w h)⟩
theorem gt_wsX11_minute_wsX60 : GoodIn wsX11_minute wsX60 := fun w h => ⟨List.mem_cons_of_mem _ (List.mem_append_left _ (List.mem_append_left _ (List.mem_append_left _ (List.mem_append_left _ (List.mem_append_right _ h))))), good_of_word (gq_wsX60 w h)⟩
theorem gt_wsX11_minute_wsX70 : GoodIn wsX11_minute wsX70 := fun w h => ⟨List.mem_cons_of_mem _ (List.mem_append_left _ (List.mem_append_left _ (List.mem_append_left _ (List.mem_append_right _ h)))), good_of_word (gq_wsX70 w h)⟩
theorem gt_wsX11_minute_wsX80 : GoodIn wsX11_minute wsX80 := fun w h => ⟨List.mem_cons_of_mem _ (List.mem_append_left _ (List.mem_append_left _ (List.mem_append_right _ h))), good_of_word (gq_wsX80 w h)⟩
theorem gt_wsX11_minute_wsX100 : GoodIn wsX11_minute wsX100 := fun w h => ⟨List.mem_cons_of_mem _ (List.mem_append_left _ (List.mem_append_right _ h)), good_of_word (gq_wsX100 w h)⟩
theorem gt_wsX11_minute_wsX20 : GoodIn wsX11_minute wsX20 := fun w h => ⟨List.mem_cons_of_mem _ (List.mem_append_right _ h), good_of_word (gq_wsX20 w h)⟩
set_option maxRecDepth 20000 in
theorem ggX11_minute_X1_goesMinute : GoodIn wsX11_minute wsX1_goesMinute := goodIn_ca (goodIn_ca (goodIn_ca (goodIn_ca (goodIn_ca (goodIn_ca (goodIn_ca (goodIn_ca (goodIn_ca (goodIn_s _ [(7, 10), (6, 1), (17, 110)] rfl (by decide +kernel)) gt_wsX11_minute_wsX10) gt_wsX11_minute_wsX00) gt_wsX11_minute_wsX30) gt_wsX11_minute_wsX40) gt_wsX11_minute_wsX60) gt_wsX11_minute_wsX70) gt_wsX11_minute_wsX80) gt_wsX11_minute_wsX100) gt_wsX11_minute_wsX20
set_option maxRecDepth 20000 in
theorem gX11_minute_X1_goesMinute : GoodIn wsX11_minute (wsV RX11 180 RX1 yX1_goesMinute wsX1_goesMinute) := goodIn_app (goodIn_of _ (by decide +kernel)) ggX11_minute_X1_goesMinute
theorem dX11_minute_0 : decode cX11_minute 0 = .ok (.aload_n 0, 1) := o_42 (by decide +kernel)
theorem dX11_minute_1 : decode cX11_minute 1 = .ok (.getfield 12, 3) := o_180 (by decide +kernel)
theorem dX11_minute_4 : decode cX11_minute 4 = .ok (.getfield 165, 3) := o_180 (by decide +kernel)
theorem dX11_minute_7 : decode cX11_minute 7 = .ok (.sipush 9999, 3) := o_17 (by decide +kernel)
theorem dX11_minute_10 : decode cX11_minute 10 = .ok (.if_icmp .lt 8, 3) := o_161 (by decide +kernel)
theorem dX11_minute_13 : decode cX11_minute 13 = .ok (.bipush (-3), 2) := o_16 (by decide +kernel)
theorem dX11_minute_15 : decode cX11_minute 15 = .ok (.goto 10, 3) := o_167 (by decide +kernel)
theorem dX11_minute_18 : decode cX11_minute 18 = .ok (.aload_n 0, 1) := o_42 (by decide +kernel)
theorem dX11_minute_19 : decode cX11_minute 19 = .ok (.getfield 12, 3) := o_180 (by decide +kernel)
theorem dX11_minute_22 : decode cX11_minute 22 = .ok (.invokevirtual 180, 3) := o_182 (by decide +kernel)
theorem dX11_minute_25 : decode cX11_minute 25 = .ok (.ireturn, 1) := o_172 (by decide +kernel)
theorem gt_wsX11_whet_wsX10 : GoodIn wsX11_whet wsX10 := fun w h => ⟨List.mem_cons_of_mem _ (List.mem_append_right _ h), good_of_word (gq_wsX10 w h)⟩
set_option maxRecDepth 20000 in
theorem ggX11_whet_X1_whetsAll : GoodIn wsX11_whet wsX1_whetsAll := goodIn_ca (goodIn_s _ [(7, 6), (6, 1), (13, 8)] rfl (by decide +kernel)) gt_wsX11_whet_wsX10
set_option maxRecDepth 20000 in
theorem gX11_whet_X1_whetsAll : GoodIn wsX11_whet (wsV RX11 183 RX1 yX1_whetsAll wsX1_whetsAll) := goodIn_app (goodIn_of _ (by decide +kernel)) ggX11_whet_X1_whetsAll
theorem dX11_whet_0 : decode cX11_whet 0 = .ok (.aload_n 0, 1) := o_42 (by decide +kernel)
theorem dX11_whet_1 : decode cX11_whet 1 = .ok (.getfield 12, 3) := o_180 (by decide +kernel)
theorem dX11_whet_4 : decode cX11_whet 4 = .ok (.getfield 165, 3) := o_180 (by decide +kernel)
theorem dX11_whet_7 : decode cX11_whet 7 = .ok (.sipush 9999, 3) := o_17 (by decide +kernel)
theorem dX11_whet_10 : decode cX11_whet 10 = .ok (.if_icmp .lt 6, 3) := o_161 (by decide +kernel)
theorem dX11_whet_13 : decode cX11_whet 13 = .ok (.bipush (-3), 2) := o_16 (by decide +kernel)
theorem dX11_whet_15 : decode cX11_whet 15 = .ok (.ireturn, 1) := o_172 (by decide +kernel)
theorem dX11_whet_16 : decode cX11_whet 16 = .ok (.aload_n 0, 1) := o_42 (by decide +kernel)
theorem dX11_whet_17 : decode cX11_whet 17 = .ok (.getfield 12, 3) := o_180 (by decide +kernel)
theorem dX11_whet_20 : decode cX11_whet 20 = .ok (.invokevirtual 183, 3) := o_182 (by decide +kernel)
theorem dX11_whet_23 : decode cX11_whet 23 = .ok (.aload_n 0, 1) := o_42 (by decide +kernel)
theorem dX11_whet_24 : decode cX11_whet 24 = .ok (.getfield 12, 3) := o_180 (by decide +kernel)
theorem dX11_whet_27 : decode cX11_whet 27 = .ok (.getfield 165, 3) := o_180 (by decide +kernel)
theorem dX11_whet_30 : decode cX11_whet 30 = .ok (.ireturn, 1) := o_172 (by decide +kernel)
theorem gt_wsX11_pause_wsX10 : GoodIn wsX11_pause wsX10 := fun w h => ⟨List.mem_cons_of_mem _ (List.mem_append_right _ h), good_of_word (gq_wsX10 w h)⟩
set_option maxRecDepth 20000 in
theorem ggX11_pause_X1_rests : GoodIn wsX11_pause wsX1_rests := goodIn_ca (goodIn_s _ [(7, 4), (6, 1), (11, 9)] rfl (by decide +kernel)) gt_wsX11_pause_wsX10
set_option maxRecDepth 20000 in
theorem gX11_pause_X1_rests : GoodIn wsX11_pause (wsV RX11 186 RX1 yX1_rests wsX1_rests) := goodIn_app (goodIn_of _ (by decide +kernel)) ggX11_pause_X1_rests
theorem dX11_pause_0 : decode cX11_pause 0 = .ok (.iload_n 1, 1) := o_27 (by decide +kernel)
theorem dX11_pause_1 : decode cX11_pause 1 = .ok (.iconst 1, 1) := o_4 (by decide +kernel)
theorem dX11_pause_2 : decode cX11_pause 2 = .ok (.if_icmp .lt 9, 3) := o_161 (by decide +kernel)
theorem dX11_pause_5 : decode cX11_pause 5 = .ok (.iload_n 1, 1) := o_27 (by decide +kernel)
theorem dX11_pause_6 : decode cX11_pause 6 = .ok (.bipush 60, 2) := o_16 (by decide +kernel)
theorem dX11_pause_8 : decode cX11_pause 8 = .ok (.if_icmp .le 6, 3) := o_164 (by decide +kernel)
theorem dX11_pause_11 : decode cX11_pause 11 = .ok (.bipush (-2), 2) := o_16 (by decide +kernel)
theorem dX11_pause_13 : decode cX11_pause 13 = .ok (.ireturn, 1) := o_172 (by decide +kernel)
theorem dX11_pause_14 : decode cX11_pause 14 = .ok (.aload_n 0, 1) := o_42 (by decide +kernel)
theorem dX11_pause_15 : decode cX11_pause 15 = .ok (.getfield 12, 3) := o_180 (by decide +kernel)
theorem dX11_pause_18 : decode cX11_pause 18 = .ok (.getfield 165, 3) := o_180 (by decide +kernel)
theorem dX11_pause_21 : decode cX11_pause 21 = .ok (.iload_n 1, 1) := o_27 (by decide +kernel)
theorem dX11_pause_22 : decode cX11_pause 22 = .ok (.iadd, 1) := o_96 (by decide +kernel)
theorem dX11_pause_23 : decode cX11_pause 23 = .ok (.sipush 9999, 3) := o_17 (by decide +kernel)
theorem dX11_pause_26 : decode cX11_pause 26 = .ok (.if_icmp .le 6, 3) := o_164 (by decide +kernel)
theorem dX11_pause_29 : decode cX11_pause 29 = .ok (.bipush (-3), 2) := o_16 (by decide +kernel)
theorem dX11_pause_31 : decode cX11_pause 31 = .ok (.ireturn, 1) := o_172 (by decide +kernel)
theorem dX11_pause_32 : decode cX11_pause 32 = .ok (.aload_n 0, 1) := o_42 (by decide +kernel)
theorem dX11_pause_33 : decode cX11_pause 33 = .ok (.getfield 12, 3) := o_180 (by decide +kernel)
theorem dX11_pause_36 : decode cX11_pause 36 = .ok (.iload_n 1, 1) := o_27 (by decide +kernel)
theorem dX11_pause_37 : decode cX11_pause 37 = .ok (.invokevirtual 186, 3) := o_182 (by decide +kernel)
theorem dX11_pause_40 : decode cX11_pause 40 = .ok (.aload_n 0, 1) := o_42 (by decide +kernel)
theorem dX11_pause_41 : decode cX11_pause 41 = .ok (.getfield 12, 3) := o_180 (by decide +kernel)
theorem dX11_pause_44 : decode cX11_pause 44 = .ok (.getfield 165, 3) := o_180 (by decide +kernel)
theorem dX11_pause_47 : decode cX11_pause 47 = .ok (.ireturn, 1) := o_172 (by decide +kernel)
theorem gt_wsX11_on_wsX110 : GoodIn wsX11_on wsX110 := fun w h => ⟨List.mem_cons_of_mem _ (List.mem_append_left _ (List.mem_append_left _ (List.mem_append_left _ (List.mem_append_left _ (List.mem_append_left _ (List.mem_append_left _ (List.mem_append_left _ (List.mem_append_left _ (List.mem_append_left _ (List.mem_append_right _ h)))))))))), good_of_word (gq_wsX110 w h)⟩
theorem gt_wsX11_on_wsX10 : GoodIn wsX11_on wsX10 := fun w h => ⟨List.mem_cons_of_mem _ (List.mem_append_left _ (List.mem_append_left _ (List.mem_append_left _ (List.mem_append_left _ (List.mem_append_left _ (List.mem_append_left _ (List.mem_append_left _ (List.mem_append_left _ (List.mem_append_right _ h))))))))), good_of_word (gq_wsX10 w h)⟩
set_option maxRecDepth 20000 in
theorem ggX11_on_X11_isMower : GoodIn wsX11_on wsX11_isMower := goodIn_ca (goodIn_ca (goodIn_s _ [(8, 1), (2, 1), (9, 1)] rfl (by decide +kernel)) gt_wsX11_on_wsX110) gt_wsX11_on_wsX10
set_option maxRecDepth 20000 in
theorem gX11_on_X11_isMower : GoodIn wsX11_on (wsV RX11 110 RX11 yX11_isMower wsX11_isMower) := goodIn_app (goodIn_of _ (by decide +kernel)) ggX11_on_X11_isMower
set_option maxRecDepth 20000 in
theorem ggX11_on_X1_becomes : GoodIn wsX11_on wsX1_becomes := goodIn_ca (goodIn_s _ [(14, 17)] rfl (by decide +kernel)) gt_wsX11_on_wsX10
set_option maxRecDepth 20000 in
theorem gX11_on_X1_becomes : GoodIn wsX11_on (wsV RX11 189 RX1 yX1_becomes wsX1_becomes) := goodIn_app (goodIn_of _ (by decide +kernel)) ggX11_on_X1_becomes
theorem gt_wsX11_on_wsX00 : GoodIn wsX11_on wsX00 := fun w h => ⟨List.mem_cons_of_mem _ (List.mem_append_left _ (List.mem_append_left _ (List.mem_append_left _ (List.mem_append_left _ (List.mem_append_left _ (List.mem_append_left _ (List.mem_append_left _ (List.mem_append_right _ h)))))))), good_of_word (gq_wsX00 w h)⟩
theorem gt_wsX11_on_wsX30 : GoodIn wsX11_on wsX30 := fun w h => ⟨List.mem_cons_of_mem _ (List.mem_append_left _ (List.mem_append_left _ (List.mem_append_left _ (List.mem_append_left _ (List.mem_append_left _ (List.mem_append_left _ (List.mem_append_right _ h))))))), good_of_word (gq_wsX30 w h)⟩
theorem gt_wsX11_on_wsX40 : GoodIn wsX11_on wsX40 := fun w h => ⟨List.mem_cons_of_mem _ (List.mem_append_left _ (List.mem_append_left _ (List.mem_append_left _ (List.mem_append_left _ (List.mem_append_left _ (List.mem_append_right _ h)))))), good_of_word (gq_wsX40 w h)⟩
theorem gt_wsX11_on_wsX60 : GoodIn wsX11_on wsX60 := fun w h => ⟨List.mem_cons_of_mem _ (List.mem_append_left _ (List.mem_append_left _ (List.mem_append_left _ (List.mem_append_left _ (List.mem_append_right _ h))))), good_of_word (gq_wsX60 w h)⟩
theorem gt_wsX11_on_wsX70 : GoodIn wsX11_on wsX70 := fun w h => ⟨List.mem_cons_of_mem _ (List.mem_append_left _ (List.mem_append_left _ (List.mem_append_left _ (List.mem_append_right _ h)))), good_of_word (gq_wsX70 w h)⟩
theorem gt_wsX11_on_wsX80 : GoodIn wsX11_on wsX80 := fun w h => ⟨List.mem_cons_of_mem _ (List.mem_append_left _ (List.mem_append_left _ (List.mem_append_right _ h))), good_of_word (gq_wsX80 w h)⟩
theorem gt_wsX11_on_wsX100 : GoodIn wsX11_on wsX100 := fun w h => ⟨List.mem_cons_of_mem _ (List.mem_append_left _ (List.mem_append_right _ h)), good_of_word (gq_wsX100 w h)⟩
theorem gt_wsX11_on_wsX20 : GoodIn wsX11_on wsX20 := fun w h => ⟨List.mem_cons_of_mem _ (List.mem_append_right _ h), good_of_word (gq_wsX20 w h)⟩
set_option maxRecDepth 20000 in
theorem ggX11_on_X11_heldTimes : GoodIn wsX11_on wsX11_heldTimes := goodIn_ca (goodIn_ca (goodIn_ca (goodIn_ca (goodIn_ca (goodIn_ca (goodIn_ca (goodIn_ca (goodIn_ca (goodIn_ca (goodIn_s _ [(34, 1), (1, 1), (35, 3), (13, 1), (38, 1), (16, 1), (39, 1), (21, 1), (25, 1), (22, 1), (17, 1), (40, 4), (20, 1), (23, 1), (44, 6), (24, 1), (18, 1), (50, 69), (19, 1), (119, 29)] rfl (by decide +kernel)) gt_wsX11_on_wsX110) gt_wsX11_on_wsX10) gt_wsX11_on_wsX00) gt_wsX11_on_wsX30) gt_wsX11_on_wsX40) gt_wsX11_on_wsX60) gt_wsX11_on_wsX70) gt_wsX11_on_wsX80) gt_wsX11_on_wsX100) gt_wsX11_on_wsX20
set_option maxRecDepth 20000 in
theorem gX11_on_X11_heldTimes : GoodIn wsX11_on (wsV RX11 193 RX11 yX11_heldTimes wsX11_heldTimes) := goodIn_app (goodIn_of _ (by decide +kernel)) ggX11_on_X11_heldTimes
set_option maxRecDepth 20000 in
theorem ggX11_on_X1_goes : GoodIn wsX11_on wsX1_goes := goodIn_ca (goodIn_ca (goodIn_ca (goodIn_ca (goodIn_ca (goodIn_ca (goodIn_ca (goodIn_ca (goodIn_ca (goodIn_s _ [(151, 2), (36, 2), (13, 1), (38, 1), (16, 1), (39, 1), (21, 1), (25, 1), (22, 1), (17, 1), (40, 4), (20, 1), (23, 1), (44, 6), (24, 1), (18, 1), (50, 69), (19, 1), (119, 29)] rfl (by decide +kernel)) gt_wsX11_on_wsX10) gt_wsX11_on_wsX00) gt_wsX11_on_wsX30) gt_wsX11_on_wsX40) gt_wsX11_on_wsX60) gt_wsX11_on_wsX70) gt_wsX11_on_wsX80) gt_wsX11_on_wsX100) gt_wsX11_on_wsX20
set_option maxRecDepth 20000 in
theorem gX11_on_X1_goes : GoodIn wsX11_on (wsV RX11 196 RX1 yX1_goes wsX1_goes) := goodIn_app (goodIn_of _ (by decide +kernel)) ggX11_on_X1_goes
set_option maxRecDepth 20000 in
theorem ggX11_on_X1_allAt : GoodIn wsX11_on wsX1_allAt := goodIn_ca (goodIn_s _ [(156, 1), (15, 1), (22, 1)] rfl (by decide +kernel)) gt_wsX11_on_wsX10
set_option maxRecDepth 20000 in
theorem gX11_on_X1_allAt : GoodIn wsX11_on (wsV RX11 199 RX1 yX1_allAt wsX1_allAt) := goodIn_app (goodIn_of _ (by decide +kernel)) ggX11_on_X1_allAt
theorem dX11_on_0 : decode cX11_on 0 = .ok (.iload_n 2, 1) := o_28 (by decide +kernel)
theorem dX11_on_1 : decode cX11_on 1 = .ok (.bipush 10, 2) := o_16 (by decide +kernel)
theorem dX11_on_3 : decode cX11_on 3 = .ok (.if_icmp .lt 18, 3) := o_161 (by decide +kernel)
theorem dX11_on_6 : decode cX11_on 6 = .ok (.aload_n 0, 1) := o_42 (by decide +kernel)
theorem dX11_on_7 : decode cX11_on 7 = .ok (.iload_n 2, 1) := o_28 (by decide +kernel)
theorem dX11_on_8 : decode cX11_on 8 = .ok (.bipush 10, 2) := o_16 (by decide +kernel)
theorem dX11_on_10 : decode cX11_on 10 = .ok (.isub, 1) := o_100 (by decide +kernel)
theorem dX11_on_11 : decode cX11_on 11 = .ok (.invokevirtual 110, 3) := o_182 (by decide +kernel)
theorem dX11_on_14 : decode cX11_on 14 = .ok (.ifCond .eq 7, 3) := o_153 (by decide +kernel)
theorem dX11_on_17 : decode cX11_on 17 = .ok (.iconst 1, 1) := o_4 (by decide +kernel)
theorem dX11_on_18 : decode cX11_on 18 = .ok (.goto 4, 3) := o_167 (by decide +kernel)
theorem dX11_on_21 : decode cX11_on 21 = .ok (.iconst 0, 1) := o_3 (by decide +kernel)
theorem dX11_on_22 : decode cX11_on 22 = .ok (.istore_n 3, 1) := o_62 (by decide +kernel)
theorem dX11_on_23 : decode cX11_on 23 = .ok (.iload_n 2, 1) := o_28 (by decide +kernel)
theorem dX11_on_24 : decode cX11_on 24 = .ok (.bipush 20, 2) := o_16 (by decide +kernel)
theorem dX11_on_26 : decode cX11_on 26 = .ok (.if_icmp .lt 18, 3) := o_161 (by decide +kernel)
theorem dX11_on_29 : decode cX11_on 29 = .ok (.aload_n 0, 1) := o_42 (by decide +kernel)
theorem dX11_on_30 : decode cX11_on 30 = .ok (.iload_n 2, 1) := o_28 (by decide +kernel)
theorem dX11_on_31 : decode cX11_on 31 = .ok (.bipush 20, 2) := o_16 (by decide +kernel)
theorem dX11_on_33 : decode cX11_on 33 = .ok (.isub, 1) := o_100 (by decide +kernel)
theorem dX11_on_34 : decode cX11_on 34 = .ok (.invokevirtual 110, 3) := o_182 (by decide +kernel)
theorem dX11_on_37 : decode cX11_on 37 = .ok (.ifCond .eq 7, 3) := o_153 (by decide +kernel)
theorem dX11_on_40 : decode cX11_on 40 = .ok (.iconst 1, 1) := o_4 (by decide +kernel)
theorem dX11_on_41 : decode cX11_on 41 = .ok (.goto 4, 3) := o_167 (by decide +kernel)
theorem dX11_on_44 : decode cX11_on 44 = .ok (.iconst 0, 1) := o_3 (by decide +kernel)
theorem dX11_on_45 : decode cX11_on 45 = .ok (.istore 4, 2) := o_54 (by decide +kernel)
theorem dX11_on_47 : decode cX11_on 47 = .ok (.iload_n 2, 1) := o_28 (by decide +kernel)
theorem dX11_on_48 : decode cX11_on 48 = .ok (.ifCond .eq 14, 3) := o_153 (by decide +kernel)
theorem dX11_on_51 : decode cX11_on 51 = .ok (.iload_n 3, 1) := o_29 (by decide +kernel)
theorem dX11_on_52 : decode cX11_on 52 = .ok (.ifCond .ne 10, 3) := o_154 (by decide +kernel)
theorem dX11_on_55 : decode cX11_on 55 = .ok (.iload 4, 2) := o_21 (by decide +kernel)
theorem dX11_on_57 : decode cX11_on 57 = .ok (.ifCond .ne 5, 3) := o_154 (by decide +kernel)
theorem dX11_on_60 : decode cX11_on 60 = .ok (.iconst (-1), 1) := o_2 (by decide +kernel)
theorem dX11_on_61 : decode cX11_on 61 = .ok (.ireturn, 1) := o_172 (by decide +kernel)
theorem dX11_on_62 : decode cX11_on 62 = .ok (.iload_n 1, 1) := o_27 (by decide +kernel)
theorem dX11_on_63 : decode cX11_on 63 = .ok (.ifCond .lt 9, 3) := o_155 (by decide +kernel)
theorem dX11_on_66 : decode cX11_on 66 = .ok (.iload_n 1, 1) := o_27 (by decide +kernel)
theorem dX11_on_67 : decode cX11_on 67 = .ok (.bipush 60, 2) := o_16 (by decide +kernel)
theorem dX11_on_69 : decode cX11_on 69 = .ok (.if_icmp .le 6, 3) := o_164 (by decide +kernel)
theorem dX11_on_72 : decode cX11_on 72 = .ok (.bipush (-2), 2) := o_16 (by decide +kernel)
theorem dX11_on_74 : decode cX11_on 74 = .ok (.ireturn, 1) := o_172 (by decide +kernel)
theorem dX11_on_75 : decode cX11_on 75 = .ok (.aload_n 0, 1) := o_42 (by decide +kernel)
theorem dX11_on_76 : decode cX11_on 76 = .ok (.getfield 21, 3) := o_180 (by decide +kernel)
theorem dX11_on_79 : decode cX11_on 79 = .ok (.aload_n 0, 1) := o_42 (by decide +kernel)
theorem dX11_on_80 : decode cX11_on 80 = .ok (.getfield 12, 3) := o_180 (by decide +kernel)
theorem dX11_on_83 : decode cX11_on 83 = .ok (.invokevirtual 189, 3) := o_182 (by decide +kernel)
theorem dX11_on_86 : decode cX11_on 86 = .ok (.iload 4, 2) := o_21 (by decide +kernel)
theorem dX11_on_88 : decode cX11_on 88 = .ok (.ifCond .eq 13, 3) := o_153 (by decide +kernel)
theorem dX11_on_91 : decode cX11_on 91 = .ok (.aload_n 0, 1) := o_42 (by decide +kernel)
theorem dX11_on_92 : decode cX11_on 92 = .ok (.iload_n 2, 1) := o_28 (by decide +kernel)
theorem dX11_on_93 : decode cX11_on 93 = .ok (.bipush 20, 2) := o_16 (by decide +kernel)
theorem dX11_on_95 : decode cX11_on 95 = .ok (.isub, 1) := o_100 (by decide +kernel)
theorem dX11_on_96 : decode cX11_on 96 = .ok (.iload_n 1, 1) := o_27 (by decide +kernel)
theorem dX11_on_97 : decode cX11_on 97 = .ok (.invokevirtual 193, 3) := o_182 (by decide +kernel)
theorem dX11_on_100 : decode cX11_on 100 = .ok (.ireturn, 1) := o_172 (by decide +kernel)
theorem dX11_on_101 : decode cX11_on 101 = .ok (.aload_n 0, 1) := o_42 (by decide +kernel)
theorem dX11_on_102 : decode cX11_on 102 = .ok (.getfield 21, 3) := o_180 (by decide +kernel)
theorem dX11_on_105 : decode cX11_on 105 = .ok (.iload_n 1, 1) := o_27 (by decide +kernel)
theorem dX11_on_106 : decode cX11_on 106 = .ok (.invokevirtual 196, 3) := o_182 (by decide +kernel)
theorem dX11_on_109 : decode cX11_on 109 = .ok (.iload_n 3, 1) := o_29 (by decide +kernel)
theorem dX11_on_110 : decode cX11_on 110 = .ok (.ifCond .eq 18, 3) := o_153 (by decide +kernel)
theorem dX11_on_113 : decode cX11_on 113 = .ok (.aload_n 0, 1) := o_42 (by decide +kernel)
theorem dX11_on_114 : decode cX11_on 114 = .ok (.getfield 21, 3) := o_180 (by decide +kernel)
theorem dX11_on_117 : decode cX11_on 117 = .ok (.getfield 124, 3) := o_180 (by decide +kernel)
theorem dX11_on_120 : decode cX11_on 120 = .ok (.iload_n 2, 1) := o_28 (by decide +kernel)
theorem dX11_on_121 : decode cX11_on 121 = .ok (.bipush 10, 2) := o_16 (by decide +kernel)
theorem dX11_on_123 : decode cX11_on 123 = .ok (.isub, 1) := o_100 (by decide +kernel)
theorem dX11_on_124 : decode cX11_on 124 = .ok (.iaload, 1) := o_46 (by decide +kernel)
theorem dX11_on_125 : decode cX11_on 125 = .ok (.goto 10, 3) := o_167 (by decide +kernel)
theorem dX11_on_128 : decode cX11_on 128 = .ok (.aload_n 0, 1) := o_42 (by decide +kernel)
theorem dX11_on_129 : decode cX11_on 129 = .ok (.getfield 21, 3) := o_180 (by decide +kernel)
theorem dX11_on_132 : decode cX11_on 132 = .ok (.invokevirtual 199, 3) := o_182 (by decide +kernel)
theorem dX11_on_135 : decode cX11_on 135 = .ok (.ireturn, 1) := o_172 (by decide +kernel)
theorem gt_wsX11_heldTimes_wsX10 : GoodIn wsX11_heldTimes wsX10 := fun w h => ⟨List.mem_cons_of_mem _ (List.mem_append_left _ (List.mem_append_left _ (List.mem_append_left _ (List.mem_append_left _ (List.mem_append_left _ (List.mem_append_left _ (List.mem_append_left _ (List.mem_append_left _ (List.mem_append_right _ h))))))))), good_of_word (gq_wsX10 w h)⟩
theorem gt_wsX11_heldTimes_wsX00 : GoodIn wsX11_heldTimes wsX00 := fun w h => ⟨List.mem_cons_of_mem _ (List.mem_append_left _ (List.mem_append_left _ (List.mem_append_left _ (List.mem_append_left _ (List.mem_append_left _ (List.mem_append_left _ (List.mem_append_left _ (List.mem_append_right _ h)))))))), good_of_word (gq_wsX00 w h)⟩
theorem gt_wsX11_heldTimes_wsX30 : GoodIn wsX11_heldTimes wsX30 := fun w h => ⟨List.mem_cons_of_mem _ (List.mem_append_left _ (List.mem_append_left _ (List.mem_append_left _ (List.mem_append_left _ (List.mem_append_left _ (List.mem_append_left _ (List.mem_append_right _ h))))))), good_of_word (gq_wsX30 w h)⟩
theorem gt_wsX11_heldTimes_wsX40 : GoodIn wsX11_heldTimes wsX40 := fun w h => ⟨List.mem_cons_of_mem _ (List.mem_append_left _ (List.mem_append_left _ (List.mem_append_left _ (List.mem_append_left _ (List.mem_append_left _ (List.mem_append_right _ h)))))), good_of_word (gq_wsX40 w h)⟩
theorem gt_wsX11_heldTimes_wsX60 : GoodIn wsX11_heldTimes wsX60 := fun w h => ⟨List.mem_cons_of_mem _ (List.mem_append_left _ (List.mem_append_left _ (List.mem_append_left _ (List.mem_append_left _ (List.mem_append_right _ h))))), good_of_word (gq_wsX60 w h)⟩
theorem gt_wsX11_heldTimes_wsX70 : GoodIn wsX11_heldTimes wsX70 := fun w h => ⟨List.mem_cons_of_mem _ (List.mem_append_left _ (List.mem_append_left _ (List.mem_append_left _ (List.mem_append_right _ h)))), good_of_word (gq_wsX70 w h)⟩
theorem gt_wsX11_heldTimes_wsX80 : GoodIn wsX11_heldTimes wsX80 := fun w h => ⟨List.mem_cons_of_mem _ (List.mem_append_left _ (List.mem_append_left _ (List.mem_append_right _ h))), good_of_word (gq_wsX80 w h)⟩
theorem gt_wsX11_heldTimes_wsX100 : GoodIn wsX11_heldTimes wsX100 := fun w h => ⟨List.mem_cons_of_mem _ (List.mem_append_left _ (List.mem_append_right _ h)), good_of_word (gq_wsX100 w h)⟩
theorem gt_wsX11_heldTimes_wsX20 : GoodIn wsX11_heldTimes wsX20 := fun w h => ⟨List.mem_cons_of_mem _ (List.mem_append_right _ h), good_of_word (gq_wsX20 w h)⟩
set_option maxRecDepth 20000 in
theorem ggX11_heldTimes_X1_goesMinute : GoodIn wsX11_heldTimes wsX1_goesMinute := goodIn_ca (goodIn_ca (goodIn_ca (goodIn_ca (goodIn_ca (goodIn_ca (goodIn_ca (goodIn_ca (goodIn_ca (goodIn_s _ [(6, 10), (5, 1), (16, 110)] rfl (by decide +kernel)) gt_wsX11_heldTimes_wsX10) gt_wsX11_heldTimes_wsX00) gt_wsX11_heldTimes_wsX30) gt_wsX11_heldTimes_wsX40) gt_wsX11_heldTimes_wsX60) gt_wsX11_heldTimes_wsX70) gt_wsX11_heldTimes_wsX80) gt_wsX11_heldTimes_wsX100) gt_wsX11_heldTimes_wsX20
set_option maxRecDepth 20000 in
theorem gX11_heldTimes_X1_goesMinute : GoodIn wsX11_heldTimes (wsV RX11 180 RX1 yX1_goesMinute wsX1_goesMinute) := goodIn_app (goodIn_of _ (by decide +kernel)) ggX11_heldTimes_X1_goesMinute
theorem dX11_heldTimes_0 : decode cX11_heldTimes 0 = .ok (.iconst 0, 1) := o_3 (by decide +kernel)
theorem dX11_heldTimes_1 : decode cX11_heldTimes 1 = .ok (.istore_n 3, 1) := o_62 (by decide +kernel)
theorem dX11_heldTimes_2 : decode cX11_heldTimes 2 = .ok (.iconst 0, 1) := o_3 (by decide +kernel)
theorem dX11_heldTimes_3 : decode cX11_heldTimes 3 = .ok (.istore 4, 2) := o_54 (by decide +kernel)
theorem dX11_heldTimes_5 : decode cX11_heldTimes 5 = .ok (.iload 4, 2) := o_21 (by decide +kernel)
theorem dX11_heldTimes_7 : decode cX11_heldTimes 7 = .ok (.iload_n 2, 1) := o_28 (by decide +kernel)
theorem dX11_heldTimes_8 : decode cX11_heldTimes 8 = .ok (.if_icmp .ge 23, 3) := o_162 (by decide +kernel)
theorem dX11_heldTimes_11 : decode cX11_heldTimes 11 = .ok (.iload_n 3, 1) := o_29 (by decide +kernel)
theorem dX11_heldTimes_12 : decode cX11_heldTimes 12 = .ok (.aload_n 0, 1) := o_42 (by decide +kernel)
theorem dX11_heldTimes_13 : decode cX11_heldTimes 13 = .ok (.getfield 21, 3) := o_180 (by decide +kernel)
theorem dX11_heldTimes_16 : decode cX11_heldTimes 16 = .ok (.invokevirtual 180, 3) := o_182 (by decide +kernel)
theorem dX11_heldTimes_19 : decode cX11_heldTimes 19 = .ok (.iload_n 1, 1) := o_27 (by decide +kernel)
theorem dX11_heldTimes_20 : decode cX11_heldTimes 20 = .ok (.ishr, 1) := o_122 (by decide +kernel)
theorem dX11_heldTimes_21 : decode cX11_heldTimes 21 = .ok (.iconst 1, 1) := o_4 (by decide +kernel)
theorem dX11_heldTimes_22 : decode cX11_heldTimes 22 = .ok (.iand, 1) := o_126 (by decide +kernel)
theorem dX11_heldTimes_23 : decode cX11_heldTimes 23 = .ok (.iadd, 1) := o_96 (by decide +kernel)
theorem dX11_heldTimes_24 : decode cX11_heldTimes 24 = .ok (.istore_n 3, 1) := o_62 (by decide +kernel)
theorem dX11_heldTimes_25 : decode cX11_heldTimes 25 = .ok (.iinc 4 1, 3) := o_132 (by decide +kernel)
theorem dX11_heldTimes_28 : decode cX11_heldTimes 28 = .ok (.goto (-23), 3) := o_167 (by decide +kernel)
theorem dX11_heldTimes_31 : decode cX11_heldTimes 31 = .ok (.iload_n 3, 1) := o_29 (by decide +kernel)
theorem dX11_heldTimes_32 : decode cX11_heldTimes 32 = .ok (.ireturn, 1) := o_172 (by decide +kernel)
theorem gt_wsX11_done_wsX10 : GoodIn wsX11_done wsX10 := fun w h => ⟨List.mem_cons_of_mem _ (List.mem_append_left _ (List.mem_append_left _ (List.mem_append_left _ (List.mem_append_left _ (List.mem_append_left _ (List.mem_append_left _ (List.mem_append_left _ (List.mem_append_left _ (List.mem_append_right _ h))))))))), good_of_word (gq_wsX10 w h)⟩
set_option maxRecDepth 20000 in
theorem ggX11_done_X1_becomes : GoodIn wsX11_done wsX1_becomes := goodIn_ca (goodIn_s _ [(7, 17)] rfl (by decide +kernel)) gt_wsX11_done_wsX10
set_option maxRecDepth 20000 in
theorem gX11_done_X1_becomes : GoodIn wsX11_done (wsV RX11 189 RX1 yX1_becomes wsX1_becomes) := goodIn_app (goodIn_of _ (by decide +kernel)) ggX11_done_X1_becomes
theorem gt_wsX11_done_wsX20 : GoodIn wsX11_done wsX20 := fun w h => ⟨List.mem_cons_of_mem _ (List.mem_append_left _ (List.mem_append_left _ (List.mem_append_left _ (List.mem_append_left _ (List.mem_append_left _ (List.mem_append_left _ (List.mem_append_left _ (List.mem_append_right _ h)))))))), good_of_word (gq_wsX20 w h)⟩
set_option maxRecDepth 20000 in
theorem ggX11_done_X1_isDone : GoodIn wsX11_done wsX1_isDone := goodIn_ca (goodIn_ca (goodIn_s _ [(27, 1), (8, 1), (15, 1), (11, 1), (28, 1)] rfl (by decide +kernel)) gt_wsX11_done_wsX10) gt_wsX11_done_wsX20
set_option maxRecDepth 20000 in
theorem gX11_done_X1_isDone : GoodIn wsX11_done (wsV RX11 202 RX1 yX1_isDone wsX1_isDone) := goodIn_app (goodIn_of _ (by decide +kernel)) ggX11_done_X1_isDone
theorem gt_wsX11_done_wsX00 : GoodIn wsX11_done wsX00 := fun w h => ⟨List.mem_cons_of_mem _ (List.mem_append_left _ (List.mem_append_left _ (List.mem_append_left _ (List.mem_append_left _ (List.mem_append_left _ (List.mem_append_left _ (List.mem_append_right _ h))))))), good_of_word (gq_wsX00 w h)⟩
theorem gt_wsX11_done_wsX30 : GoodIn wsX11_done wsX30 := fun w h => ⟨List.mem_cons_of_mem _ (List.mem_append_left _ (List.mem_append_left _ (List.mem_append_left _ (List.mem_append_left _ (List.mem_append_left _ (List.mem_append_right _ h)))))), good_of_word (gq_wsX30 w h)⟩
theorem gt_wsX11_done_wsX40 : GoodIn wsX11_done wsX40 := fun w h => ⟨List.mem_cons_of_mem _ (List.mem_append_left _ (List.mem_append_left _ (List.mem_append_left _ (List.mem_append_left _ (List.mem_append_right _ h))))), good_of_word (gq_wsX40 w h)⟩
theorem gt_wsX11_done_wsX60 : GoodIn wsX11_done wsX60 := fun w h => ⟨List.mem_cons_of_mem _ (List.mem_append_left _ (List.mem_append_left _ (List.mem_append_left _ (List.mem_append_right _ h)))), good_of_word (gq_wsX60 w h)⟩
theorem gt_wsX11_done_wsX70 : GoodIn wsX11_done wsX70 := fun w h => ⟨List.mem_cons_of_mem _ (List.mem_append_left _ (List.mem_append_left _ (List.mem_append_right _ h))), good_of_word (gq_wsX70 w h)⟩
theorem gt_wsX11_done_wsX80 : GoodIn wsX11_done wsX80 := fun w h => ⟨List.mem_cons_of_mem _ (List.mem_append_left _ (List.mem_append_right _ h)), good_of_word (gq_wsX80 w h)⟩
theorem gt_wsX11_done_wsX100 : GoodIn wsX11_done wsX100 := fun w h => ⟨List.mem_cons_of_mem _ (List.mem_append_right _ h), good_of_word (gq_wsX100 w h)⟩
set_option maxRecDepth 20000 in
theorem ggX11_done_X1_goesMinute : GoodIn wsX11_done wsX1_goesMinute := goodIn_ca (goodIn_ca (goodIn_ca (goodIn_ca (goodIn_ca (goodIn_ca (goodIn_ca (goodIn_ca (goodIn_ca (goodIn_s _ [(32, 1), (9, 1), (33, 1), (14, 1), (18, 1), (15, 1), (10, 1), (34, 3), (6, 1), (37, 1), (13, 1), (16, 1), (38, 6), (17, 1), (11, 1), (44, 69), (12, 1), (113, 29)] rfl (by decide +kernel)) gt_wsX11_done_wsX10) gt_wsX11_done_wsX00) gt_wsX11_done_wsX30) gt_wsX11_done_wsX40) gt_wsX11_done_wsX60) gt_wsX11_done_wsX70) gt_wsX11_done_wsX80) gt_wsX11_done_wsX100) gt_wsX11_done_wsX20
set_option maxRecDepth 20000 in
theorem gX11_done_X1_goesMinute : GoodIn wsX11_done (wsV RX11 180 RX1 yX1_goesMinute wsX1_goesMinute) := goodIn_app (goodIn_of _ (by decide +kernel)) ggX11_done_X1_goesMinute
theorem dX11_done_0 : decode cX11_done 0 = .ok (.aload_n 0, 1) := o_42 (by decide +kernel)
theorem dX11_done_1 : decode cX11_done 1 = .ok (.getfield 21, 3) := o_180 (by decide +kernel)
theorem dX11_done_4 : decode cX11_done 4 = .ok (.aload_n 0, 1) := o_42 (by decide +kernel)
theorem dX11_done_5 : decode cX11_done 5 = .ok (.getfield 12, 3) := o_180 (by decide +kernel)
theorem dX11_done_8 : decode cX11_done 8 = .ok (.invokevirtual 189, 3) := o_182 (by decide +kernel)
theorem dX11_done_11 : decode cX11_done 11 = .ok (.iconst 0, 1) := o_3 (by decide +kernel)
theorem dX11_done_12 : decode cX11_done 12 = .ok (.istore_n 1, 1) := o_60 (by decide +kernel)
theorem dX11_done_13 : decode cX11_done 13 = .ok (.iload_n 1, 1) := o_27 (by decide +kernel)
theorem dX11_done_14 : decode cX11_done 14 = .ok (.bipush 120, 2) := o_16 (by decide +kernel)
theorem dX11_done_16 : decode cX11_done 16 = .ok (.if_icmp .gt 29, 3) := o_163 (by decide +kernel)
theorem dX11_done_19 : decode cX11_done 19 = .ok (.aload_n 0, 1) := o_42 (by decide +kernel)
theorem dX11_done_20 : decode cX11_done 20 = .ok (.getfield 21, 3) := o_180 (by decide +kernel)
theorem dX11_done_23 : decode cX11_done 23 = .ok (.invokevirtual 202, 3) := o_182 (by decide +kernel)
theorem dX11_done_26 : decode cX11_done 26 = .ok (.ifCond .eq 5, 3) := o_153 (by decide +kernel)
theorem dX11_done_29 : decode cX11_done 29 = .ok (.iload_n 1, 1) := o_27 (by decide +kernel)
theorem dX11_done_30 : decode cX11_done 30 = .ok (.ireturn, 1) := o_172 (by decide +kernel)
theorem dX11_done_31 : decode cX11_done 31 = .ok (.aload_n 0, 1) := o_42 (by decide +kernel)
theorem dX11_done_32 : decode cX11_done 32 = .ok (.getfield 21, 3) := o_180 (by decide +kernel)
theorem dX11_done_35 : decode cX11_done 35 = .ok (.invokevirtual 180, 3) := o_182 (by decide +kernel)
theorem dX11_done_38 : decode cX11_done 38 = .ok (.pop, 1) := o_87 (by decide +kernel)
theorem dX11_done_39 : decode cX11_done 39 = .ok (.iinc 1 1, 3) := o_132 (by decide +kernel)
theorem dX11_done_42 : decode cX11_done 42 = .ok (.goto (-29), 3) := o_167 (by decide +kernel)
theorem dX11_done_45 : decode cX11_done 45 = .ok (.bipush (-5), 2) := o_16 (by decide +kernel)
theorem dX11_done_47 : decode cX11_done 47 = .ok (.ireturn, 1) := o_172 (by decide +kernel)
theorem gt_wsX11_order_wsX110 : GoodIn wsX11_order wsX110 := fun w h => ⟨List.mem_cons_of_mem _ (List.mem_append_left _ (List.mem_append_left _ (List.mem_append_left _ (List.mem_append_left _ (List.mem_append_left _ (List.mem_append_left _ (List.mem_append_left _ (List.mem_append_left _ (List.mem_append_left _ (List.mem_append_right _ h)))))))))), good_of_word (gq_wsX110 w h)⟩
theorem gt_wsX11_order_wsX10 : GoodIn wsX11_order wsX10 := fun w h => ⟨List.mem_cons_of_mem _ (List.mem_append_left _ (List.mem_append_left _ (List.mem_append_left _ (List.mem_append_left _ (List.mem_append_left _ (List.mem_append_left _ (List.mem_append_left _ (List.mem_append_left _ (List.mem_append_right _ h))))))))), good_of_word (gq_wsX10 w h)⟩
theorem gt_wsX11_order_wsX00 : GoodIn wsX11_order wsX00 := fun w h => ⟨List.mem_cons_of_mem _ (List.mem_append_left _ (List.mem_append_left _ (List.mem_append_left _ (List.mem_append_left _ (List.mem_append_left _ (List.mem_append_left _ (List.mem_append_left _ (List.mem_append_right _ h)))))))), good_of_word (gq_wsX00 w h)⟩
theorem gt_wsX11_order_wsX30 : GoodIn wsX11_order wsX30 := fun w h => ⟨List.mem_cons_of_mem _ (List.mem_append_left _ (List.mem_append_left _ (List.mem_append_left _ (List.mem_append_left _ (List.mem_append_left _ (List.mem_append_left _ (List.mem_append_right _ h))))))), good_of_word (gq_wsX30 w h)⟩
theorem gt_wsX11_order_wsX40 : GoodIn wsX11_order wsX40 := fun w h => ⟨List.mem_cons_of_mem _ (List.mem_append_left _ (List.mem_append_left _ (List.mem_append_left _ (List.mem_append_left _ (List.mem_append_left _ (List.mem_append_right _ h)))))), good_of_word (gq_wsX40 w h)⟩
theorem gt_wsX11_order_wsX60 : GoodIn wsX11_order wsX60 := fun w h => ⟨List.mem_cons_of_mem _ (List.mem_append_left _ (List.mem_append_left _ (List.mem_append_left _ (List.mem_append_left _ (List.mem_append_right _ h))))), good_of_word (gq_wsX60 w h)⟩
theorem gt_wsX11_order_wsX70 : GoodIn wsX11_order wsX70 := fun w h => ⟨List.mem_cons_of_mem _ (List.mem_append_left _ (List.mem_append_left _ (List.mem_append_left _ (List.mem_append_right _ h)))), good_of_word (gq_wsX70 w h)⟩
theorem gt_wsX11_order_wsX80 : GoodIn wsX11_order wsX80 := fun w h => ⟨List.mem_cons_of_mem _ (List.mem_append_left _ (List.mem_append_left _ (List.mem_append_right _ h))), good_of_word (gq_wsX80 w h)⟩
theorem gt_wsX11_order_wsX100 : GoodIn wsX11_order wsX100 := fun w h => ⟨List.mem_cons_of_mem _ (List.mem_append_left _ (List.mem_append_right _ h)), good_of_word (gq_wsX100 w h)⟩
theorem gt_wsX11_order_wsX20 : GoodIn wsX11_order wsX20 := fun w h => ⟨List.mem_cons_of_mem _ (List.mem_append_right _ h), good_of_word (gq_wsX20 w h)⟩
set_option maxRecDepth 20000 in
theorem ggX11_order_X11_findsBestOrder : GoodIn wsX11_order wsX11_findsBestOrder := goodIn_ca (goodIn_ca (goodIn_ca (goodIn_ca (goodIn_ca (goodIn_ca (goodIn_ca (goodIn_ca (goodIn_ca (goodIn_ca (goodIn_s _ [(8, 1), (1, 2), (9, 5), (3, 1), (14, 7), (7, 1), (21, 144)] rfl (by decide +kernel)) gt_wsX11_order_wsX110) gt_wsX11_order_wsX10) gt_wsX11_order_wsX00) gt_wsX11_order_wsX30) gt_wsX11_order_wsX40) gt_wsX11_order_wsX60) gt_wsX11_order_wsX70) gt_wsX11_order_wsX80) gt_wsX11_order_wsX100) gt_wsX11_order_wsX20
set_option maxRecDepth 20000 in
theorem gX11_order_X11_findsBestOrder : GoodIn wsX11_order (wsV RX11 206 RX11 yX11_findsBestOrder wsX11_findsBestOrder) := goodIn_app (goodIn_of _ (by decide +kernel)) ggX11_order_X11_findsBestOrder
theorem dX11_order_0 : decode cX11_order 0 = .ok (.iload_n 2, 1) := o_28 (by decide +kernel)
theorem dX11_order_1 : decode cX11_order 1 = .ok (.iconst (-1), 1) := o_2 (by decide +kernel)
theorem dX11_order_2 : decode cX11_order 2 = .ok (.if_icmp .lt 8, 3) := o_161 (by decide +kernel)
theorem dX11_order_5 : decode cX11_order 5 = .ok (.iload_n 2, 1) := o_28 (by decide +kernel)
theorem dX11_order_6 : decode cX11_order 6 = .ok (.iconst 4, 1) := o_7 (by decide +kernel)
theorem dX11_order_7 : decode cX11_order 7 = .ok (.if_icmp .le 5, 3) := o_164 (by decide +kernel)
theorem dX11_order_10 : decode cX11_order 10 = .ok (.iconst (-1), 1) := o_2 (by decide +kernel)
theorem dX11_order_11 : decode cX11_order 11 = .ok (.ireturn, 1) := o_172 (by decide +kernel)
theorem dX11_order_12 : decode cX11_order 12 = .ok (.iload_n 1, 1) := o_27 (by decide +kernel)
theorem dX11_order_13 : decode cX11_order 13 = .ok (.iconst 1, 1) := o_4 (by decide +kernel)
theorem dX11_order_14 : decode cX11_order 14 = .ok (.if_icmp .lt 9, 3) := o_161 (by decide +kernel)
theorem dX11_order_17 : decode cX11_order 17 = .ok (.iload_n 1, 1) := o_27 (by decide +kernel)
theorem dX11_order_18 : decode cX11_order 18 = .ok (.bipush 12, 2) := o_16 (by decide +kernel)
theorem dX11_order_20 : decode cX11_order 20 = .ok (.if_icmp .le 6, 3) := o_164 (by decide +kernel)
theorem dX11_order_23 : decode cX11_order 23 = .ok (.bipush (-2), 2) := o_16 (by decide +kernel)
theorem dX11_order_25 : decode cX11_order 25 = .ok (.ireturn, 1) := o_172 (by decide +kernel)
theorem dX11_order_26 : decode cX11_order 26 = .ok (.aload_n 0, 1) := o_42 (by decide +kernel)
theorem dX11_order_27 : decode cX11_order 27 = .ok (.getfield 12, 3) := o_180 (by decide +kernel)
theorem dX11_order_30 : decode cX11_order 30 = .ok (.getfield 76, 3) := o_180 (by decide +kernel)
theorem dX11_order_33 : decode cX11_order 33 = .ok (.iconst 5, 1) := o_8 (by decide +kernel)
theorem dX11_order_34 : decode cX11_order 34 = .ok (.if_icmp .le 6, 3) := o_164 (by decide +kernel)
theorem dX11_order_37 : decode cX11_order 37 = .ok (.bipush (-9), 2) := o_16 (by decide +kernel)
theorem dX11_order_39 : decode cX11_order 39 = .ok (.ireturn, 1) := o_172 (by decide +kernel)
theorem dX11_order_40 : decode cX11_order 40 = .ok (.iload_n 2, 1) := o_28 (by decide +kernel)
theorem dX11_order_41 : decode cX11_order 41 = .ok (.aload_n 0, 1) := o_42 (by decide +kernel)
theorem dX11_order_42 : decode cX11_order 42 = .ok (.getfield 12, 3) := o_180 (by decide +kernel)
theorem dX11_order_45 : decode cX11_order 45 = .ok (.getfield 76, 3) := o_180 (by decide +kernel)
theorem dX11_order_48 : decode cX11_order 48 = .ok (.if_icmp .lt 6, 3) := o_161 (by decide +kernel)
theorem dX11_order_51 : decode cX11_order 51 = .ok (.bipush (-5), 2) := o_16 (by decide +kernel)
theorem dX11_order_53 : decode cX11_order 53 = .ok (.ireturn, 1) := o_172 (by decide +kernel)
theorem dX11_order_54 : decode cX11_order 54 = .ok (.aload_n 0, 1) := o_42 (by decide +kernel)
theorem dX11_order_55 : decode cX11_order 55 = .ok (.iload_n 1, 1) := o_27 (by decide +kernel)
theorem dX11_order_56 : decode cX11_order 56 = .ok (.invokevirtual 206, 3) := o_182 (by decide +kernel)
theorem dX11_order_59 : decode cX11_order 59 = .ok (.istore_n 3, 1) := o_62 (by decide +kernel)
theorem dX11_order_60 : decode cX11_order 60 = .ok (.iload_n 2, 1) := o_28 (by decide +kernel)
theorem dX11_order_61 : decode cX11_order 61 = .ok (.ifCond .ge 7, 3) := o_156 (by decide +kernel)
theorem dX11_order_64 : decode cX11_order 64 = .ok (.iload_n 3, 1) := o_29 (by decide +kernel)
theorem dX11_order_65 : decode cX11_order 65 = .ok (.goto 9, 3) := o_167 (by decide +kernel)
theorem dX11_order_68 : decode cX11_order 68 = .ok (.aload_n 0, 1) := o_42 (by decide +kernel)
theorem dX11_order_69 : decode cX11_order 69 = .ok (.getfield 64, 3) := o_180 (by decide +kernel)
theorem dX11_order_72 : decode cX11_order 72 = .ok (.iload_n 2, 1) := o_28 (by decide +kernel)
theorem dX11_order_73 : decode cX11_order 73 = .ok (.iaload, 1) := o_46 (by decide +kernel)
theorem dX11_order_74 : decode cX11_order 74 = .ok (.ireturn, 1) := o_172 (by decide +kernel)
theorem gt_wsX11_findsBestOrder_wsX110 : GoodIn wsX11_findsBestOrder wsX110 := fun w h => ⟨List.mem_cons_of_mem _ (List.mem_append_left _ (List.mem_append_left _ (List.mem_append_left _ (List.mem_append_left _ (List.mem_append_left _ (List.mem_append_left _ (List.mem_append_left _ (List.mem_append_left _ (List.mem_append_left _ (List.mem_append_right _ h)))))))))), good_of_word (gq_wsX110 w h)⟩
theorem gt_wsX11_findsBestOrder_wsX10 : GoodIn wsX11_findsBestOrder wsX10 := fun w h => ⟨List.mem_cons_of_mem _ (List.mem_append_left _ (List.mem_append_left _ (List.mem_append_left _ (List.mem_append_left _ (List.mem_append_left _ (List.mem_append_left _ (List.mem_append_left _ (List.mem_append_left _ (List.mem_append_right _ h))))))))), good_of_word (gq_wsX10 w h)⟩
theorem gt_wsX11_findsBestOrder_wsX00 : GoodIn wsX11_findsBestOrder wsX00 := fun w h => ⟨List.mem_cons_of_mem _ (List.mem_append_left _ (List.mem_append_left _ (List.mem_append_left _ (List.mem_append_left _ (List.mem_append_left _ (List.mem_append_left _ (List.mem_append_left _ (List.mem_append_right _ h)))))))), good_of_word (gq_wsX00 w h)⟩
theorem gt_wsX11_findsBestOrder_wsX30 : GoodIn wsX11_findsBestOrder wsX30 := fun w h => ⟨List.mem_cons_of_mem _ (List.mem_append_left _ (List.mem_append_left _ (List.mem_append_left _ (List.mem_append_left _ (List.mem_append_left _ (List.mem_append_left _ (List.mem_append_right _ h))))))), good_of_word (gq_wsX30 w h)⟩
theorem gt_wsX11_findsBestOrder_wsX40 : GoodIn wsX11_findsBestOrder wsX40 := fun w h => ⟨List.mem_cons_of_mem _ (List.mem_append_left _ (List.mem_append_left _ (List.mem_append_left _ (List.mem_append_left _ (List.mem_append_left _ (List.mem_append_right _ h)))))), good_of_word (gq_wsX40 w h)⟩
theorem gt_wsX11_findsBestOrder_wsX60 : GoodIn wsX11_findsBestOrder wsX60 := fun w h => ⟨List.mem_cons_of_mem _ (List.mem_append_left _ (List.mem_append_left _ (List.mem_append_left _ (List.mem_append_left _ (List.mem_append_right _ h))))), good_of_word (gq_wsX60 w h)⟩
theorem gt_wsX11_findsBestOrder_wsX70 : GoodIn wsX11_findsBestOrder wsX70 := fun w h => ⟨List.mem_cons_of_mem _ (List.mem_append_left _ (List.mem_append_left _ (List.mem_append_left _ (List.mem_append_right _ h)))), good_of_word (gq_wsX70 w h)⟩
theorem gt_wsX11_findsBestOrder_wsX80 : GoodIn wsX11_findsBestOrder wsX80 := fun w h => ⟨List.mem_cons_of_mem _ (List.mem_append_left _ (List.mem_append_left _ (List.mem_append_right _ h))), good_of_word (gq_wsX80 w h)⟩
theorem gt_wsX11_findsBestOrder_wsX100 : GoodIn wsX11_findsBestOrder wsX100 := fun w h => ⟨List.mem_cons_of_mem _ (List.mem_append_left _ (List.mem_append_right _ h)), good_of_word (gq_wsX100 w h)⟩
theorem gt_wsX11_findsBestOrder_wsX20 : GoodIn wsX11_findsBestOrder wsX20 := fun w h => ⟨List.mem_cons_of_mem _ (List.mem_append_right _ h), good_of_word (gq_wsX20 w h)⟩
set_option maxRecDepth 20000 in
theorem ggX11_findsBestOrder_X11_totalInOrder : GoodIn wsX11_findsBestOrder wsX11_totalInOrder := goodIn_ca (goodIn_ca (goodIn_ca (goodIn_ca (goodIn_ca (goodIn_ca (goodIn_ca (goodIn_ca (goodIn_ca (goodIn_ca (goodIn_s _ [(17, 2), (1, 2), (19, 1), (7, 1), (20, 19), (10, 3), (39, 102), (4, 3), (141, 12)] rfl (by decide +kernel)) gt_wsX11_findsBestOrder_wsX110) gt_wsX11_findsBestOrder_wsX10) gt_wsX11_findsBestOrder_wsX00) gt_wsX11_findsBestOrder_wsX30) gt_wsX11_findsBestOrder_wsX40) gt_wsX11_findsBestOrder_wsX60) gt_wsX11_findsBestOrder_wsX70) gt_wsX11_findsBestOrder_wsX80) gt_wsX11_findsBestOrder_wsX100) gt_wsX11_findsBestOrder_wsX20
set_option maxRecDepth 20000 in
theorem gX11_findsBestOrder_X11_totalInOrder : GoodIn wsX11_findsBestOrder (wsV RX11 214 RX11 yX11_totalInOrder wsX11_totalInOrder) := goodIn_app (goodIn_of _ (by decide +kernel)) ggX11_findsBestOrder_X11_totalInOrder
set_option maxRecDepth 20000 in
theorem ggX11_findsBestOrder_X11_triesNextOrder : GoodIn wsX11_findsBestOrder wsX11_triesNextOrder := goodIn_ca (goodIn_s _ [(156, 1), (7, 1), (157, 3), (16, 1), (160, 1)] rfl (by decide +kernel)) gt_wsX11_findsBestOrder_wsX110
set_option maxRecDepth 20000 in
theorem gX11_findsBestOrder_X11_triesNextOrder : GoodIn wsX11_findsBestOrder (wsV RX11 223 RX11 yX11_triesNextOrder wsX11_triesNextOrder) := goodIn_app (goodIn_of _ (by decide +kernel)) ggX11_findsBestOrder_X11_triesNextOrder
theorem dX11_findsBestOrder_0 : decode cX11_findsBestOrder 0 = .ok (.aload_n 0, 1) := o_42 (by decide +kernel)
theorem dX11_findsBestOrder_1 : decode cX11_findsBestOrder 1 = .ok (.getfield 12, 3) := o_180 (by decide +kernel)
theorem dX11_findsBestOrder_4 : decode cX11_findsBestOrder 4 = .ok (.getfield 76, 3) := o_180 (by decide +kernel)
theorem dX11_findsBestOrder_7 : decode cX11_findsBestOrder 7 = .ok (.iconst 5, 1) := o_8 (by decide +kernel)
