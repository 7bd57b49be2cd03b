noncomputable def lawR : List (List Cond) := [wsL_law_r1, wsL_law_r2, wsL_law_r3, wsL_law_r4, wsL_law_r5, wsL_law_r6, wsL_law_r7, wsL_law_r8, wsL_law_r9, wsL_law_r10, wsL_law_r11, wsL_law_r12, wsL_law_r13, wsL_law_r14, wsL_law_r15, wsL_law_r16, wsL_law_r17, wsL_law_r18, wsL_law_r19, wsL_law_r20, wsL_law_r21, wsL_law_r22, wsL_law_r23, wsL_law_r24, wsL_law_r25, wsL_law_r26, wsL_law_r27, wsL_law_r28, wsL_law_r29, wsL_law_r30, wsL_law_r31, wsL_law_r32, wsL_law_r33, wsL_law_r34, wsL_law_r35, wsL_law_r36, wsL_law_r37, wsL_law_r38, wsL_law_r39, wsL_law_r40, wsL_law_r41, wsL_law_r42, wsL_law_r43, wsL_law_r44, wsL_law_r45, wsL_law_r46, wsL_law_r47, wsL_law_r48, wsL_law_r49, wsL_law_r50, wsL_law_r51, wsL_law_r52, wsL_law_r53, wsL_law_r54, wsL_law_r55, wsX110, wsX120, wsX10, wsX50, wsX20, wsX90, wsX80, wsX30, wsX00, wsX60, wsX70, wsX100, wsX40]
theorem lawR_in : ∀ L ∈ lawR, ∀ w ∈ L, w ∈ lw_tbl := by
  intro L hL
  simp only [lawR, List.mem_cons, List.not_mem_nil, or_false] at hL
  rcases hL with rfl | rfl | rfl | rfl | rfl | rfl | rfl | rfl | rfl | rfl | rfl | rfl | rfl | rfl | rfl | rfl | rfl | rfl | rfl | rfl | rfl | rfl | rfl | rfl | rfl | rfl | rfl | rfl | rfl | rfl | rfl | rfl | rfl | rfl | rfl | rfl | rfl | rfl | rfl | rfl | rfl | rfl | rfl | rfl | rfl | rfl | rfl | rfl | rfl | rfl | rfl | rfl | rfl | rfl | rfl | rfl | rfl | rfl | rfl | rfl | rfl | rfl | rfl | rfl | rfl | rfl | rfl | rfl
  · exact wsL_in_1
  · exact wsL_in_2
  · exact wsL_in_3
  · exact wsL_in_4
  · exact wsL_in_5
  · exact wsL_in_6
  · exact wsL_in_7
  · exact wsL_in_8
  · exact wsL_in_9
  · exact wsL_in_10
  · exact wsL_in_11
  · exact wsL_in_12
  · exact wsL_in_13
  · exact wsL_in_14
  · exact wsL_in_15
  · exact wsL_in_16
  · exact wsL_in_17
  · exact wsL_in_18
  · exact wsL_in_19
  · exact wsL_in_20
  · exact wsL_in_21
  · exact wsL_in_22
  · exact wsL_in_23
  · exact wsL_in_24
  · exact wsL_in_25
  · exact wsL_in_26
  · exact wsL_in_27
  · exact wsL_in_28
  · exact wsL_in_29
  · exact wsL_in_30
  · exact wsL_in_31
  · exact wsL_in_32
  · exact wsL_in_33
  · exact wsL_in_34
  · exact wsL_in_35
  · exact wsL_in_36
  · exact wsL_in_37
  · exact wsL_in_38
  · exact wsL_in_39
  · exact wsL_in_40
  · exact wsL_in_41
  · exact wsL_in_42
  · exact wsL_in_43
  · exact wsL_in_44
  · exact wsL_in_45
  · exact wsL_in_46
  · exact wsL_in_47
  · exact wsL_in_48
  · exact wsL_in_49
  · exact wsL_in_50
  · exact wsL_in_51
  · exact wsL_in_52
  · exact wsL_in_53
  · exact wsL_in_54
  · exact wsL_in_55
  · exact wsL_inX11
  · exact wsL_inX12
  · exact wsL_inX1
  · exact wsL_inX5
  · exact wsL_inX2
  · exact wsL_inX9
  · exact wsL_inX8
  · exact wsL_inX3
  · exact wsL_inX0
  · exact wsL_inX6
  · exact wsL_inX7
  · exact wsL_inX10
  · exact wsL_inX4
theorem goodIn_q (ws : List Cond) (ps : List (Nat × Nat)) (hp : ws = ps.filterMap (fun q => (lawR.getD q.1 [])[q.2]?)) (h : ws.all goodWord = true) : GoodIn lw_tbl ws := by
  intro w hw
  have h1 := List.all_eq_true.mp h w hw
  rw [hp] at hw
  obtain ⟨⟨j, k⟩, -, hi⟩ := List.mem_filterMap.mp hw
  refine ⟨?_, good_of_word h1⟩
  have hm : w ∈ lawR.getD j [] := List.mem_of_getElem? hi
  rw [List.getD_eq_getElem?_getD] at hm
  cases hj : lawR[j]? with
  | none => rw [hj] at hm; exact absurd hm List.not_mem_nil
  | some L => rw [hj] at hm; exact lawR_in L (List.mem_of_getElem? hj) w hm
theorem goodIn_qs (ws : List Cond) (rs : List (Nat × Nat × Nat)) (hp : ws = (rs.map (fun q => ((lawR.getD q.1 []).drop q.2.1).take q.2.2)).flatten) (h : ws.all goodWord = true) : GoodIn lw_tbl ws := by
  intro w hw
  have h1 := List.all_eq_true.mp h w hw
  refine ⟨?_, good_of_word h1⟩
  rw [hp] at hw
  obtain ⟨l, hl, hw2⟩ := List.mem_flatten.mp hw
  obtain ⟨⟨j, k, m⟩, -, rfl⟩ := List.mem_map.mp hl
  have hm : w ∈ lawR.getD j [] := List.mem_of_mem_drop (List.mem_of_mem_take hw2)
  rw [List.getD_eq_getElem?_getD] at hm
  cases hj : lawR[j]? with
  | none => rw [hj] at hm; exact absurd hm List.not_mem_nil
  | some L => rw [hj] at hm; exact lawR_in L (List.mem_of_getElem? hj) w hm
theorem gt_lw_tbl_wsX10 : GoodIn lw_tbl wsX10 := fun w h => ⟨wsL_inX1 w h, good_of_word (gq_wsX10 w h)⟩
theorem gt_lw_tbl_wsX110 : GoodIn lw_tbl wsX110 := fun w h => ⟨wsL_inX11 w h, good_of_word (gq_wsX110 w h)⟩
theorem gt_lw_tbl_wsX50 : GoodIn lw_tbl wsX50 := fun w h => ⟨wsL_inX5 w h, good_of_word (gq_wsX50 w h)⟩
theorem gt_lw_tbl_wsX20 : GoodIn lw_tbl wsX20 := fun w h => ⟨wsL_inX2 w h, good_of_word (gq_wsX20 w h)⟩
theorem gt_lw_tbl_wsX90 : GoodIn lw_tbl wsX90 := fun w h => ⟨wsL_inX9 w h, good_of_word (gq_wsX90 w h)⟩
set_option maxRecDepth 20000 in
theorem ggL_X11_init : GoodIn lw_tbl wsX11_init := goodIn_ca (goodIn_ca (goodIn_ca (goodIn_ca (goodIn_ca (goodIn_qs _ [(0, 9, 15), (1, 0, 24), (2, 0, 24), (3, 0, 20)] rfl (by decide +kernel)) gt_lw_tbl_wsX10) gt_lw_tbl_wsX110) gt_lw_tbl_wsX50) gt_lw_tbl_wsX20) gt_lw_tbl_wsX90
theorem gL_X11_init : GoodIn lw_tbl (wsX11_init) := ggL_X11_init
theorem gt_lw_tbl_wsX120 : GoodIn lw_tbl wsX120 := fun w h => ⟨wsL_inX12 w h, good_of_word (gq_wsX120 w h)⟩
set_option maxRecDepth 20000 in
theorem ggL_X12_init : GoodIn lw_tbl wsX12_init := goodIn_ca (goodIn_qs _ [(3, 22, 2), (0, 11, 2), (4, 0, 3), (1, 8, 1), (4, 3, 21), (5, 0, 24), (6, 0, 24), (7, 0, 2), (3, 16, 1), (7, 2, 2)] rfl (by decide +kernel)) gt_lw_tbl_wsX120
theorem gL_X12_init : GoodIn lw_tbl (wsX12_init) := ggL_X12_init
theorem gt_lw_tbl_wsX80 : GoodIn lw_tbl wsX80 := fun w h => ⟨wsL_inX8 w h, good_of_word (gq_wsX80 w h)⟩
theorem gt_lw_tbl_wsX30 : GoodIn lw_tbl wsX30 := fun w h => ⟨wsL_inX3 w h, good_of_word (gq_wsX30 w h)⟩
theorem gt_lw_tbl_wsX00 : GoodIn lw_tbl wsX00 := fun w h => ⟨wsL_inX0 w h, good_of_word (gq_wsX00 w h)⟩
theorem gt_lw_tbl_wsX60 : GoodIn lw_tbl wsX60 := fun w h => ⟨wsL_inX6 w h, good_of_word (gq_wsX60 w h)⟩
theorem gt_lw_tbl_wsX70 : GoodIn lw_tbl wsX70 := fun w h => ⟨wsL_inX7 w h, good_of_word (gq_wsX70 w h)⟩
theorem gt_lw_tbl_wsX100 : GoodIn lw_tbl wsX100 := fun w h => ⟨wsL_inX10 w h, good_of_word (gq_wsX100 w h)⟩
theorem gt_lw_tbl_wsX40 : GoodIn lw_tbl wsX40 := fun w h => ⟨wsL_inX4 w h, good_of_word (gq_wsX40 w h)⟩
set_option maxRecDepth 20000 in
theorem ggL_X11_mower : GoodIn lw_tbl wsX11_mower := goodIn_ca (goodIn_ca (goodIn_ca (goodIn_ca (goodIn_ca (goodIn_ca (goodIn_ca (goodIn_ca (goodIn_ca (goodIn_qs _ [(7, 7, 1), (0, 16, 1), (7, 8, 3), (0, 2, 1), (7, 11, 13), (8, 0, 16), (0, 11, 2), (8, 16, 8), (9, 0, 19), (0, 15, 1), (9, 19, 2), (1, 21, 1), (2, 2, 1), (1, 23, 1), (1, 22, 1), (2, 0, 1)] rfl (by decide +kernel)) gt_lw_tbl_wsX110) gt_lw_tbl_wsX10) gt_lw_tbl_wsX80) gt_lw_tbl_wsX30) gt_lw_tbl_wsX00) gt_lw_tbl_wsX60) gt_lw_tbl_wsX70) gt_lw_tbl_wsX100) gt_lw_tbl_wsX40
theorem gL_X11_mower : GoodIn lw_tbl (wsV RL 13 RX11 yX11_mower wsX11_mower) := goodIn_app (goodIn_qs _ [(7, 4, 3), (0, 2, 1)] rfl (by decide +kernel)) ggL_X11_mower
set_option maxRecDepth 20000 in
theorem ggL_X12_mower : GoodIn lw_tbl wsX12_mower := goodIn_ca (goodIn_qs _ [(10, 0, 1), (4, 0, 1), (4, 3, 6), (4, 10, 1), (4, 9, 1), (4, 2, 1), (10, 1, 3), (0, 5, 1), (10, 4, 1)] rfl (by decide +kernel)) gt_lw_tbl_wsX120
theorem gL_X12_mower : GoodIn lw_tbl (wsV RL 17 RX12 yX12_mower wsX12_mower) := goodIn_app (goodIn_qs _ [(9, 21, 3), (0, 5, 1)] rfl (by decide +kernel)) ggL_X12_mower
set_option maxRecDepth 20000 in
theorem ggL_X11_of : GoodIn lw_tbl wsX11_of := goodIn_ca (goodIn_ca (goodIn_ca (goodIn_ca (goodIn_ca (goodIn_ca (goodIn_ca (goodIn_ca (goodIn_ca (goodIn_ca (goodIn_qs _ [(10, 8, 1), (0, 16, 1), (10, 9, 10), (0, 2, 1), (10, 19, 1), (7, 8, 1), (10, 20, 3), (0, 15, 1), (10, 23, 1), (2, 0, 1), (1, 23, 1), (11, 0, 4), (2, 14, 1), (1, 21, 1), (11, 4, 1), (2, 2, 2), (2, 6, 2), (11, 5, 3), (1, 13, 1), (11, 8, 1), (3, 9, 1), (3, 6, 1), (3, 8, 1), (3, 7, 1), (11, 9, 4), (3, 5, 1), (3, 4, 1), (11, 13, 10), (7, 20, 1), (11, 23, 1), (12, 0, 3), (8, 8, 1), (12, 3, 2), (8, 17, 1), (12, 5, 2), (7, 17, 1), (12, 7, 12), (7, 23, 1), (12, 19, 5), (13, 0, 2), (7, 14, 1), (13, 2, 3), (8, 2, 1), (13, 5, 8), (2, 1, 1), (13, 13, 4), (2, 8, 1), (13, 17, 4), (8, 5, 1), (13, 21, 3), (14, 0, 5)] rfl (by decide +kernel)) gt_lw_tbl_wsX110) gt_lw_tbl_wsX10) gt_lw_tbl_wsX00) gt_lw_tbl_wsX30) gt_lw_tbl_wsX40) gt_lw_tbl_wsX60) gt_lw_tbl_wsX70) gt_lw_tbl_wsX80) gt_lw_tbl_wsX100) gt_lw_tbl_wsX20
theorem gL_X11_of : GoodIn lw_tbl (wsV RL 18 RX11 yX11_of wsX11_of) := goodIn_app (goodIn_qs _ [(10, 5, 3), (0, 2, 1)] rfl (by decide +kernel)) ggL_X11_of
set_option maxRecDepth 20000 in
theorem ggL_X12_of : GoodIn lw_tbl wsX12_of := goodIn_ca (goodIn_qs _ [(14, 8, 1), (4, 3, 6), (14, 9, 3), (0, 5, 1), (14, 12, 1), (4, 0, 1), (10, 1, 4), (14, 13, 4), (4, 10, 1), (14, 17, 4), (5, 7, 1), (4, 18, 2), (14, 21, 3), (15, 0, 1), (4, 12, 1), (15, 1, 4), (4, 17, 1), (15, 5, 4), (4, 20, 3), (5, 6, 1), (15, 9, 4), (4, 1, 1), (15, 13, 11), (16, 0, 1), (4, 9, 1), (16, 1, 8), (4, 2, 1), (16, 9, 4), (5, 4, 1), (16, 13, 4)] rfl (by decide +kernel)) gt_lw_tbl_wsX120
theorem gL_X12_of : GoodIn lw_tbl (wsV RL 21 RX12 yX12_of wsX12_of) := goodIn_app (goodIn_qs _ [(14, 5, 3), (0, 5, 1)] rfl (by decide +kernel)) ggL_X12_of
set_option maxRecDepth 20000 in
theorem ggL_X11_set : GoodIn lw_tbl wsX11_set := goodIn_ca (goodIn_ca (goodIn_qs _ [(16, 20, 1), (0, 16, 1), (10, 16, 3), (0, 2, 1), (10, 19, 1), (7, 8, 1), (16, 21, 3), (0, 15, 1), (17, 0, 1), (2, 1, 4)] rfl (by decide +kernel)) gt_lw_tbl_wsX110) gt_lw_tbl_wsX10
theorem gL_X11_set : GoodIn lw_tbl (wsV RL 22 RX11 yX11_set wsX11_set) := goodIn_app (goodIn_qs _ [(16, 17, 3), (0, 2, 1)] rfl (by decide +kernel)) ggL_X11_set
set_option maxRecDepth 20000 in
theorem ggL_X12_set : GoodIn lw_tbl wsX12_set := goodIn_ca (goodIn_qs _ [(17, 4, 1), (4, 5, 4), (14, 9, 3), (0, 5, 1), (14, 12, 1), (4, 0, 1), (10, 1, 4)] rfl (by decide +kernel)) gt_lw_tbl_wsX120
theorem gL_X12_set : GoodIn lw_tbl (wsV RL 26 RX12 yX12_set wsX12_set) := goodIn_app (goodIn_qs _ [(17, 1, 3), (0, 5, 1)] rfl (by decide +kernel)) ggL_X12_set
set_option maxRecDepth 20000 in
theorem ggL_X11_row : GoodIn lw_tbl wsX11_row := goodIn_ca (goodIn_ca (goodIn_qs _ [(17, 8, 1), (0, 16, 1), (10, 9, 1), (17, 9, 2), (10, 16, 3), (0, 2, 1), (10, 19, 1), (7, 8, 1)] rfl (by decide +kernel)) gt_lw_tbl_wsX110) gt_lw_tbl_wsX10
theorem gL_X11_row : GoodIn lw_tbl (wsV RL 27 RX11 yX11_row wsX11_row) := goodIn_app (goodIn_qs _ [(17, 5, 3), (0, 2, 1)] rfl (by decide +kernel)) ggL_X11_row
set_option maxRecDepth 20000 in
theorem ggL_X12_row : GoodIn lw_tbl wsX12_row := goodIn_ca (goodIn_qs _ [(17, 14, 1), (4, 3, 1), (4, 9, 1), (14, 9, 3), (0, 5, 1), (14, 12, 1), (4, 0, 1), (10, 1, 4)] rfl (by decide +kernel)) gt_lw_tbl_wsX120
theorem gL_X12_row : GoodIn lw_tbl (wsV RL 30 RX12 yX12_row wsX12_row) := goodIn_app (goodIn_qs _ [(17, 11, 3), (0, 5, 1)] rfl (by decide +kernel)) ggL_X12_row
set_option maxRecDepth 20000 in
theorem ggL_X11_place : GoodIn lw_tbl wsX11_place := goodIn_ca (goodIn_ca (goodIn_qs _ [(17, 18, 1), (0, 16, 1), (7, 8, 1), (10, 16, 3), (0, 2, 1), (10, 19, 1), (17, 19, 3), (0, 15, 1), (17, 22, 1), (1, 23, 1), (17, 23, 1), (10, 21, 3), (2, 0, 1)] rfl (by decide +kernel)) gt_lw_tbl_wsX110) gt_lw_tbl_wsX10
theorem gL_X11_place : GoodIn lw_tbl (wsV RL 31 RX11 yX11_place wsX11_place) := goodIn_app (goodIn_qs _ [(17, 15, 3), (0, 2, 1)] rfl (by decide +kernel)) ggL_X11_place
set_option maxRecDepth 20000 in
theorem ggL_X12_place : GoodIn lw_tbl wsX12_place := goodIn_ca (goodIn_qs _ [(18, 3, 1), (4, 0, 1), (4, 10, 1), (14, 9, 3), (0, 5, 1), (14, 12, 1), (10, 1, 4), (14, 13, 4)] rfl (by decide +kernel)) gt_lw_tbl_wsX120
theorem gL_X12_place : GoodIn lw_tbl (wsV RL 34 RX12 yX12_place wsX12_place) := goodIn_app (goodIn_qs _ [(18, 0, 3), (0, 5, 1)] rfl (by decide +kernel)) ggL_X12_place
set_option maxRecDepth 20000 in
theorem ggL_X11_feed : GoodIn lw_tbl wsX11_feed := goodIn_ca (goodIn_qs _ [(18, 7, 1), (1, 1, 1), (1, 0, 1)] rfl (by decide +kernel)) gt_lw_tbl_wsX110
theorem gL_X11_feed : GoodIn lw_tbl (wsV RL 35 RX11 yX11_feed wsX11_feed) := goodIn_app (goodIn_qs _ [(18, 4, 3), (0, 2, 1)] rfl (by decide +kernel)) ggL_X11_feed
set_option maxRecDepth 20000 in
theorem ggL_X12_feed : GoodIn lw_tbl wsX12_feed := goodIn_ca (goodIn_qs _ [(18, 11, 1), (4, 13, 1), (4, 16, 1), (10, 1, 3), (0, 5, 1), (10, 4, 1)] rfl (by decide +kernel)) gt_lw_tbl_wsX120
theorem gL_X12_feed : GoodIn lw_tbl (wsV RL 39 RX12 yX12_feed wsX12_feed) := goodIn_app (goodIn_qs _ [(18, 8, 3), (0, 5, 1)] rfl (by decide +kernel)) ggL_X12_feed
set_option maxRecDepth 20000 in
theorem ggL_X11_field : GoodIn lw_tbl wsX11_field := goodIn_ca (goodIn_ca (goodIn_ca (goodIn_qs _ [(18, 15, 1), (0, 22, 1), (0, 21, 1), (0, 20, 1), (1, 12, 2), (1, 0, 2), (0, 16, 1), (1, 14, 1), (2, 22, 2), (3, 0, 1), (0, 11, 2), (3, 1, 3), (1, 8, 1), (3, 4, 9), (18, 16, 8), (19, 0, 24), (20, 0, 24), (21, 0, 24), (22, 0, 24), (23, 0, 24), (24, 0, 24), (25, 0, 23)] rfl (by decide +kernel)) gt_lw_tbl_wsX110) gt_lw_tbl_wsX20) gt_lw_tbl_wsX10
theorem gL_X11_field : GoodIn lw_tbl (wsV RL 40 RX11 yX11_field wsX11_field) := goodIn_app (goodIn_qs _ [(18, 12, 3), (0, 2, 1)] rfl (by decide +kernel)) ggL_X11_field
set_option maxRecDepth 20000 in
theorem ggL_X12_field : GoodIn lw_tbl wsX12_field := goodIn_ca (goodIn_qs _ [(26, 2, 1), (4, 11, 1), (4, 13, 2), (4, 12, 1), (26, 3, 3), (0, 5, 1), (26, 6, 1), (5, 0, 1), (4, 17, 1), (26, 7, 4), (4, 19, 1), (4, 15, 1), (4, 18, 1), (26, 11, 8), (4, 16, 1), (26, 19, 4), (5, 3, 1), (26, 23, 1), (27, 0, 11), (10, 1, 4), (27, 11, 4), (5, 1, 2), (4, 20, 1), (4, 23, 1), (4, 21, 1), (27, 15, 9), (28, 0, 3), (4, 22, 1), (28, 3, 8)] rfl (by decide +kernel)) gt_lw_tbl_wsX120
theorem gL_X12_field : GoodIn lw_tbl (wsV RL 44 RX12 yX12_field wsX12_field) := goodIn_app (goodIn_qs _ [(25, 23, 1), (26, 0, 2), (0, 5, 1)] rfl (by decide +kernel)) ggL_X12_field
set_option maxRecDepth 20000 in
theorem ggL_X11_told : GoodIn lw_tbl wsX11_told := goodIn_ca (goodIn_ca (goodIn_ca (goodIn_qs _ [(28, 14, 1), (0, 16, 1), (28, 15, 1), (1, 14, 1), (28, 16, 3), (7, 8, 1), (28, 19, 1)] rfl (by decide +kernel)) gt_lw_tbl_wsX110) gt_lw_tbl_wsX10) gt_lw_tbl_wsX20
theorem gL_X11_told : GoodIn lw_tbl (wsV RL 45 RX11 yX11_told wsX11_told) := goodIn_app (goodIn_qs _ [(28, 11, 3), (0, 2, 1)] rfl (by decide +kernel)) ggL_X11_told
set_option maxRecDepth 20000 in
theorem ggL_X12_told : GoodIn lw_tbl wsX12_told := goodIn_ca (goodIn_qs _ [(28, 23, 1), (4, 0, 1), (4, 10, 1), (4, 1, 1), (10, 1, 3), (0, 5, 1), (10, 4, 1), (16, 9, 4), (5, 4, 1), (16, 13, 4), (4, 18, 2), (14, 21, 3), (15, 0, 1), (4, 12, 1), (15, 1, 4), (4, 17, 1), (29, 0, 4), (15, 13, 4)] rfl (by decide +kernel)) gt_lw_tbl_wsX120
theorem gL_X12_told : GoodIn lw_tbl (wsV RL 48 RX12 yX12_told wsX12_told) := goodIn_app (goodIn_qs _ [(28, 20, 3), (0, 5, 1)] rfl (by decide +kernel)) ggL_X12_told
set_option maxRecDepth 20000 in
theorem ggL_X11_minute : GoodIn lw_tbl wsX11_minute := goodIn_ca (goodIn_ca (goodIn_ca (goodIn_ca (goodIn_ca (goodIn_ca (goodIn_ca (goodIn_ca (goodIn_ca (goodIn_ca (goodIn_qs _ [(29, 7, 1), (0, 16, 1), (28, 15, 1), (29, 8, 3), (0, 15, 1), (29, 11, 1), (2, 0, 1), (2, 13, 1), (1, 23, 1), (2, 4, 1), (2, 1, 1), (2, 6, 1), (29, 12, 1), (11, 14, 3), (1, 21, 1), (2, 2, 1), (11, 17, 1), (11, 1, 3), (2, 14, 1), (11, 4, 1), (2, 3, 1), (2, 7, 1), (11, 5, 3), (1, 13, 1), (11, 8, 1), (3, 9, 1), (3, 6, 1), (3, 8, 1), (3, 7, 1), (11, 9, 4), (3, 5, 1), (3, 4, 1), (11, 18, 5), (7, 20, 1), (11, 23, 1), (12, 0, 3), (8, 8, 1), (12, 3, 2), (8, 17, 1), (12, 5, 2), (7, 17, 1), (12, 7, 12), (7, 23, 1), (12, 19, 5), (13, 0, 2), (7, 14, 1), (13, 2, 3), (8, 2, 1), (13, 5, 12), (2, 8, 1), (13, 17, 4), (8, 5, 1), (13, 21, 3), (14, 0, 5), (29, 13, 5), (18, 21, 3), (29, 18, 1), (20, 17, 2), (29, 19, 5)] rfl (by decide +kernel)) gt_lw_tbl_wsX110) gt_lw_tbl_wsX10) gt_lw_tbl_wsX00) gt_lw_tbl_wsX30) gt_lw_tbl_wsX40) gt_lw_tbl_wsX60) gt_lw_tbl_wsX70) gt_lw_tbl_wsX80) gt_lw_tbl_wsX100) gt_lw_tbl_wsX20
theorem gL_X11_minute : GoodIn lw_tbl (wsV RL 49 RX11 yX11_minute wsX11_minute) := goodIn_app (goodIn_qs _ [(29, 4, 3), (0, 2, 1)] rfl (by decide +kernel)) ggL_X11_minute
set_option maxRecDepth 20000 in
theorem ggL_X12_minute : GoodIn lw_tbl wsX12_minute := goodIn_ca (goodIn_qs _ [(30, 3, 1), (4, 1, 1), (30, 4, 3), (0, 5, 1), (30, 7, 1), (4, 2, 1), (5, 8, 1), (4, 10, 1), (5, 9, 1), (15, 17, 4), (4, 6, 1), (14, 17, 4), (5, 7, 1), (4, 18, 2), (14, 21, 3), (15, 0, 1), (4, 12, 1), (15, 1, 4), (4, 17, 1), (15, 5, 4), (4, 20, 3), (5, 6, 1), (15, 9, 4), (4, 3, 1), (4, 7, 1), (15, 13, 4), (15, 21, 3), (16, 0, 1), (4, 4, 1), (4, 9, 1), (16, 1, 8), (4, 5, 1), (16, 9, 4), (5, 4, 1), (16, 13, 4), (30, 8, 4), (4, 8, 1), (30, 12, 4)] rfl (by decide +kernel)) gt_lw_tbl_wsX120
theorem gL_X12_minute : GoodIn lw_tbl (wsV RL 52 RX12 yX12_minute wsX12_minute) := goodIn_app (goodIn_qs _ [(30, 0, 3), (0, 5, 1)] rfl (by decide +kernel)) ggL_X12_minute
set_option maxRecDepth 20000 in
theorem ggL_X11_whet : GoodIn lw_tbl wsX11_whet := goodIn_ca (goodIn_ca (goodIn_qs _ [(30, 19, 1), (0, 16, 1), (28, 15, 1), (30, 20, 3), (0, 15, 1), (30, 23, 1), (1, 22, 1), (2, 2, 1), (31, 0, 4), (2, 3, 1), (29, 18, 1), (20, 17, 1), (18, 22, 1), (20, 18, 1), (2, 4, 1), (2, 6, 1)] rfl (by decide +kernel)) gt_lw_tbl_wsX110) gt_lw_tbl_wsX10
theorem gL_X11_whet : GoodIn lw_tbl (wsV RL 53 RX11 yX11_whet wsX11_whet) := goodIn_app (goodIn_qs _ [(30, 16, 3), (0, 2, 1)] rfl (by decide +kernel)) ggL_X11_whet
set_option maxRecDepth 20000 in
theorem ggL_X12_whet : GoodIn lw_tbl wsX12_whet := goodIn_ca (goodIn_qs _ [(31, 7, 1), (4, 1, 1), (31, 8, 3), (0, 5, 1), (31, 11, 1), (4, 0, 1), (4, 6, 3), (15, 13, 4)] rfl (by decide +kernel)) gt_lw_tbl_wsX120
theorem gL_X12_whet : GoodIn lw_tbl (wsV RL 56 RX12 yX12_whet wsX12_whet) := goodIn_app (goodIn_qs _ [(31, 4, 3), (0, 5, 1)] rfl (by decide +kernel)) ggL_X12_whet
set_option maxRecDepth 20000 in
theorem ggL_X11_pause : GoodIn lw_tbl wsX11_pause := goodIn_ca (goodIn_ca (goodIn_qs _ [(31, 15, 1), (0, 16, 1), (28, 15, 1), (31, 16, 3), (0, 15, 1), (31, 19, 1), (31, 0, 4), (1, 22, 1), (2, 3, 1), (29, 18, 1), (20, 17, 1), (18, 22, 1), (20, 18, 1), (2, 4, 1), (2, 6, 1)] rfl (by decide +kernel)) gt_lw_tbl_wsX110) gt_lw_tbl_wsX10
theorem gL_X11_pause : GoodIn lw_tbl (wsV RL 57 RX11 yX11_pause wsX11_pause) := goodIn_app (goodIn_qs _ [(31, 12, 3), (0, 2, 1)] rfl (by decide +kernel)) ggL_X11_pause
set_option maxRecDepth 20000 in
theorem ggL_X12_pause : GoodIn lw_tbl wsX12_pause := goodIn_ca (goodIn_qs _ [(31, 23, 1), (4, 1, 1), (10, 1, 3), (0, 5, 1), (10, 4, 1), (32, 0, 4), (4, 0, 1), (4, 7, 2), (15, 13, 4)] rfl (by decide +kernel)) gt_lw_tbl_wsX120
theorem gL_X12_pause : GoodIn lw_tbl (wsV RL 60 RX12 yX12_pause wsX12_pause) := goodIn_app (goodIn_qs _ [(31, 20, 3), (0, 5, 1)] rfl (by decide +kernel)) ggL_X12_pause
set_option maxRecDepth 20000 in
theorem ggL_X11_on : GoodIn lw_tbl wsX11_on := goodIn_ca (goodIn_ca (goodIn_ca (goodIn_ca (goodIn_ca (goodIn_ca (goodIn_ca (goodIn_ca (goodIn_ca (goodIn_ca (goodIn_qs _ [(32, 7, 1), (0, 18, 1), (0, 16, 1), (10, 12, 1), (10, 16, 3), (0, 2, 1), (10, 19, 1), (7, 8, 1), (32, 8, 3), (0, 15, 1), (32, 11, 1), (1, 22, 1), (2, 0, 1), (2, 6, 3), (1, 21, 1), (1, 23, 1), (2, 1, 5), (32, 12, 8), (29, 8, 4), (2, 13, 1), (29, 12, 1), (11, 14, 4), (11, 1, 3), (2, 14, 1), (11, 4, 4), (1, 13, 1), (11, 8, 1), (3, 9, 1), (3, 6, 1), (3, 8, 1), (3, 7, 1), (11, 9, 4), (3, 5, 1), (3, 4, 1), (11, 18, 5), (7, 20, 1), (11, 23, 1), (12, 0, 3), (8, 8, 1), (12, 3, 2), (8, 17, 1), (12, 5, 2), (7, 17, 1), (12, 7, 12), (7, 23, 1), (12, 19, 5), (13, 0, 2), (7, 14, 1), (13, 2, 3), (8, 2, 1), (13, 5, 16), (8, 5, 1), (13, 21, 3), (14, 0, 5), (29, 13, 5), (18, 21, 3), (29, 18, 1), (20, 17, 2), (29, 19, 5), (32, 20, 4), (33, 0, 5)] rfl (by decide +kernel)) gt_lw_tbl_wsX110) gt_lw_tbl_wsX10) gt_lw_tbl_wsX00) gt_lw_tbl_wsX30) gt_lw_tbl_wsX40) gt_lw_tbl_wsX60) gt_lw_tbl_wsX70) gt_lw_tbl_wsX80) gt_lw_tbl_wsX100) gt_lw_tbl_wsX20
theorem gL_X11_on : GoodIn lw_tbl (wsV RL 61 RX11 yX11_on wsX11_on) := goodIn_app (goodIn_qs _ [(32, 4, 3), (0, 2, 1)] rfl (by decide +kernel)) ggL_X11_on
set_option maxRecDepth 20000 in
theorem ggL_X12_on : GoodIn lw_tbl wsX12_on := goodIn_ca (goodIn_qs _ [(33, 8, 1), (4, 0, 1), (4, 5, 1), (5, 9, 1), (10, 1, 3), (0, 5, 1), (10, 4, 1), (33, 9, 4), (4, 1, 1), (5, 10, 3), (4, 6, 1), (5, 13, 1), (4, 7, 1), (5, 14, 1), (4, 8, 1), (33, 13, 4), (30, 4, 4), (4, 2, 1), (5, 8, 1), (4, 10, 1), (15, 17, 4), (14, 17, 4), (5, 7, 1), (4, 18, 2), (14, 21, 3), (15, 0, 1), (4, 12, 1), (15, 1, 4), (4, 17, 1), (15, 5, 4), (4, 20, 3), (5, 6, 1), (15, 9, 4), (4, 3, 1), (15, 13, 4), (15, 21, 3), (16, 0, 1), (4, 4, 1), (4, 9, 1), (16, 1, 12), (5, 4, 1), (16, 13, 4), (30, 8, 8), (33, 17, 7), (34, 0, 1)] rfl (by decide +kernel)) gt_lw_tbl_wsX120
theorem gL_X12_on : GoodIn lw_tbl (wsV RL 64 RX12 yX12_on wsX12_on) := goodIn_app (goodIn_qs _ [(33, 5, 3), (0, 5, 1)] rfl (by decide +kernel)) ggL_X12_on
set_option maxRecDepth 20000 in
theorem ggL_X11_done : GoodIn lw_tbl wsX11_done := goodIn_ca (goodIn_ca (goodIn_ca (goodIn_ca (goodIn_ca (goodIn_ca (goodIn_ca (goodIn_ca (goodIn_ca (goodIn_ca (goodIn_qs _ [(34, 4, 1), (0, 18, 1), (0, 16, 1), (32, 8, 3), (0, 15, 1), (32, 11, 1), (1, 22, 1), (2, 0, 1), (2, 6, 3), (1, 21, 1), (1, 23, 1), (2, 1, 5), (32, 12, 4), (34, 5, 5), (29, 8, 4), (2, 13, 1), (29, 12, 1), (11, 14, 4), (11, 1, 3), (2, 14, 1), (11, 4, 4), (1, 13, 1), (11, 8, 1), (3, 9, 1), (3, 6, 1), (3, 8, 1), (3, 7, 1), (11, 9, 4), (3, 5, 1), (3, 4, 1), (11, 18, 5), (7, 20, 1), (11, 23, 1), (12, 0, 3), (8, 8, 1), (12, 3, 2), (8, 17, 1), (12, 5, 2), (7, 17, 1), (12, 7, 12), (7, 23, 1), (12, 19, 5), (13, 0, 2), (7, 14, 1), (13, 2, 3), (8, 2, 1), (13, 5, 16), (8, 5, 1), (13, 21, 3), (14, 0, 5), (29, 13, 5), (18, 21, 3), (29, 18, 1), (20, 17, 2), (29, 19, 5)] rfl (by decide +kernel)) gt_lw_tbl_wsX110) gt_lw_tbl_wsX10) gt_lw_tbl_wsX20) gt_lw_tbl_wsX00) gt_lw_tbl_wsX30) gt_lw_tbl_wsX40) gt_lw_tbl_wsX60) gt_lw_tbl_wsX70) gt_lw_tbl_wsX80) gt_lw_tbl_wsX100
theorem gL_X11_done : GoodIn lw_tbl (wsV RL 65 RX11 yX11_done wsX11_done) := goodIn_app (goodIn_qs _ [(34, 1, 3), (0, 2, 1)] rfl (by decide +kernel)) ggL_X11_done
set_option maxRecDepth 20000 in
theorem ggL_X12_done : GoodIn lw_tbl wsX12_done := goodIn_ca (goodIn_qs _ [(34, 13, 1), (33, 9, 3), (0, 5, 1), (33, 12, 1), (4, 1, 1), (5, 10, 2), (4, 5, 1), (5, 12, 1), (4, 6, 1), (5, 13, 1), (4, 7, 1), (5, 14, 1), (4, 8, 1), (5, 9, 1), (34, 14, 4), (4, 0, 1), (29, 0, 4), (16, 13, 4), (4, 18, 2), (14, 21, 3), (15, 0, 1), (4, 12, 1), (15, 1, 4), (4, 17, 1), (15, 13, 4), (33, 13, 4), (30, 4, 4), (4, 2, 1), (5, 8, 1), (4, 10, 1), (15, 17, 4), (14, 17, 4), (5, 7, 1), (15, 5, 4), (4, 20, 3), (5, 6, 1), (15, 9, 4), (4, 3, 1), (15, 21, 3), (16, 0, 1), (4, 4, 1), (4, 9, 1), (16, 1, 12), (5, 4, 1), (30, 8, 8), (33, 21, 3), (34, 0, 1)] rfl (by decide +kernel)) gt_lw_tbl_wsX120
theorem gL_X12_done : GoodIn lw_tbl (wsV RL 68 RX12 yX12_done wsX12_done) := goodIn_app (goodIn_qs _ [(34, 10, 3), (0, 5, 1)] rfl (by decide +kernel)) ggL_X12_done
set_option maxRecDepth 20000 in
theorem ggL_X11_order : GoodIn lw_tbl wsX11_order := goodIn_ca (goodIn_ca (goodIn_ca (goodIn_ca (goodIn_ca (goodIn_ca (goodIn_ca (goodIn_ca (goodIn_ca (goodIn_ca (goodIn_qs _ [(34, 21, 1), (0, 16, 1), (7, 8, 1), (1, 10, 1), (34, 22, 2), (35, 0, 1), (0, 2, 1), (35, 1, 2), (18, 21, 3), (1, 9, 1), (35, 3, 1), (32, 13, 3), (35, 4, 4), (0, 18, 1), (28, 19, 1), (10, 12, 1), (32, 8, 3), (0, 15, 1), (32, 11, 1), (1, 22, 1), (2, 0, 1), (2, 6, 3), (1, 21, 1), (1, 23, 1), (2, 1, 5), (32, 12, 1), (29, 8, 4), (2, 13, 1), (29, 12, 1), (11, 14, 4), (11, 1, 3), (2, 14, 1), (11, 4, 4), (1, 13, 1), (11, 8, 1), (3, 9, 1), (3, 6, 1), (3, 8, 1), (3, 7, 1), (11, 9, 4), (3, 5, 1), (3, 4, 1), (11, 18, 5), (7, 20, 1), (11, 23, 1), (12, 0, 3), (8, 8, 1), (12, 3, 2), (8, 17, 1), (12, 5, 2), (7, 17, 1), (12, 7, 12), (7, 23, 1), (12, 19, 5), (13, 0, 2), (7, 14, 1), (13, 2, 3), (8, 2, 1), (13, 5, 16), (8, 5, 1), (13, 21, 3), (14, 0, 5), (29, 13, 6), (20, 17, 2), (29, 19, 5), (33, 1, 4), (35, 8, 8)] rfl (by decide +kernel)) gt_lw_tbl_wsX110) gt_lw_tbl_wsX10) gt_lw_tbl_wsX00) gt_lw_tbl_wsX30) gt_lw_tbl_wsX40) gt_lw_tbl_wsX60) gt_lw_tbl_wsX70) gt_lw_tbl_wsX80) gt_lw_tbl_wsX100) gt_lw_tbl_wsX20
theorem gL_X11_order : GoodIn lw_tbl (wsV RL 69 RX11 yX11_order wsX11_order) := goodIn_app (goodIn_qs _ [(34, 18, 3), (0, 2, 1)] rfl (by decide +kernel)) ggL_X11_order
set_option maxRecDepth 20000 in
theorem ggL_X12_order : GoodIn lw_tbl wsX12_order := goodIn_ca (goodIn_qs _ [(35, 19, 1), (4, 0, 1), (5, 15, 1), (4, 10, 1), (5, 16, 1), (10, 1, 3), (0, 5, 1), (10, 4, 1), (35, 20, 4), (36, 0, 8), (4, 5, 1), (33, 9, 4), (4, 1, 1), (5, 10, 3), (4, 6, 1), (5, 13, 1), (4, 7, 1), (5, 14, 1), (4, 8, 1), (5, 9, 1), (33, 13, 4), (30, 4, 4), (4, 2, 1), (5, 8, 1), (15, 17, 4), (14, 17, 4), (5, 7, 1), (4, 18, 2), (14, 21, 3), (15, 0, 1), (4, 12, 1), (15, 1, 4), (4, 17, 1), (15, 5, 4), (4, 20, 3), (5, 6, 1), (15, 9, 4), (4, 3, 1), (15, 13, 4), (15, 21, 3), (16, 0, 1), (4, 4, 1), (4, 9, 1), (16, 1, 12), (5, 4, 1), (16, 13, 4), (30, 8, 8), (33, 17, 7), (34, 0, 1)] rfl (by decide +kernel)) gt_lw_tbl_wsX120
theorem gL_X12_order : GoodIn lw_tbl (wsV RL 72 RX12 yX12_order wsX12_order) := goodIn_app (goodIn_qs _ [(35, 16, 3), (0, 5, 1)] rfl (by decide +kernel)) ggL_X12_order
set_option maxRecDepth 20000 in
theorem ggL_X11_whets : GoodIn lw_tbl wsX11_whets := goodIn_ca (goodIn_ca (goodIn_ca (goodIn_ca (goodIn_ca (goodIn_ca (goodIn_ca (goodIn_ca (goodIn_ca (goodIn_ca (goodIn_qs _ [(36, 11, 4), (0, 2, 1), (36, 15, 5), (0, 18, 1), (0, 16, 1), (36, 20, 1), (10, 15, 1), (32, 8, 3), (0, 15, 1), (32, 11, 1), (1, 22, 1), (2, 0, 1), (2, 6, 3), (1, 21, 1), (1, 23, 1), (2, 1, 5), (32, 12, 4), (10, 16, 4), (7, 8, 1), (31, 16, 4), (31, 0, 4), (29, 18, 1), (20, 17, 1), (18, 22, 1), (20, 18, 1), (36, 21, 3), (30, 20, 4), (29, 8, 4), (2, 13, 1), (29, 12, 1), (11, 14, 4), (11, 1, 3), (2, 14, 1), (11, 4, 4), (1, 13, 1), (11, 8, 1), (3, 9, 1), (3, 6, 1), (3, 8, 1), (3, 7, 1), (11, 9, 4), (3, 5, 1), (3, 4, 1), (11, 18, 5), (7, 20, 1), (11, 23, 1), (12, 0, 3), (8, 8, 1), (12, 3, 2), (8, 17, 1), (12, 5, 2), (7, 17, 1), (12, 7, 12), (7, 23, 1), (12, 19, 5), (13, 0, 2), (7, 14, 1), (13, 2, 3), (8, 2, 1), (13, 5, 16), (8, 5, 1), (13, 21, 3), (14, 0, 5), (29, 13, 5), (18, 21, 1), (18, 23, 1), (29, 19, 5), (33, 1, 4)] rfl (by decide +kernel)) gt_lw_tbl_wsX110) gt_lw_tbl_wsX10) gt_lw_tbl_wsX00) gt_lw_tbl_wsX30) gt_lw_tbl_wsX40) gt_lw_tbl_wsX60) gt_lw_tbl_wsX70) gt_lw_tbl_wsX80) gt_lw_tbl_wsX100) gt_lw_tbl_wsX20
theorem gL_X11_whets : GoodIn lw_tbl (wsV RL 73 RX11 yX11_whets wsX11_whets) := goodIn_app (goodIn_qs _ [(36, 8, 3), (0, 2, 1)] rfl (by decide +kernel)) ggL_X11_whets
set_option maxRecDepth 20000 in
theorem ggL_X12_whets : GoodIn lw_tbl wsX12_whets := goodIn_ca (goodIn_qs _ [(37, 3, 1), (10, 1, 3), (0, 5, 1), (10, 4, 1), (37, 4, 4), (33, 9, 4), (4, 1, 1), (5, 10, 2), (4, 5, 1), (5, 12, 1), (4, 6, 1), (5, 13, 1), (4, 7, 1), (5, 14, 1), (4, 8, 1), (5, 9, 1), (31, 8, 4), (4, 0, 1), (15, 13, 4), (33, 13, 4), (30, 4, 4), (4, 2, 1), (5, 8, 1), (4, 10, 1), (15, 17, 4), (14, 17, 4), (5, 7, 1), (4, 18, 2), (14, 21, 3), (15, 0, 1), (4, 12, 1), (15, 1, 4), (4, 17, 1), (15, 5, 4), (4, 20, 3), (5, 6, 1), (15, 9, 4), (4, 3, 1), (15, 21, 3), (16, 0, 1), (4, 4, 1), (4, 9, 1), (16, 1, 12), (5, 4, 1), (16, 13, 4), (30, 8, 8), (33, 17, 7), (34, 0, 1)] rfl (by decide +kernel)) gt_lw_tbl_wsX120
theorem gL_X12_whets : GoodIn lw_tbl (wsV RL 76 RX12 yX12_whets wsX12_whets) := goodIn_app (goodIn_qs _ [(37, 0, 3), (0, 5, 1)] rfl (by decide +kernel)) ggL_X12_whets
set_option maxRecDepth 20000 in
theorem ggL_X11_apart : GoodIn lw_tbl wsX11_apart := goodIn_ca (goodIn_ca (goodIn_ca (goodIn_ca (goodIn_ca (goodIn_ca (goodIn_ca (goodIn_ca (goodIn_ca (goodIn_ca (goodIn_qs _ [(37, 11, 1), (36, 12, 3), (0, 2, 1), (36, 15, 5), (0, 18, 1), (0, 16, 1), (36, 20, 1), (10, 15, 1), (32, 8, 3), (0, 15, 1), (32, 11, 1), (1, 22, 1), (2, 0, 1), (2, 6, 3), (1, 21, 1), (1, 23, 1), (2, 1, 5), (32, 12, 4), (10, 16, 4), (7, 8, 1), (31, 16, 4), (31, 0, 4), (29, 18, 1), (20, 17, 1), (18, 22, 1), (20, 18, 1), (36, 21, 3), (30, 20, 4), (29, 8, 4), (2, 13, 1), (29, 12, 1), (11, 14, 4), (11, 1, 3), (2, 14, 1), (11, 4, 4), (1, 13, 1), (11, 8, 1), (3, 9, 1), (3, 6, 1), (3, 8, 1), (3, 7, 1), (11, 9, 4), (3, 5, 1), (3, 4, 1), (11, 18, 5), (7, 20, 1), (11, 23, 1), (12, 0, 3), (8, 8, 1), (12, 3, 2), (8, 17, 1), (12, 5, 2), (7, 17, 1), (12, 7, 12), (7, 23, 1), (12, 19, 5), (13, 0, 2), (7, 14, 1), (13, 2, 3), (8, 2, 1), (13, 5, 16), (8, 5, 1), (13, 21, 3), (14, 0, 5), (29, 13, 5), (18, 21, 1), (18, 23, 1), (29, 19, 5), (33, 1, 4)] rfl (by decide +kernel)) gt_lw_tbl_wsX110) gt_lw_tbl_wsX10) gt_lw_tbl_wsX00) gt_lw_tbl_wsX30) gt_lw_tbl_wsX40) gt_lw_tbl_wsX60) gt_lw_tbl_wsX70) gt_lw_tbl_wsX80) gt_lw_tbl_wsX100) gt_lw_tbl_wsX20
theorem gL_X11_apart : GoodIn lw_tbl (wsV RL 77 RX11 yX11_apart wsX11_apart) := goodIn_app (goodIn_qs _ [(37, 8, 3), (0, 2, 1)] rfl (by decide +kernel)) ggL_X11_apart
set_option maxRecDepth 20000 in
theorem ggL_X12_apart : GoodIn lw_tbl wsX12_apart := goodIn_ca (goodIn_qs _ [(37, 15, 1), (5, 4, 1), (10, 1, 3), (0, 5, 1), (10, 4, 1), (37, 16, 4), (33, 9, 4), (4, 1, 1), (5, 10, 2), (4, 5, 1), (5, 12, 1), (4, 6, 1), (5, 13, 1), (4, 7, 1), (5, 14, 1), (4, 8, 1), (5, 9, 1), (33, 13, 4), (30, 4, 4), (4, 2, 1), (5, 8, 1), (4, 10, 1), (15, 17, 4), (14, 17, 4), (5, 7, 1), (4, 18, 2), (14, 21, 3), (15, 0, 1), (4, 12, 1), (15, 1, 4), (4, 17, 1), (15, 5, 4), (4, 20, 3), (5, 6, 1), (15, 9, 4), (4, 3, 1), (15, 13, 4), (15, 21, 3), (16, 0, 1), (4, 4, 1), (4, 9, 1), (16, 1, 16), (30, 8, 8), (33, 17, 4), (4, 0, 1), (33, 21, 3), (34, 0, 1)] rfl (by decide +kernel)) gt_lw_tbl_wsX120
theorem gL_X12_apart : GoodIn lw_tbl (wsV RL 80 RX12 yX12_apart wsX12_apart) := goodIn_app (goodIn_qs _ [(37, 12, 3), (0, 5, 1)] rfl (by decide +kernel)) ggL_X12_apart
set_option maxRecDepth 20000 in
theorem ggL_X11_stop : GoodIn lw_tbl wsX11_stop := goodIn_ca (goodIn_ca (goodIn_ca (goodIn_ca (goodIn_ca (goodIn_ca (goodIn_ca (goodIn_ca (goodIn_ca (goodIn_ca (goodIn_qs _ [(37, 23, 1), (38, 0, 2), (0, 18, 1), (0, 16, 1), (10, 12, 1), (1, 11, 1), (35, 3, 1), (32, 13, 3), (10, 15, 4), (0, 2, 1), (10, 19, 1), (7, 8, 1), (32, 8, 3), (0, 15, 1), (32, 11, 1), (1, 22, 1), (2, 0, 1), (2, 6, 3), (1, 21, 1), (1, 23, 1), (2, 1, 5), (32, 12, 1), (32, 20, 4), (33, 0, 1), (29, 9, 3), (2, 13, 1), (29, 12, 1), (11, 14, 4), (11, 1, 3), (2, 14, 1), (11, 4, 4), (1, 13, 1), (11, 8, 1), (3, 9, 1), (3, 6, 1), (3, 8, 1), (3, 7, 1), (11, 9, 4), (3, 5, 1), (3, 4, 1), (11, 18, 5), (7, 20, 1), (11, 23, 1), (12, 0, 3), (8, 8, 1), (12, 3, 2), (8, 17, 1), (12, 5, 2), (7, 17, 1), (12, 7, 12), (7, 23, 1), (12, 19, 5), (13, 0, 2), (7, 14, 1), (13, 2, 3), (8, 2, 1), (13, 5, 16), (8, 5, 1), (13, 21, 3), (14, 0, 5), (29, 13, 5), (18, 21, 3), (29, 18, 1), (20, 17, 2), (29, 19, 5), (33, 1, 4), (38, 2, 4)] rfl (by decide +kernel)) gt_lw_tbl_wsX110) gt_lw_tbl_wsX10) gt_lw_tbl_wsX00) gt_lw_tbl_wsX30) gt_lw_tbl_wsX40) gt_lw_tbl_wsX60) gt_lw_tbl_wsX70) gt_lw_tbl_wsX80) gt_lw_tbl_wsX100) gt_lw_tbl_wsX20
theorem gL_X11_stop : GoodIn lw_tbl (wsV RL 81 RX11 yX11_stop wsX11_stop) := goodIn_app (goodIn_qs _ [(37, 20, 3), (0, 2, 1)] rfl (by decide +kernel)) ggL_X11_stop
set_option maxRecDepth 20000 in
theorem ggL_X12_stop : GoodIn lw_tbl wsX12_stop := goodIn_ca (goodIn_qs _ [(38, 9, 3), (5, 17, 1), (4, 5, 1), (4, 8, 1), (4, 0, 1), (14, 9, 3), (0, 5, 1), (14, 12, 1), (10, 1, 4), (33, 9, 4), (4, 1, 1), (5, 10, 3), (4, 6, 1), (5, 13, 1), (4, 7, 1), (5, 14, 1), (5, 9, 1), (33, 13, 4), (30, 4, 4), (4, 2, 1), (5, 8, 1), (4, 10, 1), (15, 17, 4), (14, 17, 4), (5, 7, 1), (4, 18, 2), (14, 21, 3), (15, 0, 1), (4, 12, 1), (15, 1, 4), (4, 17, 1), (15, 5, 4), (4, 20, 3), (5, 6, 1), (15, 9, 4), (4, 3, 1), (15, 13, 4), (15, 21, 3), (16, 0, 1), (4, 4, 1), (4, 9, 1), (16, 1, 12), (5, 4, 1), (16, 13, 4), (30, 8, 8), (33, 17, 7), (34, 0, 1)] rfl (by decide +kernel)) gt_lw_tbl_wsX120
theorem gL_X12_stop : GoodIn lw_tbl (wsV RL 85 RX12 yX12_stop wsX12_stop) := goodIn_app (goodIn_qs _ [(38, 6, 3), (0, 5, 1)] rfl (by decide +kernel)) ggL_X12_stop
set_option maxRecDepth 20000 in
theorem ggL_X11_alone : GoodIn lw_tbl wsX11_alone := goodIn_ca (goodIn_ca (goodIn_ca (goodIn_ca (goodIn_ca (goodIn_ca (goodIn_ca (goodIn_ca (goodIn_ca (goodIn_ca (goodIn_qs _ [(38, 15, 1), (38, 1, 1), (0, 18, 1), (0, 16, 1), (7, 8, 1), (28, 19, 1), (38, 16, 1), (10, 12, 1), (32, 8, 3), (0, 15, 1), (32, 11, 1), (1, 22, 1), (2, 0, 1), (2, 6, 3), (1, 21, 1), (1, 23, 1), (2, 1, 5), (32, 12, 4), (32, 20, 4), (33, 0, 1), (29, 9, 3), (2, 13, 1), (29, 12, 1), (11, 14, 4), (11, 1, 3), (2, 14, 1), (11, 4, 4), (1, 13, 1), (11, 8, 1), (3, 9, 1), (3, 6, 1), (3, 8, 1), (3, 7, 1), (11, 9, 4), (3, 5, 1), (3, 4, 1), (11, 18, 5), (7, 20, 1), (11, 23, 1), (12, 0, 3), (8, 8, 1), (12, 3, 2), (8, 17, 1), (12, 5, 2), (7, 17, 1), (12, 7, 12), (7, 23, 1), (12, 19, 5), (13, 0, 2), (7, 14, 1), (13, 2, 3), (8, 2, 1), (13, 5, 16), (8, 5, 1), (13, 21, 3), (14, 0, 5), (29, 13, 5), (18, 21, 3), (29, 18, 1), (20, 17, 2), (29, 19, 5), (33, 1, 4)] rfl (by decide +kernel)) gt_lw_tbl_wsX110) gt_lw_tbl_wsX10) gt_lw_tbl_wsX00) gt_lw_tbl_wsX30) gt_lw_tbl_wsX40) gt_lw_tbl_wsX60) gt_lw_tbl_wsX70) gt_lw_tbl_wsX80) gt_lw_tbl_wsX100) gt_lw_tbl_wsX20
theorem gL_X11_alone : GoodIn lw_tbl (wsV RL 86 RX11 yX11_alone wsX11_alone) := goodIn_app (goodIn_qs _ [(38, 12, 3), (0, 2, 1)] rfl (by decide +kernel)) ggL_X11_alone
set_option maxRecDepth 20000 in
theorem ggL_X12_alone : GoodIn lw_tbl wsX12_alone := goodIn_ca (goodIn_qs _ [(38, 20, 1), (38, 11, 1), (4, 0, 1), (10, 1, 3), (0, 5, 1), (10, 4, 1), (37, 16, 4), (33, 9, 4), (4, 1, 1), (5, 10, 2), (4, 5, 1), (5, 12, 1), (4, 6, 1), (5, 13, 1), (4, 7, 1), (5, 14, 1), (4, 8, 1), (5, 9, 1), (33, 13, 4), (30, 4, 4), (4, 2, 1), (5, 8, 1), (4, 10, 1), (15, 17, 4), (14, 17, 4), (5, 7, 1), (4, 18, 2), (14, 21, 3), (15, 0, 1), (4, 12, 1), (15, 1, 4), (4, 17, 1), (15, 5, 4), (4, 20, 3), (5, 6, 1), (15, 9, 4), (4, 3, 1), (15, 13, 4), (15, 21, 3), (16, 0, 1), (4, 4, 1), (4, 9, 1), (16, 1, 12), (5, 4, 1), (16, 13, 4), (30, 8, 8), (33, 17, 7), (34, 0, 1), (38, 21, 3), (39, 0, 1), (5, 15, 1)] rfl (by decide +kernel)) gt_lw_tbl_wsX120
theorem gL_X12_alone : GoodIn lw_tbl (wsV RL 89 RX12 yX12_alone wsX12_alone) := goodIn_app (goodIn_qs _ [(38, 17, 3), (0, 5, 1)] rfl (by decide +kernel)) ggL_X12_alone
set_option maxRecDepth 20000 in
theorem ggL_X11_rest : GoodIn lw_tbl wsX11_rest := goodIn_ca (goodIn_ca (goodIn_ca (goodIn_ca (goodIn_ca (goodIn_ca (goodIn_ca (goodIn_ca (goodIn_ca (goodIn_ca (goodIn_qs _ [(39, 4, 1), (0, 16, 1), (7, 8, 1), (36, 12, 3), (0, 2, 1), (36, 15, 5), (0, 18, 1), (36, 20, 1), (10, 15, 1), (32, 8, 3), (0, 15, 1), (32, 11, 1), (1, 22, 1), (2, 0, 1), (2, 6, 3), (1, 21, 1), (1, 23, 1), (2, 1, 5), (32, 12, 4), (10, 16, 4), (31, 16, 4), (31, 0, 4), (29, 18, 1), (20, 17, 1), (18, 22, 1), (20, 18, 1), (36, 21, 3), (30, 20, 4), (29, 8, 4), (2, 13, 1), (29, 12, 1), (11, 14, 4), (11, 1, 3), (2, 14, 1), (11, 4, 4), (1, 13, 1), (11, 8, 1), (3, 9, 1), (3, 6, 1), (3, 8, 1), (3, 7, 1), (11, 9, 4), (3, 5, 1), (3, 4, 1), (11, 18, 5), (7, 20, 1), (11, 23, 1), (12, 0, 3), (8, 8, 1), (12, 3, 2), (8, 17, 1), (12, 5, 2), (7, 17, 1), (12, 7, 12), (7, 23, 1), (12, 19, 5), (13, 0, 2), (7, 14, 1), (13, 2, 3), (8, 2, 1), (13, 5, 16), (8, 5, 1), (13, 21, 3), (14, 0, 5), (29, 13, 5), (18, 21, 1), (18, 23, 1), (29, 19, 5), (33, 1, 4)] rfl (by decide +kernel)) gt_lw_tbl_wsX110) gt_lw_tbl_wsX10) gt_lw_tbl_wsX00) gt_lw_tbl_wsX30) gt_lw_tbl_wsX40) gt_lw_tbl_wsX60) gt_lw_tbl_wsX70) gt_lw_tbl_wsX80) gt_lw_tbl_wsX100) gt_lw_tbl_wsX20
theorem gL_X11_rest : GoodIn lw_tbl (wsV RL 90 RX11 yX11_rest wsX11_rest) := goodIn_app (goodIn_qs _ [(39, 1, 3), (0, 2, 1)] rfl (by decide +kernel)) ggL_X11_rest
set_option maxRecDepth 20000 in
theorem ggL_X12_rest : GoodIn lw_tbl wsX12_rest := goodIn_ca (goodIn_qs _ [(39, 8, 1), (4, 0, 1), (10, 1, 3), (0, 5, 1), (10, 4, 1), (37, 16, 4), (33, 9, 4), (4, 1, 1), (5, 10, 2), (4, 5, 1), (5, 12, 1), (4, 6, 1), (5, 13, 1), (4, 7, 1), (5, 14, 1), (4, 8, 1), (5, 9, 1), (33, 13, 4), (30, 4, 4), (4, 2, 1), (5, 8, 1), (4, 10, 1), (15, 17, 4), (14, 17, 4), (5, 7, 1), (4, 18, 2), (14, 21, 3), (15, 0, 1), (4, 12, 1), (15, 1, 4), (4, 17, 1), (15, 5, 4), (4, 20, 3), (5, 6, 1), (15, 9, 4), (4, 3, 1), (15, 13, 4), (15, 21, 3), (16, 0, 1), (4, 4, 1), (4, 9, 1), (16, 1, 12), (5, 4, 1), (16, 13, 4), (30, 8, 8), (33, 17, 7), (34, 0, 1), (39, 9, 4)] rfl (by decide +kernel)) gt_lw_tbl_wsX120
theorem gL_X12_rest : GoodIn lw_tbl (wsV RL 93 RX12 yX12_rest wsX12_rest) := goodIn_app (goodIn_qs _ [(39, 5, 3), (0, 5, 1)] rfl (by decide +kernel)) ggL_X12_rest
set_option maxRecDepth 20000 in
theorem ggL_X11_paused : GoodIn lw_tbl wsX11_paused := goodIn_ca (goodIn_ca (goodIn_ca (goodIn_ca (goodIn_ca (goodIn_ca (goodIn_ca (goodIn_ca (goodIn_ca (goodIn_ca (goodIn_qs _ [(39, 16, 1), (36, 12, 3), (0, 2, 1), (36, 15, 5), (0, 18, 1), (0, 16, 1), (36, 20, 1), (10, 15, 1), (32, 8, 3), (0, 15, 1), (32, 11, 1), (1, 22, 1), (2, 0, 1), (2, 6, 3), (1, 21, 1), (1, 23, 1), (2, 1, 5), (32, 12, 4), (10, 16, 4), (7, 8, 1), (31, 16, 4), (31, 0, 4), (29, 18, 1), (20, 17, 1), (18, 22, 1), (20, 18, 1), (36, 21, 3), (30, 20, 4), (29, 8, 4), (2, 13, 1), (29, 12, 1), (11, 14, 4), (11, 1, 3), (2, 14, 1), (11, 4, 4), (1, 13, 1), (11, 8, 1), (3, 9, 1), (3, 6, 1), (3, 8, 1), (3, 7, 1), (11, 9, 4), (3, 5, 1), (3, 4, 1), (11, 18, 5), (7, 20, 1), (11, 23, 1), (12, 0, 3), (8, 8, 1), (12, 3, 2), (8, 17, 1), (12, 5, 2), (7, 17, 1), (12, 7, 12), (7, 23, 1), (12, 19, 5), (13, 0, 2), (7, 14, 1), (13, 2, 3), (8, 2, 1), (13, 5, 16), (8, 5, 1), (13, 21, 3), (14, 0, 5), (29, 13, 5), (18, 21, 1), (18, 23, 1), (29, 19, 5), (33, 1, 4)] rfl (by decide +kernel)) gt_lw_tbl_wsX110) gt_lw_tbl_wsX10) gt_lw_tbl_wsX00) gt_lw_tbl_wsX30) gt_lw_tbl_wsX40) gt_lw_tbl_wsX60) gt_lw_tbl_wsX70) gt_lw_tbl_wsX80) gt_lw_tbl_wsX100) gt_lw_tbl_wsX20
theorem gL_X11_paused : GoodIn lw_tbl (wsV RL 94 RX11 yX11_paused wsX11_paused) := goodIn_app (goodIn_qs _ [(39, 13, 3), (0, 2, 1)] rfl (by decide +kernel)) ggL_X11_paused
set_option maxRecDepth 20000 in
theorem ggL_X12_paused : GoodIn lw_tbl wsX12_paused := goodIn_ca (goodIn_qs _ [(39, 20, 1), (10, 1, 3), (0, 5, 1), (10, 4, 1), (33, 9, 4), (4, 1, 1), (5, 10, 2), (4, 5, 1), (5, 12, 1), (4, 6, 1), (5, 13, 1), (4, 7, 1), (5, 14, 1), (4, 8, 1), (5, 9, 1), (33, 13, 4), (30, 4, 4), (4, 2, 1), (5, 8, 1), (4, 10, 1), (15, 17, 4), (14, 17, 4), (5, 7, 1), (4, 18, 2), (14, 21, 3), (15, 0, 1), (4, 12, 1), (15, 1, 4), (4, 17, 1), (15, 5, 4), (4, 20, 3), (5, 6, 1), (15, 9, 4), (4, 3, 1), (15, 13, 4), (15, 21, 3), (16, 0, 1), (4, 4, 1), (4, 9, 1), (16, 1, 12), (5, 4, 1), (16, 13, 4), (30, 8, 8), (32, 0, 4), (4, 0, 1), (33, 17, 7), (34, 0, 1)] rfl (by decide +kernel)) gt_lw_tbl_wsX120
theorem gL_X12_paused : GoodIn lw_tbl (wsV RL 97 RX12 yX12_paused wsX12_paused) := goodIn_app (goodIn_qs _ [(39, 17, 3), (0, 5, 1)] rfl (by decide +kernel)) ggL_X12_paused
set_option maxRecDepth 20000 in
theorem ggL_X11_see : GoodIn lw_tbl wsX11_see := goodIn_ca (goodIn_ca (goodIn_ca (goodIn_qs _ [(40, 0, 1), (0, 16, 1), (40, 1, 2), (10, 16, 3), (0, 2, 1), (10, 19, 1), (7, 8, 1), (40, 3, 3), (1, 6, 1), (40, 6, 1), (2, 19, 2), (40, 7, 4)] rfl (by decide +kernel)) gt_lw_tbl_wsX110) gt_lw_tbl_wsX10) gt_lw_tbl_wsX50
theorem gL_X11_see : GoodIn lw_tbl (wsV RL 98 RX11 yX11_see wsX11_see) := goodIn_app (goodIn_qs _ [(39, 21, 3), (0, 2, 1)] rfl (by decide +kernel)) ggL_X11_see
set_option maxRecDepth 20000 in
theorem ggL_X12_see : GoodIn lw_tbl wsX12_see := goodIn_ca (goodIn_qs _ [(40, 14, 1), (5, 18, 4), (14, 9, 3), (0, 5, 1), (14, 12, 1), (4, 0, 1), (10, 1, 4)] rfl (by decide +kernel)) gt_lw_tbl_wsX120
theorem gL_X12_see : GoodIn lw_tbl (wsV RL 101 RX12 yX12_see wsX12_see) := goodIn_app (goodIn_qs _ [(40, 11, 3), (0, 5, 1)] rfl (by decide +kernel)) ggL_X12_see
set_option maxRecDepth 20000 in
theorem ggL_X11_who : GoodIn lw_tbl wsX11_who := goodIn_ca (goodIn_ca (goodIn_ca (goodIn_ca (goodIn_ca (goodIn_ca (goodIn_ca (goodIn_ca (goodIn_ca (goodIn_ca (goodIn_ca (goodIn_qs _ [(40, 18, 1), (0, 16, 1), (7, 8, 1), (0, 18, 1), (10, 15, 1), (32, 8, 3), (0, 15, 1), (32, 11, 1), (1, 22, 1), (2, 0, 1), (2, 6, 3), (1, 21, 1), (1, 23, 1), (2, 1, 5), (32, 12, 4), (40, 19, 3), (0, 2, 1), (40, 22, 2), (41, 0, 3), (40, 1, 1), (41, 3, 1), (40, 2, 1), (10, 12, 1), (29, 8, 4), (2, 13, 1), (29, 12, 1), (11, 14, 4), (11, 1, 3), (2, 14, 1), (11, 4, 4), (1, 13, 1), (11, 8, 1), (3, 9, 1), (3, 6, 1), (3, 8, 1), (3, 7, 1), (11, 9, 4), (3, 5, 1), (3, 4, 1), (11, 18, 5), (7, 20, 1), (11, 23, 1), (12, 0, 3), (8, 8, 1), (12, 3, 2), (8, 17, 1), (12, 5, 2), (7, 17, 1), (12, 7, 12), (7, 23, 1), (12, 19, 5), (13, 0, 2), (7, 14, 1), (13, 2, 3), (8, 2, 1), (13, 5, 16), (8, 5, 1), (13, 21, 3), (14, 0, 5), (29, 13, 5), (18, 21, 3), (29, 18, 1), (20, 17, 2), (29, 19, 5)] rfl (by decide +kernel)) gt_lw_tbl_wsX110) gt_lw_tbl_wsX10) gt_lw_tbl_wsX50) gt_lw_tbl_wsX00) gt_lw_tbl_wsX30) gt_lw_tbl_wsX40) gt_lw_tbl_wsX60) gt_lw_tbl_wsX70) gt_lw_tbl_wsX80) gt_lw_tbl_wsX100) gt_lw_tbl_wsX20
theorem gL_X11_who : GoodIn lw_tbl (wsV RL 102 RX11 yX11_who wsX11_who) := goodIn_app (goodIn_qs _ [(40, 15, 3), (0, 2, 1)] rfl (by decide +kernel)) ggL_X11_who
set_option maxRecDepth 20000 in
theorem ggL_X12_who : GoodIn lw_tbl wsX12_who := goodIn_ca (goodIn_qs _ [(41, 7, 1), (4, 0, 1), (5, 18, 1), (41, 8, 3), (0, 5, 1), (41, 11, 1), (4, 8, 1), (5, 20, 1), (4, 5, 1), (5, 19, 1), (5, 21, 1), (33, 9, 4), (4, 1, 1), (5, 10, 3), (4, 6, 1), (5, 13, 1), (4, 7, 1), (5, 14, 1), (5, 9, 1), (33, 13, 4), (30, 4, 4), (4, 2, 1), (5, 8, 1), (4, 10, 1), (15, 17, 4), (14, 17, 4), (5, 7, 1), (4, 18, 2), (14, 21, 3), (15, 0, 1), (4, 12, 1), (15, 1, 4), (4, 17, 1), (15, 5, 4), (4, 20, 3), (5, 6, 1), (15, 9, 4), (4, 3, 1), (15, 13, 4), (15, 21, 3), (16, 0, 1), (4, 4, 1), (4, 9, 1), (16, 1, 12), (5, 4, 1), (16, 13, 4), (30, 8, 8), (33, 21, 3), (34, 0, 1)] rfl (by decide +kernel)) gt_lw_tbl_wsX120
theorem gL_X12_who : GoodIn lw_tbl (wsV RL 105 RX12 yX12_who wsX12_who) := goodIn_app (goodIn_qs _ [(41, 4, 3), (0, 5, 1)] rfl (by decide +kernel)) ggL_X12_who
set_option maxRecDepth 20000 in
theorem ggL_X11_odds : GoodIn lw_tbl wsX11_odds := goodIn_ca (goodIn_ca (goodIn_ca (goodIn_ca (goodIn_ca (goodIn_ca (goodIn_ca (goodIn_ca (goodIn_ca (goodIn_ca (goodIn_qs _ [(41, 15, 2), (0, 16, 1), (7, 8, 1), (0, 18, 1), (10, 15, 4), (0, 2, 1), (10, 19, 1), (32, 8, 3), (0, 15, 1), (32, 11, 1), (1, 22, 1), (2, 0, 1), (2, 6, 3), (1, 21, 1), (1, 23, 1), (2, 1, 5), (32, 12, 8), (29, 8, 4), (2, 13, 1), (29, 12, 1), (11, 14, 4), (11, 1, 3), (2, 14, 1), (11, 4, 4), (1, 13, 1), (11, 8, 1), (3, 9, 1), (3, 6, 1), (3, 8, 1), (3, 7, 1), (11, 9, 4), (3, 5, 1), (3, 4, 1), (11, 18, 5), (7, 20, 1), (11, 23, 1), (12, 0, 3), (8, 8, 1), (12, 3, 2), (8, 17, 1), (12, 5, 2), (7, 17, 1), (12, 7, 12), (7, 23, 1), (12, 19, 5), (13, 0, 2), (7, 14, 1), (13, 2, 3), (8, 2, 1), (13, 5, 16), (8, 5, 1), (13, 21, 3), (14, 0, 5), (29, 13, 5), (18, 21, 3), (29, 18, 1), (20, 17, 2), (29, 19, 5), (41, 17, 3)] rfl (by decide +kernel)) gt_lw_tbl_wsX110) gt_lw_tbl_wsX10) gt_lw_tbl_wsX00) gt_lw_tbl_wsX30) gt_lw_tbl_wsX40) gt_lw_tbl_wsX60) gt_lw_tbl_wsX70) gt_lw_tbl_wsX80) gt_lw_tbl_wsX100) gt_lw_tbl_wsX20
theorem gL_X11_odds : GoodIn lw_tbl (wsV RL 106 RX11 yX11_odds wsX11_odds) := goodIn_app (goodIn_qs _ [(41, 12, 3), (0, 2, 1)] rfl (by decide +kernel)) ggL_X11_odds
set_option maxRecDepth 20000 in
theorem ggL_X12_odds : GoodIn lw_tbl wsX12_odds := goodIn_ca (goodIn_qs _ [(41, 23, 1), (42, 0, 1), (4, 0, 1), (4, 8, 1), (5, 9, 1), (14, 9, 3), (0, 5, 1), (14, 12, 1), (10, 1, 4), (33, 9, 4), (4, 1, 1), (5, 10, 2), (4, 5, 1), (5, 12, 1), (4, 6, 1), (5, 13, 1), (4, 7, 1), (5, 14, 1), (33, 13, 4), (30, 4, 4), (4, 2, 1), (5, 8, 1), (4, 10, 1), (15, 17, 4), (14, 17, 4), (5, 7, 1), (4, 18, 2), (14, 21, 3), (15, 0, 1), (4, 12, 1), (15, 1, 4), (4, 17, 1), (15, 5, 4), (4, 20, 3), (5, 6, 1), (15, 9, 4), (4, 3, 1), (15, 13, 4), (15, 21, 3), (16, 0, 1), (4, 4, 1), (4, 9, 1), (16, 1, 12), (5, 4, 1), (16, 13, 4), (30, 8, 8), (33, 21, 3), (34, 0, 1), (42, 1, 8)] rfl (by decide +kernel)) gt_lw_tbl_wsX120
theorem gL_X12_odds : GoodIn lw_tbl (wsV RL 110 RX12 yX12_odds wsX12_odds) := goodIn_app (goodIn_qs _ [(41, 20, 3), (0, 5, 1)] rfl (by decide +kernel)) ggL_X12_odds
set_option maxRecDepth 20000 in
theorem ggL_X11_mean : GoodIn lw_tbl wsX11_mean := goodIn_ca (goodIn_ca (goodIn_ca (goodIn_ca (goodIn_ca (goodIn_ca (goodIn_ca (goodIn_ca (goodIn_ca (goodIn_ca (goodIn_qs _ [(42, 12, 1), (0, 16, 1), (7, 8, 1), (41, 16, 1), (0, 18, 1), (32, 8, 3), (0, 15, 1), (32, 11, 1), (1, 22, 1), (2, 0, 1), (2, 6, 3), (1, 21, 1), (1, 23, 1), (2, 1, 5), (32, 12, 4), (32, 20, 4), (33, 0, 1), (29, 9, 3), (2, 13, 1), (29, 12, 1), (11, 14, 4), (11, 1, 3), (2, 14, 1), (11, 4, 4), (1, 13, 1), (11, 8, 1), (3, 9, 1), (3, 6, 1), (3, 8, 1), (3, 7, 1), (11, 9, 4), (3, 5, 1), (3, 4, 1), (11, 18, 5), (7, 20, 1), (11, 23, 1), (12, 0, 3), (8, 8, 1), (12, 3, 2), (8, 17, 1), (12, 5, 2), (7, 17, 1), (12, 7, 12), (7, 23, 1), (12, 19, 5), (13, 0, 2), (7, 14, 1), (13, 2, 3), (8, 2, 1), (13, 5, 16), (8, 5, 1), (13, 21, 3), (14, 0, 5), (29, 13, 5), (18, 21, 3), (29, 18, 1), (20, 17, 2), (29, 19, 5), (33, 1, 4), (41, 17, 2), (0, 2, 1), (41, 19, 1)] rfl (by decide +kernel)) gt_lw_tbl_wsX110) gt_lw_tbl_wsX10) gt_lw_tbl_wsX00) gt_lw_tbl_wsX30) gt_lw_tbl_wsX40) gt_lw_tbl_wsX60) gt_lw_tbl_wsX70) gt_lw_tbl_wsX80) gt_lw_tbl_wsX100) gt_lw_tbl_wsX20
theorem gL_X11_mean : GoodIn lw_tbl (wsV RL 111 RX11 yX11_mean wsX11_mean) := goodIn_app (goodIn_qs _ [(42, 9, 3), (0, 2, 1)] rfl (by decide +kernel)) ggL_X11_mean
set_option maxRecDepth 20000 in
theorem ggL_X12_mean : GoodIn lw_tbl wsX12_mean := goodIn_ca (goodIn_qs _ [(42, 16, 1), (4, 0, 1), (42, 0, 1), (10, 1, 3), (0, 5, 1), (10, 4, 1), (37, 16, 4), (33, 9, 4), (4, 1, 1), (5, 10, 2), (4, 5, 1), (5, 12, 1), (4, 6, 1), (5, 13, 1), (4, 7, 1), (5, 14, 1), (4, 8, 1), (5, 9, 1), (33, 13, 4), (30, 4, 4), (4, 2, 1), (5, 8, 1), (4, 10, 1), (15, 17, 4), (14, 17, 4), (5, 7, 1), (4, 18, 2), (14, 21, 3), (15, 0, 1), (4, 12, 1), (15, 1, 4), (4, 17, 1), (15, 5, 4), (4, 20, 3), (5, 6, 1), (15, 9, 4), (4, 3, 1), (15, 13, 4), (15, 21, 3), (16, 0, 1), (4, 4, 1), (4, 9, 1), (16, 1, 12), (5, 4, 1), (16, 13, 4), (30, 8, 8), (33, 17, 7), (34, 0, 1), (42, 1, 8)] rfl (by decide +kernel)) gt_lw_tbl_wsX120
theorem gL_X12_mean : GoodIn lw_tbl (wsV RL 115 RX12 yX12_mean wsX12_mean) := goodIn_app (goodIn_qs _ [(42, 13, 3), (0, 5, 1)] rfl (by decide +kernel)) ggL_X12_mean
set_option maxRecDepth 20000 in
theorem ggL_X11_plan : GoodIn lw_tbl wsX11_plan := goodIn_ca (goodIn_ca (goodIn_ca (goodIn_qs _ [(42, 20, 1), (0, 16, 1), (42, 21, 1), (40, 2, 4), (1, 6, 1), (40, 6, 1), (2, 19, 2), (40, 7, 4)] rfl (by decide +kernel)) gt_lw_tbl_wsX110) gt_lw_tbl_wsX10) gt_lw_tbl_wsX50
theorem gL_X11_plan : GoodIn lw_tbl (wsV RL 116 RX11 yX11_plan wsX11_plan) := goodIn_app (goodIn_qs _ [(42, 17, 3), (0, 2, 1)] rfl (by decide +kernel)) ggL_X11_plan
set_option maxRecDepth 20000 in
theorem ggL_X12_plan : GoodIn lw_tbl wsX12_plan := goodIn_ca (goodIn_qs _ [(43, 1, 1), (5, 22, 1), (6, 0, 1), (10, 1, 3), (0, 5, 1), (10, 4, 1)] rfl (by decide +kernel)) gt_lw_tbl_wsX120
theorem gL_X12_plan : GoodIn lw_tbl (wsV RL 119 RX12 yX12_plan wsX12_plan) := goodIn_app (goodIn_qs _ [(42, 22, 2), (43, 0, 1), (0, 5, 1)] rfl (by decide +kernel)) ggL_X12_plan
set_option maxRecDepth 20000 in
theorem ggL_X11_planned : GoodIn lw_tbl wsX11_planned := goodIn_ca (goodIn_ca (goodIn_ca (goodIn_ca (goodIn_ca (goodIn_ca (goodIn_ca (goodIn_ca (goodIn_ca (goodIn_ca (goodIn_ca (goodIn_qs _ [(43, 5, 1), (0, 18, 1), (0, 16, 1), (42, 21, 1), (40, 2, 1), (41, 3, 1), (32, 8, 3), (0, 15, 1), (32, 11, 1), (1, 22, 1), (2, 0, 1), (2, 6, 3), (1, 21, 1), (1, 23, 1), (2, 1, 5), (32, 12, 4), (29, 8, 4), (2, 13, 1), (29, 12, 1), (11, 14, 4), (11, 1, 3), (2, 14, 1), (11, 4, 4), (1, 13, 1), (11, 8, 1), (3, 9, 1), (3, 6, 1), (3, 8, 1), (3, 7, 1), (11, 9, 4), (3, 5, 1), (3, 4, 1), (11, 18, 5), (7, 20, 1), (11, 23, 1), (12, 0, 3), (8, 8, 1), (12, 3, 2), (8, 17, 1), (12, 5, 2), (7, 17, 1), (12, 7, 12), (7, 23, 1), (12, 19, 5), (13, 0, 2), (7, 14, 1), (13, 2, 3), (8, 2, 1), (13, 5, 16), (8, 5, 1), (13, 21, 3), (14, 0, 5), (29, 13, 5), (18, 21, 3), (29, 18, 1), (20, 17, 2), (29, 19, 5), (30, 20, 4), (31, 0, 4), (31, 16, 4), (33, 1, 4)] rfl (by decide +kernel)) gt_lw_tbl_wsX110) gt_lw_tbl_wsX10) gt_lw_tbl_wsX50) gt_lw_tbl_wsX00) gt_lw_tbl_wsX30) gt_lw_tbl_wsX40) gt_lw_tbl_wsX60) gt_lw_tbl_wsX70) gt_lw_tbl_wsX80) gt_lw_tbl_wsX100) gt_lw_tbl_wsX20
theorem gL_X11_planned : GoodIn lw_tbl (wsV RL 120 RX11 yX11_planned wsX11_planned) := goodIn_app (goodIn_qs _ [(43, 2, 3), (0, 2, 1)] rfl (by decide +kernel)) ggL_X11_planned
set_option maxRecDepth 20000 in
theorem ggL_X12_planned : GoodIn lw_tbl wsX12_planned := goodIn_ca (goodIn_qs _ [(43, 9, 1), (5, 22, 1), (6, 0, 1), (33, 9, 3), (0, 5, 1), (33, 12, 1), (4, 1, 1), (5, 10, 2), (4, 5, 1), (5, 12, 1), (4, 6, 1), (5, 13, 1), (4, 7, 1), (5, 14, 1), (4, 8, 1), (5, 9, 1), (33, 13, 4), (30, 4, 4), (4, 2, 1), (5, 8, 1), (4, 10, 1), (15, 17, 4), (14, 17, 4), (5, 7, 1), (4, 18, 2), (14, 21, 3), (15, 0, 1), (4, 12, 1), (15, 1, 4), (4, 17, 1), (15, 5, 4), (4, 20, 3), (5, 6, 1), (15, 9, 4), (4, 3, 1), (15, 13, 4), (15, 21, 3), (16, 0, 1), (4, 4, 1), (4, 9, 1), (16, 1, 12), (5, 4, 1), (16, 13, 4), (30, 8, 8), (31, 8, 4), (4, 0, 1), (32, 0, 4), (33, 17, 7), (34, 0, 1)] rfl (by decide +kernel)) gt_lw_tbl_wsX120
theorem gL_X12_planned : GoodIn lw_tbl (wsV RL 123 RX12 yX12_planned wsX12_planned) := goodIn_app (goodIn_qs _ [(43, 6, 3), (0, 5, 1)] rfl (by decide +kernel)) ggL_X12_planned
set_option maxRecDepth 20000 in
theorem ggL_X11_book : GoodIn lw_tbl wsX11_book := goodIn_ca (goodIn_ca (goodIn_ca (goodIn_qs _ [(43, 13, 1), (0, 16, 1), (43, 14, 1), (40, 2, 1), (10, 16, 3), (0, 2, 1), (10, 19, 1), (7, 8, 1), (40, 3, 3), (1, 6, 1), (40, 6, 1), (2, 19, 2), (40, 7, 4)] rfl (by decide +kernel)) gt_lw_tbl_wsX110) gt_lw_tbl_wsX10) gt_lw_tbl_wsX50
theorem gL_X11_book : GoodIn lw_tbl (wsV RL 124 RX11 yX11_book wsX11_book) := goodIn_app (goodIn_qs _ [(43, 10, 3), (0, 2, 1)] rfl (by decide +kernel)) ggL_X11_book
set_option maxRecDepth 20000 in
theorem ggL_X12_book : GoodIn lw_tbl wsX12_book := goodIn_ca (goodIn_qs _ [(43, 18, 1), (5, 23, 1), (6, 1, 1), (14, 9, 3), (0, 5, 1), (14, 12, 1), (4, 0, 1), (10, 1, 4)] rfl (by decide +kernel)) gt_lw_tbl_wsX120
theorem gL_X12_book : GoodIn lw_tbl (wsV RL 127 RX12 yX12_book wsX12_book) := goodIn_app (goodIn_qs _ [(43, 15, 3), (0, 5, 1)] rfl (by decide +kernel)) ggL_X12_book
set_option maxRecDepth 20000 in
theorem ggL_X11_looked : GoodIn lw_tbl wsX11_looked := goodIn_ca (goodIn_ca (goodIn_ca (goodIn_ca (goodIn_ca (goodIn_ca (goodIn_ca (goodIn_ca (goodIn_ca (goodIn_ca (goodIn_ca (goodIn_qs _ [(43, 22, 1), (0, 18, 1), (0, 16, 1), (43, 14, 1), (40, 2, 1), (41, 3, 1), (32, 8, 3), (0, 15, 1), (32, 11, 1), (1, 22, 1), (2, 0, 1), (2, 6, 3), (1, 21, 1), (1, 23, 1), (2, 1, 5), (32, 12, 4), (29, 8, 4), (2, 13, 1), (29, 12, 1), (11, 14, 4), (11, 1, 3), (2, 14, 1), (11, 4, 4), (1, 13, 1), (11, 8, 1), (3, 9, 1), (3, 6, 1), (3, 8, 1), (3, 7, 1), (11, 9, 4), (3, 5, 1), (3, 4, 1), (11, 18, 5), (7, 20, 1), (11, 23, 1), (12, 0, 3), (8, 8, 1), (12, 3, 2), (8, 17, 1), (12, 5, 2), (7, 17, 1), (12, 7, 12), (7, 23, 1), (12, 19, 5), (13, 0, 2), (7, 14, 1), (13, 2, 3), (8, 2, 1), (13, 5, 16), (8, 5, 1), (13, 21, 3), (14, 0, 5), (29, 13, 5), (18, 21, 3), (29, 18, 1), (20, 17, 2), (29, 19, 5)] rfl (by decide +kernel)) gt_lw_tbl_wsX110) gt_lw_tbl_wsX10) gt_lw_tbl_wsX50) gt_lw_tbl_wsX00) gt_lw_tbl_wsX30) gt_lw_tbl_wsX40) gt_lw_tbl_wsX60) gt_lw_tbl_wsX70) gt_lw_tbl_wsX80) gt_lw_tbl_wsX100) gt_lw_tbl_wsX20
theorem gL_X11_looked : GoodIn lw_tbl (wsV RL 128 RX11 yX11_looked wsX11_looked) := goodIn_app (goodIn_qs _ [(43, 19, 3), (0, 2, 1)] rfl (by decide +kernel)) ggL_X11_looked
set_option maxRecDepth 20000 in
theorem ggL_X12_looked : GoodIn lw_tbl wsX12_looked := goodIn_ca (goodIn_qs _ [(44, 2, 1), (5, 23, 1), (6, 1, 1), (33, 9, 3), (0, 5, 1), (33, 12, 1), (4, 1, 1), (5, 10, 2), (4, 5, 1), (5, 12, 1), (4, 6, 1), (5, 13, 1), (4, 7, 1), (5, 14, 1), (4, 8, 1), (5, 9, 1), (30, 4, 4), (4, 2, 1), (5, 8, 1), (4, 10, 1), (15, 17, 4), (14, 17, 4), (5, 7, 1), (4, 18, 2), (14, 21, 3), (15, 0, 1), (4, 12, 1), (15, 1, 4), (4, 17, 1), (15, 5, 4), (4, 20, 3), (5, 6, 1), (15, 9, 4), (4, 3, 1), (15, 13, 4), (15, 21, 3), (16, 0, 1), (4, 4, 1), (4, 9, 1), (16, 1, 12), (5, 4, 1), (16, 13, 4), (30, 8, 8), (33, 21, 3), (34, 0, 1), (36, 0, 4)] rfl (by decide +kernel)) gt_lw_tbl_wsX120
theorem gL_X12_looked : GoodIn lw_tbl (wsV RL 131 RX12 yX12_looked wsX12_looked) := goodIn_app (goodIn_qs _ [(43, 23, 1), (44, 0, 2), (0, 5, 1)] rfl (by decide +kernel)) ggL_X12_looked
set_option maxRecDepth 20000 in
theorem ggL_X11_judge : GoodIn lw_tbl wsX11_judge := goodIn_ca (goodIn_ca (goodIn_ca (goodIn_qs _ [(44, 6, 1), (1, 3, 1), (44, 7, 1), (0, 16, 1), (7, 8, 1), (44, 8, 1), (10, 12, 1), (44, 9, 2), (0, 2, 1), (44, 11, 4), (1, 16, 1), (44, 15, 1), (3, 18, 1), (44, 16, 4), (3, 19, 1)] rfl (by decide +kernel)) gt_lw_tbl_wsX110) gt_lw_tbl_wsX90) gt_lw_tbl_wsX10
theorem gL_X11_judge : GoodIn lw_tbl (wsV RL 132 RX11 yX11_judge wsX11_judge) := goodIn_app (goodIn_qs _ [(44, 3, 3), (0, 2, 1)] rfl (by decide +kernel)) ggL_X11_judge
set_option maxRecDepth 20000 in
theorem ggL_X12_judge : GoodIn lw_tbl wsX12_judge := goodIn_ca (goodIn_qs _ [(44, 23, 1), (7, 0, 1), (4, 0, 1), (7, 1, 2), (4, 5, 1), (45, 0, 3), (0, 5, 1), (45, 3, 1), (10, 1, 4)] rfl (by decide +kernel)) gt_lw_tbl_wsX120
theorem gL_X12_judge : GoodIn lw_tbl (wsV RL 135 RX12 yX12_judge wsX12_judge) := goodIn_app (goodIn_qs _ [(44, 20, 3), (0, 5, 1)] rfl (by decide +kernel)) ggL_X12_judge
set_option maxRecDepth 20000 in
theorem ggL_X11_image : GoodIn lw_tbl wsX11_image := goodIn_ca (goodIn_ca (goodIn_ca (goodIn_qs _ [(45, 7, 1), (0, 17, 1), (0, 16, 1), (0, 19, 1), (7, 8, 1), (32, 8, 3), (0, 15, 1), (32, 11, 1), (1, 22, 1), (2, 0, 1), (2, 6, 3), (1, 21, 1), (1, 23, 1), (2, 1, 5), (32, 12, 4), (45, 8, 4), (2, 10, 3), (45, 12, 3), (1, 6, 1), (45, 15, 1), (2, 19, 2), (45, 16, 1), (18, 21, 3), (45, 17, 1)] rfl (by decide +kernel)) gt_lw_tbl_wsX110) gt_lw_tbl_wsX10) gt_lw_tbl_wsX50
theorem gL_X11_image : GoodIn lw_tbl (wsV RL 136 RX11 yX11_image wsX11_image) := goodIn_app (goodIn_qs _ [(45, 4, 3), (0, 2, 1)] rfl (by decide +kernel)) ggL_X11_image
set_option maxRecDepth 20000 in
theorem ggL_X12_image : GoodIn lw_tbl wsX12_image := goodIn_ca (goodIn_qs _ [(45, 21, 1), (6, 2, 1), (4, 12, 1), (6, 3, 1), (4, 0, 1), (6, 4, 1), (4, 1, 1), (6, 5, 1), (5, 18, 1), (6, 6, 1), (5, 22, 1), (6, 7, 1), (5, 23, 1), (6, 8, 2), (4, 3, 1), (6, 10, 1), (4, 4, 1), (6, 11, 1), (4, 5, 1), (6, 12, 1), (4, 6, 1), (6, 13, 1), (4, 7, 1), (6, 14, 1), (4, 8, 1), (6, 15, 1), (4, 10, 1), (6, 17, 1), (5, 19, 1), (6, 18, 1), (5, 20, 1), (6, 19, 1), (5, 21, 1), (6, 16, 1), (4, 9, 1), (6, 20, 1), (6, 0, 1), (6, 21, 1), (6, 1, 1)] rfl (by decide +kernel)) gt_lw_tbl_wsX120
theorem gL_X12_image : GoodIn lw_tbl (wsV RL 139 RX12 yX12_image wsX12_image) := goodIn_app (goodIn_qs _ [(45, 18, 3), (0, 5, 1)] rfl (by decide +kernel)) ggL_X12_image
set_option maxRecDepth 20000 in
theorem ggL_X11_undo : GoodIn lw_tbl wsX11_undo := goodIn_ca (goodIn_ca (goodIn_ca (goodIn_qs _ [(46, 1, 1), (0, 19, 1), (0, 16, 2), (7, 8, 1), (32, 8, 3), (0, 15, 1), (32, 11, 1), (1, 22, 1), (2, 0, 1), (2, 6, 3), (1, 21, 1), (1, 23, 1), (2, 1, 5), (32, 12, 4), (45, 8, 4), (2, 10, 3), (45, 12, 3), (1, 6, 1), (45, 15, 1), (2, 19, 2), (45, 16, 1), (18, 21, 3), (45, 17, 1)] rfl (by decide +kernel)) gt_lw_tbl_wsX110) gt_lw_tbl_wsX10) gt_lw_tbl_wsX50
theorem gL_X11_undo : GoodIn lw_tbl (wsV RL 140 RX11 yX11_undo wsX11_undo) := goodIn_app (goodIn_qs _ [(45, 22, 2), (46, 0, 1), (0, 2, 1)] rfl (by decide +kernel)) ggL_X11_undo
set_option maxRecDepth 20000 in
theorem ggL_X12_undo : GoodIn lw_tbl wsX12_undo := goodIn_ca (goodIn_qs _ [(46, 5, 1), (6, 2, 2), (4, 12, 1), (6, 4, 1), (4, 0, 1), (4, 2, 1), (6, 5, 1), (4, 1, 1), (6, 6, 1), (5, 18, 1), (6, 7, 1), (5, 22, 1), (6, 8, 1), (5, 23, 1), (4, 3, 1), (6, 9, 1), (4, 4, 1), (6, 10, 1), (4, 5, 1), (6, 11, 1), (4, 6, 1), (6, 12, 1), (4, 7, 1), (6, 13, 1), (4, 8, 1), (6, 14, 1), (4, 10, 1), (6, 15, 1), (5, 19, 1), (6, 17, 1), (5, 20, 1), (6, 18, 1), (5, 21, 1), (6, 19, 1), (4, 9, 1), (6, 16, 1), (6, 0, 1), (6, 20, 1), (6, 1, 1), (6, 21, 1)] rfl (by decide +kernel)) gt_lw_tbl_wsX120
theorem gL_X12_undo : GoodIn lw_tbl (wsV RL 143 RX12 yX12_undo wsX12_undo) := goodIn_app (goodIn_qs _ [(46, 2, 3), (0, 5, 1)] rfl (by decide +kernel)) ggL_X12_undo
set_option maxRecDepth 20000 in
theorem ggL_X11_act : GoodIn lw_tbl wsX11_act := goodIn_ca (goodIn_ca (goodIn_ca (goodIn_ca (goodIn_ca (goodIn_ca (goodIn_ca (goodIn_ca (goodIn_ca (goodIn_ca (goodIn_qs _ [(46, 9, 1), (1, 7, 1), (40, 2, 1), (0, 16, 1), (10, 9, 1), (10, 16, 3), (0, 2, 1), (10, 19, 1), (7, 8, 1), (46, 10, 4), (8, 8, 1), (46, 14, 1), (8, 17, 1), (46, 15, 1), (40, 8, 2), (1, 6, 1), (40, 10, 1), (2, 19, 2), (46, 16, 3), (7, 17, 1), (46, 19, 3), (12, 14, 1), (46, 22, 2), (47, 0, 2), (7, 23, 1), (47, 2, 6), (8, 5, 1), (47, 8, 9), (8, 18, 1), (47, 17, 7), (48, 0, 4), (13, 0, 1), (48, 4, 1), (7, 14, 1), (48, 5, 14), (7, 20, 1), (48, 19, 3), (12, 1, 1), (48, 22, 2), (49, 0, 12), (8, 2, 1), (49, 12, 6)] rfl (by decide +kernel)) gt_lw_tbl_wsX110) gt_lw_tbl_wsX50) gt_lw_tbl_wsX10) gt_lw_tbl_wsX00) gt_lw_tbl_wsX30) gt_lw_tbl_wsX40) gt_lw_tbl_wsX60) gt_lw_tbl_wsX70) gt_lw_tbl_wsX80) gt_lw_tbl_wsX100
theorem gL_X11_act : GoodIn lw_tbl (wsV RL 144 RX11 yX11_act wsX11_act) := goodIn_app (goodIn_qs _ [(46, 6, 3), (0, 2, 1)] rfl (by decide +kernel)) ggL_X11_act
set_option maxRecDepth 20000 in
theorem ggL_X12_act : GoodIn lw_tbl wsX12_act := goodIn_ca (goodIn_qs _ [(49, 21, 1), (6, 22, 1), (14, 9, 3), (0, 5, 1), (14, 12, 1), (4, 0, 1), (10, 1, 4), (49, 22, 2), (50, 0, 2), (4, 3, 2), (50, 2, 4), (6, 23, 1), (50, 6, 18), (51, 0, 6)] rfl (by decide +kernel)) gt_lw_tbl_wsX120
theorem gL_X12_act : GoodIn lw_tbl (wsV RL 147 RX12 yX12_act wsX12_act) := goodIn_app (goodIn_qs _ [(49, 18, 3), (0, 5, 1)] rfl (by decide +kernel)) ggL_X12_act
set_option maxRecDepth 20000 in
theorem ggL_X11_trace : GoodIn lw_tbl wsX11_trace := goodIn_ca (goodIn_ca (goodIn_qs _ [(51, 9, 1), (1, 7, 1), (41, 3, 1), (51, 10, 3), (1, 6, 1), (51, 13, 1), (2, 19, 2)] rfl (by decide +kernel)) gt_lw_tbl_wsX110) gt_lw_tbl_wsX50
theorem gL_X11_trace : GoodIn lw_tbl (wsV RL 148 RX11 yX11_trace wsX11_trace) := goodIn_app (goodIn_qs _ [(51, 6, 3), (0, 2, 1)] rfl (by decide +kernel)) ggL_X11_trace
set_option maxRecDepth 20000 in
theorem ggL_X12_trace : GoodIn lw_tbl wsX12_trace := goodIn_ca (goodIn_qs _ [(51, 17, 1), (6, 22, 2), (10, 1, 3), (0, 5, 1), (10, 4, 1)] rfl (by decide +kernel)) gt_lw_tbl_wsX120
theorem gL_X12_trace : GoodIn lw_tbl (wsV RL 151 RX12 yX12_trace wsX12_trace) := goodIn_app (goodIn_qs _ [(51, 14, 3), (0, 5, 1)] rfl (by decide +kernel)) ggL_X12_trace
set_option maxRecDepth 20000 in
theorem ggL_X11_taken : GoodIn lw_tbl wsX11_taken := goodIn_ca (goodIn_ca (goodIn_ca (goodIn_ca (goodIn_ca (goodIn_ca (goodIn_ca (goodIn_ca (goodIn_ca (goodIn_qs _ [(51, 21, 1), (0, 16, 1), (10, 9, 2), (10, 16, 3), (0, 2, 1), (10, 19, 1), (7, 8, 1), (51, 22, 2), (52, 0, 6), (17, 9, 1)] rfl (by decide +kernel)) gt_lw_tbl_wsX110) gt_lw_tbl_wsX10) gt_lw_tbl_wsX00) gt_lw_tbl_wsX30) gt_lw_tbl_wsX40) gt_lw_tbl_wsX60) gt_lw_tbl_wsX70) gt_lw_tbl_wsX80) gt_lw_tbl_wsX100
theorem gL_X11_taken : GoodIn lw_tbl (wsV RL 152 RX11 yX11_taken wsX11_taken) := goodIn_app (goodIn_qs _ [(51, 18, 3), (0, 2, 1)] rfl (by decide +kernel)) ggL_X11_taken
set_option maxRecDepth 20000 in
theorem ggL_X12_taken : GoodIn lw_tbl wsX12_taken := goodIn_ca (goodIn_qs _ [(52, 9, 1), (4, 3, 1), (10, 1, 3), (0, 5, 1), (10, 4, 1), (14, 9, 4), (4, 0, 1)] rfl (by decide +kernel)) gt_lw_tbl_wsX120
theorem gL_X12_taken : GoodIn lw_tbl (wsV RL 155 RX12 yX12_taken wsX12_taken) := goodIn_app (goodIn_qs _ [(52, 6, 3), (0, 5, 1)] rfl (by decide +kernel)) ggL_X12_taken
set_option maxRecDepth 20000 in
theorem ggL_X11_count : GoodIn lw_tbl wsX11_count := goodIn_ca (goodIn_ca (goodIn_ca (goodIn_qs _ [(52, 13, 1), (0, 16, 1), (7, 8, 1), (0, 22, 1), (40, 1, 2), (42, 21, 1), (43, 14, 1), (1, 1, 1), (1, 7, 1)] rfl (by decide +kernel)) gt_lw_tbl_wsX110) gt_lw_tbl_wsX10) gt_lw_tbl_wsX50
theorem gL_X11_count : GoodIn lw_tbl (wsV RL 156 RX11 yX11_count wsX11_count) := goodIn_app (goodIn_qs _ [(52, 10, 3), (0, 2, 1)] rfl (by decide +kernel)) ggL_X11_count
set_option maxRecDepth 20000 in
theorem ggL_X12_count : GoodIn lw_tbl wsX12_count := goodIn_ca (goodIn_qs _ [(52, 17, 1), (4, 0, 1), (4, 11, 1), (5, 18, 1), (5, 22, 2), (4, 13, 1), (6, 22, 1)] rfl (by decide +kernel)) gt_lw_tbl_wsX120
theorem gL_X12_count : GoodIn lw_tbl (wsV RL 159 RX12 yX12_count wsX12_count) := goodIn_app (goodIn_qs _ [(52, 14, 3), (0, 5, 1)] rfl (by decide +kernel)) ggL_X12_count
set_option maxRecDepth 20000 in
theorem ggL_X11_tape : GoodIn lw_tbl wsX11_tape := goodIn_ca (goodIn_ca (goodIn_qs _ [(52, 21, 1), (1, 3, 1), (44, 9, 2), (0, 2, 1), (44, 11, 1), (52, 22, 2), (53, 0, 1), (1, 16, 1), (53, 1, 1), (3, 18, 2), (3, 17, 1), (53, 2, 4)] rfl (by decide +kernel)) gt_lw_tbl_wsX110) gt_lw_tbl_wsX90
theorem gL_X11_tape : GoodIn lw_tbl (wsV RL 160 RX11 yX11_tape wsX11_tape) := goodIn_app (goodIn_qs _ [(52, 18, 3), (0, 2, 1)] rfl (by decide +kernel)) ggL_X11_tape
set_option maxRecDepth 20000 in
theorem ggL_X12_tape : GoodIn lw_tbl wsX12_tape := goodIn_ca (goodIn_qs _ [(53, 9, 1), (7, 0, 3), (45, 0, 3), (0, 5, 1), (45, 3, 1), (10, 1, 4)] rfl (by decide +kernel)) gt_lw_tbl_wsX120
theorem gL_X12_tape : GoodIn lw_tbl (wsV RL 163 RX12 yX12_tape wsX12_tape) := goodIn_app (goodIn_qs _ [(53, 6, 3), (0, 5, 1)] rfl (by decide +kernel)) ggL_X12_tape
set_option maxRecDepth 20000 in
theorem ggL_X11_item : GoodIn lw_tbl wsX11_item := goodIn_ca (goodIn_ca (goodIn_qs _ [(53, 13, 1), (1, 3, 1), (44, 8, 3), (0, 2, 1), (44, 11, 4), (1, 16, 1), (44, 15, 1), (3, 18, 1), (44, 16, 4), (3, 19, 1), (53, 14, 4)] rfl (by decide +kernel)) gt_lw_tbl_wsX110) gt_lw_tbl_wsX90
theorem gL_X11_item : GoodIn lw_tbl (wsV RL 166 RX11 yX11_item wsX11_item) := goodIn_app (goodIn_qs _ [(53, 10, 3), (0, 2, 1)] rfl (by decide +kernel)) ggL_X11_item
set_option maxRecDepth 20000 in
theorem ggL_X12_item : GoodIn lw_tbl wsX12_item := goodIn_ca (goodIn_qs _ [(53, 21, 1), (7, 0, 3), (45, 0, 3), (0, 5, 1), (45, 3, 1), (10, 1, 4), (53, 22, 2), (54, 0, 2)] rfl (by decide +kernel)) gt_lw_tbl_wsX120
theorem gL_X12_item : GoodIn lw_tbl (wsV RL 170 RX12 yX12_item wsX12_item) := goodIn_app (goodIn_qs _ [(53, 18, 3), (0, 5, 1)] rfl (by decide +kernel)) ggL_X12_item
set_option maxRecDepth 20000 in
theorem ggL_X11_read : GoodIn lw_tbl wsX11_read := goodIn_ca (goodIn_ca (goodIn_qs _ [(54, 5, 1), (1, 3, 1), (44, 8, 1), (41, 16, 1), (44, 9, 2), (0, 2, 1), (44, 11, 1), (44, 16, 3), (1, 16, 1), (44, 19, 1), (3, 19, 1)] rfl (by decide +kernel)) gt_lw_tbl_wsX110) gt_lw_tbl_wsX90
theorem gL_X11_read : GoodIn lw_tbl (wsV RL 171 RX11 yX11_read wsX11_read) := goodIn_app (goodIn_qs _ [(54, 2, 3), (0, 2, 1)] rfl (by decide +kernel)) ggL_X11_read
set_option maxRecDepth 20000 in
theorem ggL_X12_read : GoodIn lw_tbl wsX12_read := goodIn_ca (goodIn_qs _ [(54, 9, 1), (7, 0, 2), (42, 0, 1), (7, 2, 1), (45, 0, 3), (0, 5, 1), (45, 3, 1), (10, 1, 4)] rfl (by decide +kernel)) gt_lw_tbl_wsX120
theorem gL_X12_read : GoodIn lw_tbl (wsV RL 174 RX12 yX12_read wsX12_read) := goodIn_app (goodIn_qs _ [(54, 6, 3), (0, 5, 1)] rfl (by decide +kernel)) ggL_X12_read
set_option maxRecDepth 20000 in
theorem ggL_X11_shift : GoodIn lw_tbl wsX11_shift := goodIn_ca (goodIn_ca (goodIn_qs _ [(54, 13, 1), (1, 3, 1), (44, 7, 2), (35, 3, 1), (32, 13, 3), (44, 9, 2), (0, 2, 1), (44, 11, 4), (1, 16, 1), (44, 15, 1), (3, 18, 1), (54, 14, 4), (3, 19, 1)] rfl (by decide +kernel)) gt_lw_tbl_wsX110) gt_lw_tbl_wsX90
theorem gL_X11_shift : GoodIn lw_tbl (wsV RL 175 RX11 yX11_shift wsX11_shift) := goodIn_app (goodIn_qs _ [(54, 10, 3), (0, 2, 1)] rfl (by decide +kernel)) ggL_X11_shift
set_option maxRecDepth 20000 in
theorem ggL_X12_shift : GoodIn lw_tbl wsX12_shift := goodIn_ca (goodIn_qs _ [(54, 21, 1), (7, 0, 2), (7, 3, 1), (7, 2, 1), (45, 0, 3), (0, 5, 1), (45, 3, 1), (10, 1, 4)] rfl (by decide +kernel)) gt_lw_tbl_wsX120
theorem gL_X12_shift : GoodIn lw_tbl (wsV RL 179 RX12 yX12_shift wsX12_shift) := goodIn_app (goodIn_qs _ [(54, 18, 3), (0, 5, 1)] rfl (by decide +kernel)) ggL_X12_shift
