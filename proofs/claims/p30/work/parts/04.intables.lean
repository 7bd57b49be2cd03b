theorem goodIn_s {big : List Cond} (ws : List Cond) (rs : List (Nat × Nat)) (hp : ws = (rs.map (fun q => (big.drop q.1).take q.2)).flatten) (h : ws.all goodWord = true) : GoodIn big ws := by
  intro w hw
  have h1 := List.all_eq_true.mp h w hw
  rw [hp] at hw
  obtain ⟨l, hl, hw2⟩ := List.mem_flatten.mp hw
  obtain ⟨q, -, rfl⟩ := List.mem_map.mp hl
  exact ⟨List.mem_of_mem_drop (List.mem_of_mem_take hw2), good_of_word h1⟩
/-! the law's words, each at its table and place -/
noncomputable def tabR : List (List Cond) := [k2_sels lw_privs, tables_1_1, tables_1_2, tables_1_3, tables_1_4, tables_1_5, tables_1_6, tables_1_7]
theorem tabR_in : ∀ L ∈ tabR, ∀ w ∈ L, w ∈ lw_tbl := by
  intro L hL w hw
  simp only [tabR, List.mem_cons, List.not_mem_nil, or_false] at hL
  unfold lw_tbl tables_1
  simp only [List.mem_append]
  rcases hL with rfl | rfl | rfl | rfl | rfl | rfl | rfl | rfl
  · exact Or.inl hw
  · exact Or.inr (Or.inl hw)
  · exact Or.inr (Or.inr (Or.inl hw))
  · exact Or.inr (Or.inr (Or.inr (Or.inl hw)))
  · exact Or.inr (Or.inr (Or.inr (Or.inr (Or.inl hw))))
  · exact Or.inr (Or.inr (Or.inr (Or.inr (Or.inr (Or.inl hw)))))
  · exact Or.inr (Or.inr (Or.inr (Or.inr (Or.inr (Or.inr (Or.inl hw))))))
  · exact Or.inr (Or.inr (Or.inr (Or.inr (Or.inr (Or.inr (Or.inr hw))))))
theorem in_q (ws : List Cond) (ps : List (Nat × Nat)) (hp : ws = ps.filterMap (fun q => (tabR.getD q.1 [])[q.2]?)) : ∀ w ∈ ws, w ∈ lw_tbl := by
  intro w hw
  rw [hp] at hw
  obtain ⟨⟨j, k⟩, -, hi⟩ := List.mem_filterMap.mp hw
  have hm : w ∈ tabR.getD j [] := List.mem_of_getElem? hi
  rw [List.getD_eq_getElem?_getD] at hm
  cases hj : tabR[j]? with
  | none => rw [hj] at hm; exact absurd hm List.not_mem_nil
  | some L => rw [hj] at hm; exact tabR_in L (List.mem_of_getElem? hj) w hm
theorem in_qs (ws : List Cond) (rs : List (Nat × Nat × Nat)) (hp : ws = (rs.map (fun q => ((tabR.getD q.1 []).drop q.2.1).take q.2.2)).flatten) : ∀ w ∈ ws, w ∈ lw_tbl := by
  intro w hw
  rw [hp] at hw
  obtain ⟨l, hl, hw2⟩ := List.mem_flatten.mp hw
  obtain ⟨⟨j, k, m⟩, -, rfl⟩ := List.mem_map.mp hl
  have hm : w ∈ tabR.getD j [] := List.mem_of_mem_drop (List.mem_of_mem_take hw2)
  rw [List.getD_eq_getElem?_getD] at hm
  cases hj : tabR[j]? with
  | none => rw [hj] at hm; exact absurd hm List.not_mem_nil
  | some L => rw [hj] at hm; exact tabR_in L (List.mem_of_getElem? hj) w hm
set_option maxRecDepth 20000 in
theorem wsL_in_1 : ∀ w ∈ wsL_law_r1, w ∈ lw_tbl := in_qs _ [(1, 22, 2), (1, 1, 1), (5, 8, 2), (1, 6, 1), (7, 160, 1), (1, 24, 8), (1, 2, 1), (1, 198, 4), (1, 125, 1), (1, 202, 2), (1, 179, 1)] rfl
set_option maxRecDepth 20000 in
theorem wsL_in_2 : ∀ w ∈ wsL_law_r2, w ∈ lw_tbl := in_q _ [(1, 204), (1, 205), (1, 127), (1, 206), (1, 129), (1, 39), (1, 3), (1, 207), (1, 53), (1, 208), (1, 209), (1, 210), (1, 131), (1, 4), (1, 79), (1, 180), (1, 5), (1, 33), (1, 34), (1, 35), (1, 36), (1, 54), (1, 56), (1, 58)] rfl
set_option maxRecDepth 20000 in
theorem wsL_in_3 : ∀ w ∈ wsL_law_r3, w ∈ lw_tbl := in_q _ [(1, 60), (1, 62), (1, 64), (1, 67), (1, 70), (1, 72), (1, 75), (1, 78), (1, 80), (1, 38), (1, 82), (1, 84), (1, 86), (1, 88), (1, 89), (1, 40), (1, 41), (1, 42), (1, 43), (1, 46), (1, 44), (1, 130), (1, 133), (1, 134)] rfl
set_option maxRecDepth 20000 in
theorem wsL_in_4 : ∀ w ∈ wsL_law_r4, w ∈ lw_tbl := in_qs _ [(1, 135, 2), (1, 139, 1), (1, 142, 1), (1, 145, 9), (1, 182, 3), (1, 197, 1), (1, 185, 1), (1, 187, 1), (1, 189, 1), (5, 10, 4)] rfl
set_option maxRecDepth 20000 in
theorem wsL_in_5 : ∀ w ∈ wsL_law_r5, w ∈ lw_tbl := in_qs _ [(5, 14, 24)] rfl
set_option maxRecDepth 20000 in
theorem wsL_in_6 : ∀ w ∈ wsL_law_r6, w ∈ lw_tbl := in_qs _ [(5, 38, 5), (6, 0, 1), (5, 43, 18)] rfl
set_option maxRecDepth 20000 in
theorem wsL_in_7 : ∀ w ∈ wsL_law_r7, w ∈ lw_tbl := in_qs _ [(5, 61, 24)] rfl
set_option maxRecDepth 20000 in
theorem wsL_in_8 : ∀ w ∈ wsL_law_r8, w ∈ lw_tbl := in_qs _ [(5, 85, 4), (1, 238, 2), (2, 0, 2), (1, 57, 1), (2, 2, 5), (1, 8, 1), (2, 40, 2), (1, 9, 1), (2, 50, 2), (1, 10, 1), (2, 60, 2), (1, 11, 1)] rfl
set_option maxRecDepth 20000 in
theorem wsL_in_9 : ∀ w ∈ wsL_law_r9, w ∈ lw_tbl := in_qs _ [(2, 70, 2), (1, 12, 1), (2, 80, 2), (1, 13, 1), (2, 90, 2), (1, 7, 1), (2, 7, 8), (2, 17, 1), (2, 25, 1), (2, 42, 4), (2, 52, 1)] rfl
set_option maxRecDepth 20000 in
theorem wsL_in_10 : ∀ w ∈ wsL_law_r10, w ∈ lw_tbl := in_qs _ [(2, 53, 3), (2, 62, 4), (2, 72, 4), (2, 82, 4), (2, 92, 1), (2, 97, 4), (2, 24, 1), (6, 1, 3)] rfl
set_option maxRecDepth 20000 in
theorem wsL_in_11 : ∀ w ∈ wsL_law_r11, w ∈ lw_tbl := in_q _ [(6, 4), (6, 5), (6, 7), (0, 28), (6, 8), (2, 101), (2, 102), (2, 103), (2, 104), (1, 55), (2, 15), (2, 32), (1, 63), (1, 66), (1, 69), (1, 71), (2, 105), (2, 107), (0, 0), (2, 108), (2, 109), (2, 110), (2, 111), (2, 112)] rfl
set_option maxRecDepth 20000 in
theorem wsL_in_12 : ∀ w ∈ wsL_law_r12, w ∈ lw_tbl := in_qs _ [(2, 113, 4), (2, 16, 1), (2, 117, 5), (2, 123, 1), (0, 1, 1), (2, 124, 7), (2, 133, 1), (2, 131, 1), (2, 134, 3)] rfl
set_option maxRecDepth 20000 in
theorem wsL_in_13 : ∀ w ∈ wsL_law_r13, w ∈ lw_tbl := in_q _ [(2, 137), (2, 59), (2, 131), (2, 165), (1, 68), (2, 138), (2, 139), (2, 140), (1, 65), (2, 18), (2, 19), (2, 28), (2, 29), (2, 141), (2, 49), (2, 130), (2, 132), (2, 142), (2, 143), (2, 144), (2, 26), (2, 27), (2, 145), (7, 161)] rfl
set_option maxRecDepth 20000 in
theorem wsL_in_14 : ∀ w ∈ wsL_law_r14, w ∈ lw_tbl := in_qs _ [(2, 69, 1), (2, 146, 6), (7, 162, 1), (2, 79, 1), (2, 152, 8), (1, 137, 1), (2, 160, 4), (1, 73, 1), (2, 20, 1)] rfl
set_option maxRecDepth 20000 in
theorem wsL_in_15 : ∀ w ∈ wsL_law_r15, w ∈ lw_tbl := in_q _ [(2, 21), (1, 76), (2, 164), (7, 163), (2, 89), (6, 93), (6, 94), (6, 95), (6, 96), (6, 13), (6, 15), (0, 29), (6, 16), (6, 25), (6, 27), (0, 30), (6, 28), (6, 97), (6, 99), (0, 45), (6, 100), (6, 101), (6, 103), (0, 46)] rfl
set_option maxRecDepth 20000 in
theorem wsL_in_16 : ∀ w ∈ wsL_law_r16, w ∈ lw_tbl := in_q _ [(6, 104), (6, 105), (6, 107), (0, 47), (6, 108), (6, 109), (6, 111), (0, 48), (6, 112), (6, 113), (6, 115), (0, 49), (6, 116), (6, 117), (6, 119), (0, 50), (6, 120), (6, 121), (6, 123), (0, 51), (6, 124), (6, 125), (6, 127), (0, 52)] rfl
set_option maxRecDepth 20000 in
theorem wsL_in_17 : ∀ w ∈ wsL_law_r17, w ∈ lw_tbl := in_q _ [(6, 128), (6, 129), (6, 131), (0, 53), (6, 132), (6, 133), (6, 135), (0, 54), (6, 136), (6, 137), (6, 139), (0, 55), (6, 140), (6, 141), (6, 143), (0, 56), (6, 144), (2, 166), (2, 167), (2, 168), (2, 169), (2, 170), (2, 171), (2, 172)] rfl
set_option maxRecDepth 20000 in
theorem wsL_in_18 : ∀ w ∈ wsL_law_r18, w ∈ lw_tbl := in_qs _ [(2, 173, 1), (6, 9, 4), (2, 174, 4), (2, 80, 1), (1, 74, 1), (6, 17, 4), (2, 178, 9)] rfl
set_option maxRecDepth 20000 in
theorem wsL_in_19 : ∀ w ∈ wsL_law_r19, w ∈ lw_tbl := in_qs _ [(6, 21, 4), (2, 187, 4), (6, 29, 4), (2, 191, 10), (1, 14, 1), (2, 201, 1)] rfl
set_option maxRecDepth 20000 in
theorem wsL_in_20 : ∀ w ∈ wsL_law_r20, w ∈ lw_tbl := in_q _ [(2, 202), (2, 204), (0, 2), (2, 205), (2, 207), (2, 209), (0, 3), (2, 210), (2, 211), (2, 213), (0, 4), (2, 214), (2, 215), (2, 216), (2, 217), (1, 15), (2, 218), (2, 219), (2, 220), (2, 221), (2, 222), (7, 175), (2, 223), (2, 224)] rfl
set_option maxRecDepth 20000 in
theorem wsL_in_21 : ∀ w ∈ wsL_law_r21, w ∈ lw_tbl := in_qs _ [(2, 225, 3), (7, 174, 1), (2, 229, 10), (1, 16, 1), (2, 239, 1), (3, 3, 4), (3, 0, 3), (3, 7, 1)] rfl
set_option maxRecDepth 20000 in
theorem wsL_in_22 : ∀ w ∈ wsL_law_r22, w ∈ lw_tbl := in_qs _ [(3, 8, 4), (1, 17, 1), (3, 12, 17), (3, 30, 2)] rfl
set_option maxRecDepth 20000 in
theorem wsL_in_23 : ∀ w ∈ wsL_law_r23, w ∈ lw_tbl := in_qs _ [(1, 18, 1), (3, 32, 8), (3, 41, 1), (3, 43, 1), (3, 45, 5), (1, 19, 1), (3, 50, 7)] rfl
set_option maxRecDepth 20000 in
theorem wsL_in_24 : ∀ w ∈ wsL_law_r24, w ∈ lw_tbl := in_qs _ [(3, 57, 3), (3, 61, 1), (0, 5, 1), (3, 62, 4), (3, 71, 15)] rfl
set_option maxRecDepth 20000 in
theorem wsL_in_25 : ∀ w ∈ wsL_law_r25, w ∈ lw_tbl := in_q _ [(3, 86), (3, 87), (3, 88), (3, 89), (3, 90), (3, 91), (3, 92), (3, 94), (0, 6), (3, 95), (3, 96), (3, 98), (0, 7), (3, 99), (3, 100), (3, 102), (0, 8), (3, 103), (3, 104), (3, 106), (0, 9), (3, 107), (3, 108), (3, 110)] rfl
set_option maxRecDepth 20000 in
theorem wsL_in_26 : ∀ w ∈ wsL_law_r26, w ∈ lw_tbl := in_q _ [(0, 10), (3, 116), (3, 118), (0, 12), (3, 119), (3, 111), (3, 112), (3, 114), (0, 11), (3, 115), (3, 120), (3, 122), (0, 13), (3, 123), (3, 126), (3, 128), (0, 14), (3, 129), (3, 130), (3, 131), (3, 132), (3, 133), (3, 134), (6, 33)] rfl
set_option maxRecDepth 20000 in
theorem wsL_in_27 : ∀ w ∈ wsL_law_r27, w ∈ lw_tbl := in_q _ [(6, 34), (6, 35), (6, 36), (6, 37), (6, 39), (0, 31), (6, 40), (6, 41), (6, 43), (0, 32), (6, 44), (6, 45), (6, 47), (0, 33), (6, 48), (6, 49), (6, 51), (0, 34), (6, 52), (6, 53), (6, 55), (0, 35), (6, 56), (6, 57)] rfl
set_option maxRecDepth 20000 in
theorem wsL_in_28 : ∀ w ∈ wsL_law_r28, w ∈ lw_tbl := in_q _ [(6, 59), (0, 36), (6, 60), (6, 61), (6, 63), (0, 37), (6, 64), (6, 65), (6, 67), (0, 38), (6, 68), (6, 69), (6, 71), (0, 39), (6, 72), (6, 73), (6, 75), (0, 40), (6, 76), (6, 77), (6, 79), (0, 41), (6, 80), (6, 81)] rfl
set_option maxRecDepth 20000 in
theorem wsL_in_29 : ∀ w ∈ wsL_law_r29, w ∈ lw_tbl := in_q _ [(6, 83), (0, 42), (6, 84), (6, 85), (6, 87), (0, 43), (6, 88), (6, 89), (6, 91), (0, 44), (6, 92), (3, 135), (3, 136), (3, 137), (3, 138), (1, 77), (1, 138), (1, 140), (1, 143), (1, 59), (6, 145), (6, 146), (6, 147), (6, 148)] rfl
set_option maxRecDepth 20000 in
theorem wsL_in_30 : ∀ w ∈ wsL_law_r30, w ∈ lw_tbl := in_qs _ [(6, 149, 1), (6, 151, 1), (0, 57, 1), (6, 152, 1), (3, 139, 10), (3, 150, 1), (0, 15, 1), (3, 151, 4), (3, 156, 1), (0, 16, 1), (3, 157, 1), (1, 141, 1)] rfl
set_option maxRecDepth 20000 in
theorem wsL_in_31 : ∀ w ∈ wsL_law_r31, w ∈ lw_tbl := in_qs _ [(6, 153, 5), (6, 159, 1), (0, 58, 1), (6, 160, 2), (6, 163, 1), (0, 59, 1), (6, 164, 2), (6, 167, 1), (0, 60, 1), (6, 168, 1), (3, 158, 8)] rfl
set_option maxRecDepth 20000 in
theorem wsL_in_32 : ∀ w ∈ wsL_law_r32, w ∈ lw_tbl := in_qs _ [(3, 166, 1), (3, 168, 1), (0, 17, 1), (3, 169, 1), (6, 169, 5), (6, 175, 1), (0, 61, 1), (6, 176, 1), (3, 170, 8), (6, 177, 4)] rfl
set_option maxRecDepth 20000 in
theorem wsL_in_33 : ∀ w ∈ wsL_law_r33, w ∈ lw_tbl := in_qs _ [(6, 181, 1), (6, 183, 1), (0, 62, 1), (6, 184, 1), (3, 178, 9), (3, 188, 1), (3, 187, 1), (1, 20, 1), (3, 189, 1), (3, 191, 1), (0, 18, 1), (3, 192, 5)] rfl
set_option maxRecDepth 20000 in
theorem wsL_in_34 : ∀ w ∈ wsL_law_r34, w ∈ lw_tbl := in_q _ [(3, 197), (3, 198), (3, 199), (3, 200), (3, 201), (6, 185), (6, 186), (6, 187), (6, 188), (6, 189), (6, 191), (0, 63), (6, 192), (6, 193), (6, 195), (0, 64), (6, 196), (6, 197), (6, 199), (0, 65), (6, 200), (6, 201), (6, 203), (0, 66)] rfl
set_option maxRecDepth 20000 in
theorem wsL_in_35 : ∀ w ∈ wsL_law_r35, w ∈ lw_tbl := in_qs _ [(6, 204, 1), (3, 202, 8), (1, 144, 1), (6, 205, 5), (6, 211, 1), (0, 67, 1), (6, 212, 1), (3, 210, 5), (3, 216, 1)] rfl
set_option maxRecDepth 20000 in
theorem wsL_in_36 : ∀ w ∈ wsL_law_r36, w ∈ lw_tbl := in_q _ [(0, 19), (3, 217), (3, 218), (3, 223), (3, 219), (3, 221), (0, 20), (3, 222), (3, 224), (3, 226), (0, 21), (3, 227), (3, 228), (3, 230), (0, 22), (3, 231), (6, 213), (6, 214), (6, 215), (6, 216), (6, 217), (6, 219), (0, 68), (6, 220)] rfl
set_option maxRecDepth 20000 in
theorem wsL_in_37 : ∀ w ∈ wsL_law_r37, w ∈ lw_tbl := in_q _ [(6, 221), (6, 223), (0, 69), (6, 224), (6, 225), (6, 227), (0, 70), (6, 228), (3, 232), (3, 233), (3, 234), (3, 235), (3, 236), (3, 238), (0, 23), (3, 239), (4, 0), (4, 2), (0, 24), (4, 3), (1, 81), (4, 4), (4, 5), (4, 6)] rfl
set_option maxRecDepth 20000 in
theorem wsL_in_38 : ∀ w ∈ wsL_law_r38, w ∈ lw_tbl := in_qs _ [(6, 229, 5), (6, 235, 1), (0, 71, 1), (6, 236, 1), (4, 7, 4), (6, 237, 3), (7, 0, 2), (7, 3, 1), (0, 72, 1), (7, 4, 1), (4, 11, 4)] rfl
set_option maxRecDepth 20000 in
theorem wsL_in_39 : ∀ w ∈ wsL_law_r39, w ∈ lw_tbl := in_qs _ [(4, 15, 3), (4, 19, 1), (0, 25, 1), (4, 20, 1), (7, 5, 6), (4, 21, 4), (1, 61, 1), (7, 11, 5), (7, 17, 1), (0, 73, 1)] rfl
set_option maxRecDepth 20000 in
theorem wsL_in_40 : ∀ w ∈ wsL_law_r40, w ∈ lw_tbl := in_qs _ [(7, 18, 1), (4, 25, 4), (7, 19, 5), (7, 25, 1), (0, 74, 1), (7, 26, 1), (4, 29, 4), (7, 27, 4), (4, 33, 3)] rfl
set_option maxRecDepth 20000 in
theorem wsL_in_41 : ∀ w ∈ wsL_law_r41, w ∈ lw_tbl := in_qs _ [(4, 36, 1), (1, 83, 1), (1, 47, 1), (4, 37, 8), (7, 31, 4), (4, 45, 5), (4, 51, 1), (0, 26, 1), (4, 52, 2)] rfl
set_option maxRecDepth 20000 in
theorem wsL_in_42 : ∀ w ∈ wsL_law_r42, w ∈ lw_tbl := in_qs _ [(4, 55, 1), (0, 27, 1), (4, 56, 1), (1, 45, 1), (7, 35, 5), (7, 41, 1), (0, 75, 1), (7, 42, 1), (4, 57, 8), (7, 43, 4)] rfl
set_option maxRecDepth 20000 in
theorem wsL_in_43 : ∀ w ∈ wsL_law_r43, w ∈ lw_tbl := in_qs _ [(7, 47, 2), (7, 50, 1), (0, 76, 1), (7, 51, 2), (7, 54, 1), (0, 77, 1), (7, 55, 1), (4, 65, 4), (7, 56, 4), (4, 69, 4), (1, 85, 1), (7, 60, 2)] rfl
set_option maxRecDepth 20000 in
theorem wsL_in_44 : ∀ w ∈ wsL_law_r44, w ∈ lw_tbl := in_qs _ [(7, 62, 2), (4, 73, 4), (7, 64, 4), (4, 77, 4), (1, 87, 1), (7, 68, 4), (4, 81, 4), (7, 72, 1)] rfl
set_option maxRecDepth 20000 in
theorem wsL_in_45 : ∀ w ∈ wsL_law_r45, w ∈ lw_tbl := in_qs _ [(7, 73, 3), (4, 85, 4), (1, 188, 1), (1, 186, 1), (4, 89, 11), (7, 76, 4)] rfl
set_option maxRecDepth 20000 in
theorem wsL_in_46 : ∀ w ∈ wsL_law_r46, w ∈ lw_tbl := in_qs _ [(7, 80, 1), (7, 82, 1), (0, 78, 1), (7, 83, 1), (4, 100, 14), (7, 84, 4), (4, 114, 2)] rfl
set_option maxRecDepth 20000 in
theorem wsL_in_47 : ∀ w ∈ wsL_law_r47, w ∈ lw_tbl := in_qs _ [(4, 116, 2), (7, 88, 4), (4, 118, 5), (4, 125, 2), (4, 123, 1), (4, 147, 2), (4, 123, 1), (4, 127, 5), (4, 122, 1), (4, 124, 1)] rfl
set_option maxRecDepth 20000 in
theorem wsL_in_48 : ∀ w ∈ wsL_law_r48, w ∈ lw_tbl := in_q _ [(4, 132), (4, 133), (4, 134), (4, 135), (4, 139), (4, 140), (4, 141), (4, 142), (4, 143), (2, 30), (2, 31), (4, 144), (4, 149), (4, 152), (4, 153), (4, 150), (4, 171), (4, 172), (4, 172), (4, 154), (4, 149), (4, 151), (4, 150), (4, 155)] rfl
set_option maxRecDepth 20000 in
theorem wsL_in_49 : ∀ w ∈ wsL_law_r49, w ∈ lw_tbl := in_qs _ [(4, 156, 3), (7, 164, 1), (4, 159, 4), (2, 39, 1), (4, 163, 5), (4, 173, 1), (4, 176, 1), (4, 174, 1), (4, 177, 5), (4, 174, 1), (4, 196, 1)] rfl
set_option maxRecDepth 20000 in
theorem wsL_in_50 : ∀ w ∈ wsL_law_r50, w ∈ lw_tbl := in_q _ [(4, 197), (4, 197), (4, 182), (4, 169), (4, 183), (4, 184), (4, 185), (4, 173), (4, 175), (4, 186), (4, 187), (4, 188), (4, 189), (2, 22), (2, 23), (4, 190), (4, 194), (4, 195), (7, 92), (7, 93), (7, 94), (7, 95), (7, 96), (7, 98)] rfl
set_option maxRecDepth 20000 in
theorem wsL_in_51 : ∀ w ∈ wsL_law_r51, w ∈ lw_tbl := in_q _ [(0, 79), (7, 99), (7, 100), (7, 102), (0, 80), (7, 103), (7, 104), (7, 106), (0, 81), (7, 107), (7, 108), (7, 110), (0, 82), (7, 111), (7, 112), (7, 114), (0, 83), (7, 115), (7, 116), (7, 118), (0, 84), (7, 119), (7, 120), (7, 122)] rfl
set_option maxRecDepth 20000 in
theorem wsL_in_52 : ∀ w ∈ wsL_law_r52, w ∈ lw_tbl := in_qs _ [(0, 85, 1), (7, 123, 2), (7, 126, 1), (0, 86, 1), (7, 127, 1), (4, 198, 8), (7, 128, 4), (4, 206, 6)] rfl
set_option maxRecDepth 20000 in
theorem wsL_in_53 : ∀ w ∈ wsL_law_r53, w ∈ lw_tbl := in_qs _ [(4, 212, 1), (2, 5, 1), (2, 40, 1), (2, 50, 1), (2, 60, 1), (2, 70, 1), (7, 132, 4), (4, 213, 4), (7, 136, 4), (4, 217, 6)] rfl
set_option maxRecDepth 20000 in
theorem wsL_in_54 : ∀ w ∈ wsL_law_r54, w ∈ lw_tbl := in_qs _ [(4, 223, 4), (1, 21, 1), (4, 227, 1), (7, 140, 4), (4, 228, 8), (7, 144, 5), (7, 150, 1)] rfl
set_option maxRecDepth 20000 in
theorem wsL_in_55 : ∀ w ∈ wsL_law_r55, w ∈ lw_tbl := in_qs _ [(0, 87, 1), (7, 151, 1), (4, 236, 4), (7, 152, 4), (5, 0, 8), (7, 156, 4)] rfl
theorem wsL_inX11 : ∀ w ∈ wsX110, w ∈ lw_tbl := in_q _ [(1, 211), (1, 213), (1, 215), (1, 217), (1, 219), (1, 221), (1, 223), (1, 225), (1, 227), (1, 229), (1, 231), (1, 233), (1, 235)] rfl
theorem wsL_inX12 : ∀ w ∈ wsX120, w ∈ lw_tbl := in_q _ [(5, 89), (5, 91), (5, 93), (5, 95), (5, 97), (5, 99), (5, 101), (5, 103), (5, 105), (5, 107), (5, 109), (5, 111), (5, 113), (5, 115), (5, 117), (5, 119), (5, 121), (5, 123), (5, 125), (5, 127), (5, 129), (5, 131), (5, 133), (5, 135), (5, 137), (5, 139), (5, 141), (5, 143), (5, 145), (5, 147), (5, 149), (5, 151), (5, 153), (5, 155), (5, 157), (5, 159), (5, 161), (5, 163), (5, 165), (5, 167), (5, 169), (5, 171), (5, 173), (5, 175), (5, 177), (5, 179), (5, 181), (5, 183), (5, 185), (5, 187), (5, 189), (5, 191), (5, 193), (5, 195), (5, 197), (5, 199), (5, 201), (5, 203), (5, 205), (5, 207), (5, 209), (5, 211), (5, 213), (5, 215), (5, 217), (5, 219), (5, 221), (5, 223), (5, 225), (5, 227), (5, 229), (5, 231), (5, 233), (5, 235), (5, 237)] rfl
theorem wsL_inX1 : ∀ w ∈ wsX10, w ∈ lw_tbl := in_q _ [(1, 90), (1, 92), (1, 94), (1, 96), (1, 98), (1, 100), (1, 102), (1, 104), (1, 106), (1, 108), (1, 110), (1, 112), (1, 114), (1, 116), (1, 118), (1, 120), (1, 122)] rfl
theorem wsL_inX5 : ∀ w ∈ wsX50, w ∈ lw_tbl := in_q _ [(1, 48), (1, 50)] rfl
theorem wsL_inX2 : ∀ w ∈ wsX20, w ∈ lw_tbl := in_q _ [(1, 154), (1, 156), (1, 158), (1, 160), (1, 162), (1, 164), (1, 166), (1, 168), (1, 170), (1, 172), (1, 174), (1, 176)] rfl
theorem wsL_inX9 : ∀ w ∈ wsX90, w ∈ lw_tbl := in_q _ [(1, 190), (1, 192), (1, 194)] rfl
theorem wsL_inX8 : ∀ w ∈ wsX80, w ∈ lw_tbl := in_q _ [(2, 33), (2, 35), (2, 37)] rfl
theorem wsL_inX3 : ∀ w ∈ wsX30, w ∈ lw_tbl := in_qs _ [(2, 46, 3)] rfl
theorem wsL_inX0 : ∀ w ∈ wsX00, w ∈ lw_tbl := in_qs _ [(2, 56, 3)] rfl
theorem wsL_inX6 : ∀ w ∈ wsX60, w ∈ lw_tbl := in_qs _ [(2, 66, 3)] rfl
theorem wsL_inX7 : ∀ w ∈ wsX70, w ∈ lw_tbl := in_qs _ [(2, 76, 3)] rfl
theorem wsL_inX10 : ∀ w ∈ wsX100, w ∈ lw_tbl := in_qs _ [(2, 86, 3)] rfl
theorem wsL_inX4 : ∀ w ∈ wsX40, w ∈ lw_tbl := in_qs _ [(2, 93, 3)] rfl
set_option maxRecDepth 20000 in
theorem ggX0_init_X4_init : GoodIn wsX0_init wsX4_init := goodIn_r _ [4, 5, 6, 7, 8, 9, 10, 11, 12, 13, 14, 15, 16, 17, 18, 19, 20, 21, 22, 23, 24, 25, 26, 27, 28, 29, 30, 31] (by decide +kernel) (by decide +kernel)
set_option maxRecDepth 20000 in
theorem gX0_init_X4_init : GoodIn wsX0_init (wsX4_init) := ggX0_init_X4_init
theorem dX0_init_0 : decode cX0_init 0 = .ok (.aload_n 0, 1) := o_42 (by decide +kernel)
theorem dX0_init_1 : decode cX0_init 1 = .ok (.iload_n 1, 1) := o_27 (by decide +kernel)
theorem dX0_init_2 : decode cX0_init 2 = .ok (.iload_n 2, 1) := o_28 (by decide +kernel)
theorem dX0_init_3 : decode cX0_init 3 = .ok (.iload_n 3, 1) := o_29 (by decide +kernel)
theorem dX0_init_4 : decode cX0_init 4 = .ok (.invokespecial 1, 3) := o_183 (by decide +kernel)
theorem dX0_init_7 : decode cX0_init 7 = .ok (.return_, 1) := o_177 (by decide +kernel)
theorem gq_wsX10 : ∀ w ∈ wsX10, goodWord w = true := fun w h => List.all_eq_true.mp (by decide +kernel : wsX10.all goodWord = true) w h
theorem gt_wsX0_strides_wsX10 : GoodIn wsX0_strides wsX10 := fun w h => ⟨List.mem_cons_of_mem _ (List.mem_append_left _ (List.mem_append_left _ (List.mem_append_left _ (List.mem_append_left _ (List.mem_append_left _ (List.mem_append_left _ (List.mem_append_left _ (List.mem_append_right _ h)))))))), good_of_word (gq_wsX10 w h)⟩
theorem gq_wsX00 : ∀ w ∈ wsX00, goodWord w = true := fun w h => List.all_eq_true.mp (by decide +kernel : wsX00.all goodWord = true) w h
theorem gt_wsX0_strides_wsX00 : GoodIn wsX0_strides wsX00 := fun w h => ⟨List.mem_cons_of_mem _ (List.mem_append_left _ (List.mem_append_left _ (List.mem_append_left _ (List.mem_append_left _ (List.mem_append_left _ (List.mem_append_left _ (List.mem_append_right _ h))))))), good_of_word (gq_wsX00 w h)⟩
theorem gq_wsX30 : ∀ w ∈ wsX30, goodWord w = true := fun w h => List.all_eq_true.mp (by decide +kernel : wsX30.all goodWord = true) w h
theorem gt_wsX0_strides_wsX30 : GoodIn wsX0_strides wsX30 := fun w h => ⟨List.mem_cons_of_mem _ (List.mem_append_left _ (List.mem_append_left _ (List.mem_append_left _ (List.mem_append_left _ (List.mem_append_left _ (List.mem_append_right _ h)))))), good_of_word (gq_wsX30 w h)⟩
theorem gq_wsX40 : ∀ w ∈ wsX40, goodWord w = true := fun w h => List.all_eq_true.mp (by decide +kernel : wsX40.all goodWord = true) w h
theorem gt_wsX0_strides_wsX40 : GoodIn wsX0_strides wsX40 := fun w h => ⟨List.mem_cons_of_mem _ (List.mem_append_left _ (List.mem_append_left _ (List.mem_append_left _ (List.mem_append_left _ (List.mem_append_right _ h))))), good_of_word (gq_wsX40 w h)⟩
theorem gq_wsX60 : ∀ w ∈ wsX60, goodWord w = true := fun w h => List.all_eq_true.mp (by decide +kernel : wsX60.all goodWord = true) w h
theorem gt_wsX0_strides_wsX60 : GoodIn wsX0_strides wsX60 := fun w h => ⟨List.mem_cons_of_mem _ (List.mem_append_left _ (List.mem_append_left _ (List.mem_append_left _ (List.mem_append_right _ h)))), good_of_word (gq_wsX60 w h)⟩
theorem gq_wsX70 : ∀ w ∈ wsX70, goodWord w = true := fun w h => List.all_eq_true.mp (by decide +kernel : wsX70.all goodWord = true) w h
theorem gt_wsX0_strides_wsX70 : GoodIn wsX0_strides wsX70 := fun w h => ⟨List.mem_cons_of_mem _ (List.mem_append_left _ (List.mem_append_left _ (List.mem_append_right _ h))), good_of_word (gq_wsX70 w h)⟩
theorem gq_wsX80 : ∀ w ∈ wsX80, goodWord w = true := fun w h => List.all_eq_true.mp (by decide +kernel : wsX80.all goodWord = true) w h
theorem gt_wsX0_strides_wsX80 : GoodIn wsX0_strides wsX80 := fun w h => ⟨List.mem_cons_of_mem _ (List.mem_append_left _ (List.mem_append_right _ h)), good_of_word (gq_wsX80 w h)⟩
theorem gq_wsX100 : ∀ w ∈ wsX100, goodWord w = true := fun w h => List.all_eq_true.mp (by decide +kernel : wsX100.all goodWord = true) w h
theorem gt_wsX0_strides_wsX100 : GoodIn wsX0_strides wsX100 := fun w h => ⟨List.mem_cons_of_mem _ (List.mem_append_right _ h), good_of_word (gq_wsX100 w h)⟩
set_option maxRecDepth 20000 in
theorem ggX0_strides_X4_strides : GoodIn wsX0_strides wsX4_strides := goodIn_ca (goodIn_ca (goodIn_ca (goodIn_ca (goodIn_ca (goodIn_ca (goodIn_ca (goodIn_ca (goodIn_s _ [(6, 3)] rfl (by decide +kernel)) gt_wsX0_strides_wsX10) gt_wsX0_strides_wsX00) gt_wsX0_strides_wsX30) gt_wsX0_strides_wsX40) gt_wsX0_strides_wsX60) gt_wsX0_strides_wsX70) gt_wsX0_strides_wsX80) gt_wsX0_strides_wsX100
set_option maxRecDepth 20000 in
theorem gX0_strides_X4_strides_s7 : GoodIn wsX0_strides (va_wsSU RX0 7 yX4_strides wsX4_strides) := goodIn_app (goodIn_of _ (by decide +kernel)) ggX0_strides_X4_strides
theorem dX0_strides_0 : decode cX0_strides 0 = .ok (.aload_n 0, 1) := o_42 (by decide +kernel)
theorem dX0_strides_1 : decode cX0_strides 1 = .ok (.iload_n 1, 1) := o_27 (by decide +kernel)
theorem dX0_strides_2 : decode cX0_strides 2 = .ok (.aload_n 2, 1) := o_44 (by decide +kernel)
theorem dX0_strides_3 : decode cX0_strides 3 = .ok (.iload_n 3, 1) := o_29 (by decide +kernel)
theorem dX0_strides_4 : decode cX0_strides 4 = .ok (.invokespecial 7, 3) := o_183 (by decide +kernel)
theorem dX0_strides_7 : decode cX0_strides 7 = .ok (.iconst 2, 1) := o_5 (by decide +kernel)
theorem dX0_strides_8 : decode cX0_strides 8 = .ok (.idiv, 1) := o_108 (by decide +kernel)
theorem dX0_strides_9 : decode cX0_strides 9 = .ok (.ireturn, 1) := o_172 (by decide +kernel)
theorem gq_wsX50 : ∀ w ∈ wsX50, goodWord w = true := fun w h => List.all_eq_true.mp (by decide +kernel : wsX50.all goodWord = true) w h
theorem gt_wsX0_telling_wsX50 : GoodIn wsX0_telling wsX50 := fun w h => ⟨List.mem_cons_of_mem _ (List.mem_append_left _ (List.mem_append_left _ (List.mem_append_left _ (List.mem_append_left _ (List.mem_append_left _ (List.mem_append_left _ (List.mem_append_left _ (List.mem_append_right _ h)))))))), good_of_word (gq_wsX50 w h)⟩
set_option maxRecDepth 20000 in
theorem ggX0_telling_X5_comes : GoodIn wsX0_telling wsX5_comes := goodIn_ca (goodIn_s _ [(5, 3)] rfl (by decide +kernel)) gt_wsX0_telling_wsX50
set_option maxRecDepth 20000 in
theorem gX0_telling_X5_comes : GoodIn wsX0_telling (wsV RX0 11 RX5 yX5_comes wsX5_comes) := goodIn_app (goodIn_of _ (by decide +kernel)) ggX0_telling_X5_comes
theorem gt_wsX0_telling_wsX00 : GoodIn wsX0_telling wsX00 := fun w h => ⟨List.mem_cons_of_mem _ (List.mem_append_left _ (List.mem_append_left _ (List.mem_append_left _ (List.mem_append_left _ (List.mem_append_left _ (List.mem_append_left _ (List.mem_append_right _ h))))))), good_of_word (gq_wsX00 w h)⟩
theorem gt_wsX0_telling_wsX30 : GoodIn wsX0_telling wsX30 := fun w h => ⟨List.mem_cons_of_mem _ (List.mem_append_left _ (List.mem_append_left _ (List.mem_append_left _ (List.mem_append_left _ (List.mem_append_left _ (List.mem_append_right _ h)))))), good_of_word (gq_wsX30 w h)⟩
theorem gt_wsX0_telling_wsX40 : GoodIn wsX0_telling wsX40 := fun w h => ⟨List.mem_cons_of_mem _ (List.mem_append_left _ (List.mem_append_left _ (List.mem_append_left _ (List.mem_append_left _ (List.mem_append_right _ h))))), good_of_word (gq_wsX40 w h)⟩
theorem gt_wsX0_telling_wsX60 : GoodIn wsX0_telling wsX60 := fun w h => ⟨List.mem_cons_of_mem _ (List.mem_append_left _ (List.mem_append_left _ (List.mem_append_left _ (List.mem_append_right _ h)))), good_of_word (gq_wsX60 w h)⟩
theorem gt_wsX0_telling_wsX70 : GoodIn wsX0_telling wsX70 := fun w h => ⟨List.mem_cons_of_mem _ (List.mem_append_left _ (List.mem_append_left _ (List.mem_append_right _ h))), good_of_word (gq_wsX70 w h)⟩
theorem gt_wsX0_telling_wsX80 : GoodIn wsX0_telling wsX80 := fun w h => ⟨List.mem_cons_of_mem _ (List.mem_append_left _ (List.mem_append_right _ h)), good_of_word (gq_wsX80 w h)⟩
theorem gt_wsX0_telling_wsX100 : GoodIn wsX0_telling wsX100 := fun w h => ⟨List.mem_cons_of_mem _ (List.mem_append_right _ h), good_of_word (gq_wsX100 w h)⟩
set_option maxRecDepth 20000 in
theorem ggX0_telling_X4_telling : GoodIn wsX0_telling wsX4_telling := goodIn_ca (goodIn_ca (goodIn_ca (goodIn_ca (goodIn_ca (goodIn_ca (goodIn_ca (goodIn_ca (goodIn_s _ [(13, 2), (2, 6), (15, 4), (12, 1), (19, 53)] rfl (by decide +kernel)) gt_wsX0_telling_wsX50) gt_wsX0_telling_wsX00) gt_wsX0_telling_wsX30) gt_wsX0_telling_wsX40) gt_wsX0_telling_wsX60) gt_wsX0_telling_wsX70) gt_wsX0_telling_wsX80) gt_wsX0_telling_wsX100
set_option maxRecDepth 20000 in
theorem gX0_telling_X4_telling_s17 : GoodIn wsX0_telling (va_wsSU RX0 17 yX4_telling wsX4_telling) := goodIn_app (goodIn_of _ (by decide +kernel)) ggX0_telling_X4_telling
set_option maxRecDepth 20000 in
theorem ggX0_telling_X4_whetting : GoodIn wsX0_telling wsX4_whetting := goodIn_ca (goodIn_ca (goodIn_ca (goodIn_ca (goodIn_ca (goodIn_ca (goodIn_ca (goodIn_ca (goodIn_s _ [(19, 2), (14, 1), (2, 6), (21, 4), (12, 1), (25, 26)] rfl (by decide +kernel)) gt_wsX0_telling_wsX00) gt_wsX0_telling_wsX30) gt_wsX0_telling_wsX40) gt_wsX0_telling_wsX60) gt_wsX0_telling_wsX70) gt_wsX0_telling_wsX80) gt_wsX0_telling_wsX100) gt_wsX0_telling_wsX50
set_option maxRecDepth 20000 in
theorem gX0_telling_X4_whetting_u21X0 : GoodIn wsX0_telling (va_wsU RX0 21 RX0 "NineMowers$Mower" ⟨"NineMowers$Boy", "whetting", "(ILNineMowers$Numbers;)I"⟩ yX4_whetting wsX4_whetting) := goodIn_app (goodIn_of _ (by decide +kernel)) ggX0_telling_X4_whetting
set_option maxRecDepth 20000 in
theorem ggX0_telling_X10_whetting : GoodIn wsX0_telling wsX10_whetting := goodIn_ca (goodIn_s _ [(71, 1), (50, 1), (2, 6)] rfl (by decide +kernel)) gt_wsX0_telling_wsX50
set_option maxRecDepth 20000 in
theorem gX0_telling_X10_whetting_u21X10 : GoodIn wsX0_telling (va_wsO RX0 21 RX10 "NineMowers$Mower" ⟨"NineMowers$Boy", "whetting", "(ILNineMowers$Numbers;)I"⟩ yX10_whetting wsX10_whetting) := goodIn_app (goodIn_of _ (by decide +kernel)) ggX0_telling_X10_whetting
theorem dX0_telling_0 : decode cX0_telling 0 = .ok (.aload_n 2, 1) := o_44 (by decide +kernel)
theorem dX0_telling_1 : decode cX0_telling 1 = .ok (.bipush 40, 2) := o_16 (by decide +kernel)
theorem dX0_telling_3 : decode cX0_telling 3 = .ok (.invokevirtual 11, 3) := o_182 (by decide +kernel)
theorem dX0_telling_6 : decode cX0_telling 6 = .ok (.aload_n 0, 1) := o_42 (by decide +kernel)
theorem dX0_telling_7 : decode cX0_telling 7 = .ok (.iload_n 1, 1) := o_27 (by decide +kernel)
theorem dX0_telling_8 : decode cX0_telling 8 = .ok (.aload_n 2, 1) := o_44 (by decide +kernel)
theorem dX0_telling_9 : decode cX0_telling 9 = .ok (.invokespecial 17, 3) := o_183 (by decide +kernel)
theorem dX0_telling_12 : decode cX0_telling 12 = .ok (.aload_n 0, 1) := o_42 (by decide +kernel)
theorem dX0_telling_13 : decode cX0_telling 13 = .ok (.iconst 1, 1) := o_4 (by decide +kernel)
theorem dX0_telling_14 : decode cX0_telling 14 = .ok (.aload_n 2, 1) := o_44 (by decide +kernel)
theorem dX0_telling_15 : decode cX0_telling 15 = .ok (.invokevirtual 21, 3) := o_182 (by decide +kernel)
theorem dX0_telling_18 : decode cX0_telling 18 = .ok (.iadd, 1) := o_96 (by decide +kernel)
theorem dX0_telling_19 : decode cX0_telling 19 = .ok (.ireturn, 1) := o_172 (by decide +kernel)
theorem gt_wsX1_init_wsX50 : GoodIn wsX1_init wsX50 := fun w h => ⟨List.mem_cons_of_mem _ (List.mem_append_right _ h), good_of_word (gq_wsX50 w h)⟩
set_option maxRecDepth 20000 in
theorem ggX1_init_X5_init : GoodIn wsX1_init wsX5_init := goodIn_ca (goodIn_s _ [(28, 2), (2, 2), (30, 1), (7, 1), (31, 1)] rfl (by decide +kernel)) gt_wsX1_init_wsX50
set_option maxRecDepth 20000 in
theorem gX1_init_X5_init : GoodIn wsX1_init (wsX5_init) := ggX1_init_X5_init
theorem dX1_init_0 : decode cX1_init 0 = .ok (.aload_n 0, 1) := o_42 (by decide +kernel)
theorem dX1_init_1 : decode cX1_init 1 = .ok (.invokespecial 3, 3) := o_183 (by decide +kernel)
theorem dX1_init_4 : decode cX1_init 4 = .ok (.aload_n 0, 1) := o_42 (by decide +kernel)
theorem dX1_init_5 : decode cX1_init 5 = .ok (.bipush 6, 2) := o_16 (by decide +kernel)
theorem dX1_init_7 : decode cX1_init 7 = .ok (.anewarray 9, 3) := o_189 (by decide +kernel)
theorem dX1_init_10 : decode cX1_init 10 = .ok (.putfield 11, 3) := o_181 (by decide +kernel)
theorem dX1_init_13 : decode cX1_init 13 = .ok (.aload_n 0, 1) := o_42 (by decide +kernel)
theorem dX1_init_14 : decode cX1_init 14 = .ok (.iconst 0, 1) := o_3 (by decide +kernel)
theorem dX1_init_15 : decode cX1_init 15 = .ok (.putfield 17, 3) := o_181 (by decide +kernel)
theorem dX1_init_18 : decode cX1_init 18 = .ok (.aload_n 0, 1) := o_42 (by decide +kernel)
theorem dX1_init_19 : decode cX1_init 19 = .ok (.bipush 6, 2) := o_16 (by decide +kernel)
theorem dX1_init_21 : decode cX1_init 21 = .ok (.newarray .int, 2) := on_int (by decide +kernel)
theorem dX1_init_23 : decode cX1_init 23 = .ok (.putfield 21, 3) := o_181 (by decide +kernel)
theorem dX1_init_26 : decode cX1_init 26 = .ok (.aload_n 0, 1) := o_42 (by decide +kernel)
theorem dX1_init_27 : decode cX1_init 27 = .ok (.iconst 0, 1) := o_3 (by decide +kernel)
theorem dX1_init_28 : decode cX1_init 28 = .ok (.putfield 25, 3) := o_181 (by decide +kernel)
theorem dX1_init_31 : decode cX1_init 31 = .ok (.aload_n 0, 1) := o_42 (by decide +kernel)
theorem dX1_init_32 : decode cX1_init 32 = .ok (.bipush 6, 2) := o_16 (by decide +kernel)
theorem dX1_init_34 : decode cX1_init 34 = .ok (.newarray .int, 2) := on_int (by decide +kernel)
theorem dX1_init_36 : decode cX1_init 36 = .ok (.putfield 28, 3) := o_181 (by decide +kernel)
theorem dX1_init_39 : decode cX1_init 39 = .ok (.aload_n 0, 1) := o_42 (by decide +kernel)
theorem dX1_init_40 : decode cX1_init 40 = .ok (.bipush 6, 2) := o_16 (by decide +kernel)
theorem dX1_init_42 : decode cX1_init 42 = .ok (.newarray .int, 2) := on_int (by decide +kernel)
theorem dX1_init_44 : decode cX1_init 44 = .ok (.putfield 31, 3) := o_181 (by decide +kernel)
theorem dX1_init_47 : decode cX1_init 47 = .ok (.aload_n 0, 1) := o_42 (by decide +kernel)
theorem dX1_init_48 : decode cX1_init 48 = .ok (.bipush 6, 2) := o_16 (by decide +kernel)
theorem dX1_init_50 : decode cX1_init 50 = .ok (.newarray .int, 2) := on_int (by decide +kernel)
theorem dX1_init_52 : decode cX1_init 52 = .ok (.putfield 34, 3) := o_181 (by decide +kernel)
theorem dX1_init_55 : decode cX1_init 55 = .ok (.aload_n 0, 1) := o_42 (by decide +kernel)
theorem dX1_init_56 : decode cX1_init 56 = .ok (.bipush 6, 2) := o_16 (by decide +kernel)
theorem dX1_init_58 : decode cX1_init 58 = .ok (.newarray .int, 2) := on_int (by decide +kernel)
theorem dX1_init_60 : decode cX1_init 60 = .ok (.putfield 37, 3) := o_181 (by decide +kernel)
theorem dX1_init_63 : decode cX1_init 63 = .ok (.aload_n 0, 1) := o_42 (by decide +kernel)
theorem dX1_init_64 : decode cX1_init 64 = .ok (.bipush 24, 2) := o_16 (by decide +kernel)
theorem dX1_init_66 : decode cX1_init 66 = .ok (.newarray .int, 2) := on_int (by decide +kernel)
theorem dX1_init_68 : decode cX1_init 68 = .ok (.putfield 40, 3) := o_181 (by decide +kernel)
theorem dX1_init_71 : decode cX1_init 71 = .ok (.aload_n 0, 1) := o_42 (by decide +kernel)
theorem dX1_init_72 : decode cX1_init 72 = .ok (.iconst 0, 1) := o_3 (by decide +kernel)
theorem dX1_init_73 : decode cX1_init 73 = .ok (.putfield 43, 3) := o_181 (by decide +kernel)
theorem dX1_init_76 : decode cX1_init 76 = .ok (.aload_n 0, 1) := o_42 (by decide +kernel)
theorem dX1_init_77 : decode cX1_init 77 = .ok (.aconst_null, 1) := o_1 (by decide +kernel)
theorem dX1_init_78 : decode cX1_init 78 = .ok (.putfield 46, 3) := o_181 (by decide +kernel)
theorem dX1_init_81 : decode cX1_init 81 = .ok (.aload_n 0, 1) := o_42 (by decide +kernel)
theorem dX1_init_82 : decode cX1_init 82 = .ok (.iconst (-1), 1) := o_2 (by decide +kernel)
theorem dX1_init_83 : decode cX1_init 83 = .ok (.putfield 50, 3) := o_181 (by decide +kernel)
theorem dX1_init_86 : decode cX1_init 86 = .ok (.aload_n 0, 1) := o_42 (by decide +kernel)
theorem dX1_init_87 : decode cX1_init 87 = .ok (.new 53, 3) := o_187 (by decide +kernel)
theorem dX1_init_90 : decode cX1_init 90 = .ok (.dup, 1) := o_89 (by decide +kernel)
theorem dX1_init_91 : decode cX1_init 91 = .ok (.bipush 18, 2) := o_16 (by decide +kernel)
theorem dX1_init_93 : decode cX1_init 93 = .ok (.invokespecial 55, 3) := o_183 (by decide +kernel)
theorem dX1_init_96 : decode cX1_init 96 = .ok (.putfield 58, 3) := o_181 (by decide +kernel)
theorem dX1_init_99 : decode cX1_init 99 = .ok (.aload_n 0, 1) := o_42 (by decide +kernel)
theorem dX1_init_100 : decode cX1_init 100 = .ok (.new 53, 3) := o_187 (by decide +kernel)
theorem dX1_init_103 : decode cX1_init 103 = .ok (.dup, 1) := o_89 (by decide +kernel)
theorem dX1_init_104 : decode cX1_init 104 = .ok (.bipush 10, 2) := o_16 (by decide +kernel)
theorem dX1_init_106 : decode cX1_init 106 = .ok (.invokespecial 55, 3) := o_183 (by decide +kernel)
theorem dX1_init_109 : decode cX1_init 109 = .ok (.putfield 62, 3) := o_181 (by decide +kernel)
theorem dX1_init_112 : decode cX1_init 112 = .ok (.aload_n 0, 1) := o_42 (by decide +kernel)
theorem dX1_init_113 : decode cX1_init 113 = .ok (.new 53, 3) := o_187 (by decide +kernel)
theorem dX1_init_116 : decode cX1_init 116 = .ok (.dup, 1) := o_89 (by decide +kernel)
theorem dX1_init_117 : decode cX1_init 117 = .ok (.bipush 8, 2) := o_16 (by decide +kernel)
theorem dX1_init_119 : decode cX1_init 119 = .ok (.invokespecial 55, 3) := o_183 (by decide +kernel)
theorem dX1_init_122 : decode cX1_init 122 = .ok (.putfield 65, 3) := o_181 (by decide +kernel)
theorem dX1_init_125 : decode cX1_init 125 = .ok (.aload_n 0, 1) := o_42 (by decide +kernel)
theorem dX1_init_126 : decode cX1_init 126 = .ok (.bipush 6, 2) := o_16 (by decide +kernel)
theorem dX1_init_128 : decode cX1_init 128 = .ok (.newarray .int, 2) := on_int (by decide +kernel)
theorem dX1_init_130 : decode cX1_init 130 = .ok (.putfield 68, 3) := o_181 (by decide +kernel)
theorem dX1_init_133 : decode cX1_init 133 = .ok (.aload_n 0, 1) := o_42 (by decide +kernel)
theorem dX1_init_134 : decode cX1_init 134 = .ok (.bipush 6, 2) := o_16 (by decide +kernel)
theorem dX1_init_136 : decode cX1_init 136 = .ok (.newarray .int, 2) := on_int (by decide +kernel)
theorem dX1_init_138 : decode cX1_init 138 = .ok (.putfield 71, 3) := o_181 (by decide +kernel)
theorem dX1_init_141 : decode cX1_init 141 = .ok (.return_, 1) := o_177 (by decide +kernel)
theorem dX1_becomes_0 : decode cX1_becomes 0 = .ok (.aload_n 0, 1) := o_42 (by decide +kernel)
theorem dX1_becomes_1 : decode cX1_becomes 1 = .ok (.aload_n 1, 1) := o_43 (by decide +kernel)
theorem dX1_becomes_2 : decode cX1_becomes 2 = .ok (.getfield 17, 3) := o_180 (by decide +kernel)
theorem dX1_becomes_5 : decode cX1_becomes 5 = .ok (.putfield 17, 3) := o_181 (by decide +kernel)
theorem dX1_becomes_8 : decode cX1_becomes 8 = .ok (.aload_n 0, 1) := o_42 (by decide +kernel)
theorem dX1_becomes_9 : decode cX1_becomes 9 = .ok (.aload_n 1, 1) := o_43 (by decide +kernel)
theorem dX1_becomes_10 : decode cX1_becomes 10 = .ok (.getfield 25, 3) := o_180 (by decide +kernel)
theorem dX1_becomes_13 : decode cX1_becomes 13 = .ok (.putfield 25, 3) := o_181 (by decide +kernel)
theorem dX1_becomes_16 : decode cX1_becomes 16 = .ok (.aload_n 0, 1) := o_42 (by decide +kernel)
theorem dX1_becomes_17 : decode cX1_becomes 17 = .ok (.aload_n 1, 1) := o_43 (by decide +kernel)
theorem dX1_becomes_18 : decode cX1_becomes 18 = .ok (.getfield 43, 3) := o_180 (by decide +kernel)
theorem dX1_becomes_21 : decode cX1_becomes 21 = .ok (.putfield 43, 3) := o_181 (by decide +kernel)
theorem dX1_becomes_24 : decode cX1_becomes 24 = .ok (.aload_n 0, 1) := o_42 (by decide +kernel)
theorem dX1_becomes_25 : decode cX1_becomes 25 = .ok (.aload_n 1, 1) := o_43 (by decide +kernel)
theorem dX1_becomes_26 : decode cX1_becomes 26 = .ok (.getfield 46, 3) := o_180 (by decide +kernel)
theorem dX1_becomes_29 : decode cX1_becomes 29 = .ok (.putfield 46, 3) := o_181 (by decide +kernel)
theorem dX1_becomes_32 : decode cX1_becomes 32 = .ok (.aload_n 0, 1) := o_42 (by decide +kernel)
theorem dX1_becomes_33 : decode cX1_becomes 33 = .ok (.aload_n 1, 1) := o_43 (by decide +kernel)
theorem dX1_becomes_34 : decode cX1_becomes 34 = .ok (.getfield 50, 3) := o_180 (by decide +kernel)
theorem dX1_becomes_37 : decode cX1_becomes 37 = .ok (.putfield 50, 3) := o_181 (by decide +kernel)
theorem dX1_becomes_40 : decode cX1_becomes 40 = .ok (.iconst 0, 1) := o_3 (by decide +kernel)
theorem dX1_becomes_41 : decode cX1_becomes 41 = .ok (.istore_n 2, 1) := o_61 (by decide +kernel)
theorem dX1_becomes_42 : decode cX1_becomes 42 = .ok (.iload_n 2, 1) := o_28 (by decide +kernel)
theorem dX1_becomes_43 : decode cX1_becomes 43 = .ok (.bipush 6, 2) := o_16 (by decide +kernel)
theorem dX1_becomes_45 : decode cX1_becomes 45 = .ok (.if_icmp .ge 81, 3) := o_162 (by decide +kernel)
theorem dX1_becomes_48 : decode cX1_becomes 48 = .ok (.aload_n 0, 1) := o_42 (by decide +kernel)
theorem dX1_becomes_49 : decode cX1_becomes 49 = .ok (.getfield 11, 3) := o_180 (by decide +kernel)
theorem dX1_becomes_52 : decode cX1_becomes 52 = .ok (.iload_n 2, 1) := o_28 (by decide +kernel)
theorem dX1_becomes_53 : decode cX1_becomes 53 = .ok (.aload_n 1, 1) := o_43 (by decide +kernel)
theorem dX1_becomes_54 : decode cX1_becomes 54 = .ok (.getfield 11, 3) := o_180 (by decide +kernel)
theorem dX1_becomes_57 : decode cX1_becomes 57 = .ok (.iload_n 2, 1) := o_28 (by decide +kernel)
theorem dX1_becomes_58 : decode cX1_becomes 58 = .ok (.aaload, 1) := o_50 (by decide +kernel)
theorem dX1_becomes_59 : decode cX1_becomes 59 = .ok (.aastore, 1) := o_83 (by decide +kernel)
theorem dX1_becomes_60 : decode cX1_becomes 60 = .ok (.aload_n 0, 1) := o_42 (by decide +kernel)
theorem dX1_becomes_61 : decode cX1_becomes 61 = .ok (.getfield 21, 3) := o_180 (by decide +kernel)
theorem dX1_becomes_64 : decode cX1_becomes 64 = .ok (.iload_n 2, 1) := o_28 (by decide +kernel)
theorem dX1_becomes_65 : decode cX1_becomes 65 = .ok (.aload_n 1, 1) := o_43 (by decide +kernel)
theorem dX1_becomes_66 : decode cX1_becomes 66 = .ok (.getfield 21, 3) := o_180 (by decide +kernel)
theorem dX1_becomes_69 : decode cX1_becomes 69 = .ok (.iload_n 2, 1) := o_28 (by decide +kernel)
theorem dX1_becomes_70 : decode cX1_becomes 70 = .ok (.iaload, 1) := o_46 (by decide +kernel)
theorem dX1_becomes_71 : decode cX1_becomes 71 = .ok (.iastore, 1) := o_79 (by decide +kernel)
theorem dX1_becomes_72 : decode cX1_becomes 72 = .ok (.aload_n 0, 1) := o_42 (by decide +kernel)
theorem dX1_becomes_73 : decode cX1_becomes 73 = .ok (.getfield 28, 3) := o_180 (by decide +kernel)
theorem dX1_becomes_76 : decode cX1_becomes 76 = .ok (.iload_n 2, 1) := o_28 (by decide +kernel)
theorem dX1_becomes_77 : decode cX1_becomes 77 = .ok (.aload_n 1, 1) := o_43 (by decide +kernel)
theorem dX1_becomes_78 : decode cX1_becomes 78 = .ok (.getfield 28, 3) := o_180 (by decide +kernel)
theorem dX1_becomes_81 : decode cX1_becomes 81 = .ok (.iload_n 2, 1) := o_28 (by decide +kernel)
theorem dX1_becomes_82 : decode cX1_becomes 82 = .ok (.iaload, 1) := o_46 (by decide +kernel)
theorem dX1_becomes_83 : decode cX1_becomes 83 = .ok (.iastore, 1) := o_79 (by decide +kernel)
theorem dX1_becomes_84 : decode cX1_becomes 84 = .ok (.aload_n 0, 1) := o_42 (by decide +kernel)
theorem dX1_becomes_85 : decode cX1_becomes 85 = .ok (.getfield 31, 3) := o_180 (by decide +kernel)
theorem dX1_becomes_88 : decode cX1_becomes 88 = .ok (.iload_n 2, 1) := o_28 (by decide +kernel)
theorem dX1_becomes_89 : decode cX1_becomes 89 = .ok (.aload_n 1, 1) := o_43 (by decide +kernel)
theorem dX1_becomes_90 : decode cX1_becomes 90 = .ok (.getfield 31, 3) := o_180 (by decide +kernel)
theorem dX1_becomes_93 : decode cX1_becomes 93 = .ok (.iload_n 2, 1) := o_28 (by decide +kernel)
theorem dX1_becomes_94 : decode cX1_becomes 94 = .ok (.iaload, 1) := o_46 (by decide +kernel)
theorem dX1_becomes_95 : decode cX1_becomes 95 = .ok (.iastore, 1) := o_79 (by decide +kernel)
theorem dX1_becomes_96 : decode cX1_becomes 96 = .ok (.aload_n 0, 1) := o_42 (by decide +kernel)
theorem dX1_becomes_97 : decode cX1_becomes 97 = .ok (.getfield 34, 3) := o_180 (by decide +kernel)
theorem dX1_becomes_100 : decode cX1_becomes 100 = .ok (.iload_n 2, 1) := o_28 (by decide +kernel)
theorem dX1_becomes_101 : decode cX1_becomes 101 = .ok (.aload_n 1, 1) := o_43 (by decide +kernel)
theorem dX1_becomes_102 : decode cX1_becomes 102 = .ok (.getfield 34, 3) := o_180 (by decide +kernel)
theorem dX1_becomes_105 : decode cX1_becomes 105 = .ok (.iload_n 2, 1) := o_28 (by decide +kernel)
theorem dX1_becomes_106 : decode cX1_becomes 106 = .ok (.iaload, 1) := o_46 (by decide +kernel)
theorem dX1_becomes_107 : decode cX1_becomes 107 = .ok (.iastore, 1) := o_79 (by decide +kernel)
theorem dX1_becomes_108 : decode cX1_becomes 108 = .ok (.aload_n 0, 1) := o_42 (by decide +kernel)
theorem dX1_becomes_109 : decode cX1_becomes 109 = .ok (.getfield 37, 3) := o_180 (by decide +kernel)
theorem dX1_becomes_112 : decode cX1_becomes 112 = .ok (.iload_n 2, 1) := o_28 (by decide +kernel)
theorem dX1_becomes_113 : decode cX1_becomes 113 = .ok (.aload_n 1, 1) := o_43 (by decide +kernel)
theorem dX1_becomes_114 : decode cX1_becomes 114 = .ok (.getfield 37, 3) := o_180 (by decide +kernel)
theorem dX1_becomes_117 : decode cX1_becomes 117 = .ok (.iload_n 2, 1) := o_28 (by decide +kernel)
theorem dX1_becomes_118 : decode cX1_becomes 118 = .ok (.iaload, 1) := o_46 (by decide +kernel)
theorem dX1_becomes_119 : decode cX1_becomes 119 = .ok (.iastore, 1) := o_79 (by decide +kernel)
theorem dX1_becomes_120 : decode cX1_becomes 120 = .ok (.iinc 2 1, 3) := o_132 (by decide +kernel)
theorem dX1_becomes_123 : decode cX1_becomes 123 = .ok (.goto (-81), 3) := o_167 (by decide +kernel)
theorem dX1_becomes_126 : decode cX1_becomes 126 = .ok (.aload_n 1, 1) := o_43 (by decide +kernel)
theorem dX1_becomes_127 : decode cX1_becomes 127 = .ok (.getfield 40, 3) := o_180 (by decide +kernel)
theorem dX1_becomes_130 : decode cX1_becomes 130 = .ok (.iconst 0, 1) := o_3 (by decide +kernel)
theorem dX1_becomes_131 : decode cX1_becomes 131 = .ok (.aload_n 0, 1) := o_42 (by decide +kernel)
theorem dX1_becomes_132 : decode cX1_becomes 132 = .ok (.getfield 40, 3) := o_180 (by decide +kernel)
theorem dX1_becomes_135 : decode cX1_becomes 135 = .ok (.iconst 0, 1) := o_3 (by decide +kernel)
theorem dX1_becomes_136 : decode cX1_becomes 136 = .ok (.aload_n 0, 1) := o_42 (by decide +kernel)
theorem dX1_becomes_137 : decode cX1_becomes 137 = .ok (.getfield 40, 3) := o_180 (by decide +kernel)
theorem dX1_becomes_140 : decode cX1_becomes 140 = .ok (.arraylength, 1) := o_190 (by decide +kernel)
theorem dX1_becomes_141 : decode cX1_becomes 141 = .ok (.invokestatic 74, 3) := o_184 (by decide +kernel)
theorem dX1_becomes_144 : decode cX1_becomes 144 = .ok (.return_, 1) := o_177 (by decide +kernel)
theorem gt_wsX1_becomesTold_wsX50 : GoodIn wsX1_becomesTold wsX50 := fun w h => ⟨List.mem_cons_of_mem _ (List.mem_append_right _ h), good_of_word (gq_wsX50 w h)⟩
set_option maxRecDepth 20000 in
theorem ggX1_becomesTold_X5_becomes : GoodIn wsX1_becomesTold wsX5_becomes := goodIn_ca (goodIn_s _ [(8, 11)] rfl (by decide +kernel)) gt_wsX1_becomesTold_wsX50
set_option maxRecDepth 20000 in
theorem gX1_becomesTold_X5_becomes : GoodIn wsX1_becomesTold (wsV RX1 80 RX5 yX5_becomes wsX5_becomes) := goodIn_app (goodIn_of _ (by decide +kernel)) ggX1_becomesTold_X5_becomes
theorem dX1_becomesTold_0 : decode cX1_becomesTold 0 = .ok (.aload_n 0, 1) := o_42 (by decide +kernel)
theorem dX1_becomesTold_1 : decode cX1_becomesTold 1 = .ok (.getfield 58, 3) := o_180 (by decide +kernel)
theorem dX1_becomesTold_4 : decode cX1_becomesTold 4 = .ok (.aload_n 1, 1) := o_43 (by decide +kernel)
theorem dX1_becomesTold_5 : decode cX1_becomesTold 5 = .ok (.getfield 58, 3) := o_180 (by decide +kernel)
theorem dX1_becomesTold_8 : decode cX1_becomesTold 8 = .ok (.invokevirtual 80, 3) := o_182 (by decide +kernel)
theorem dX1_becomesTold_11 : decode cX1_becomesTold 11 = .ok (.aload_n 0, 1) := o_42 (by decide +kernel)
theorem dX1_becomesTold_12 : decode cX1_becomesTold 12 = .ok (.getfield 62, 3) := o_180 (by decide +kernel)
theorem dX1_becomesTold_15 : decode cX1_becomesTold 15 = .ok (.aload_n 1, 1) := o_43 (by decide +kernel)
theorem dX1_becomesTold_16 : decode cX1_becomesTold 16 = .ok (.getfield 62, 3) := o_180 (by decide +kernel)
theorem dX1_becomesTold_19 : decode cX1_becomesTold 19 = .ok (.invokevirtual 80, 3) := o_182 (by decide +kernel)
theorem dX1_becomesTold_22 : decode cX1_becomesTold 22 = .ok (.aload_n 0, 1) := o_42 (by decide +kernel)
theorem dX1_becomesTold_23 : decode cX1_becomesTold 23 = .ok (.getfield 65, 3) := o_180 (by decide +kernel)
theorem dX1_becomesTold_26 : decode cX1_becomesTold 26 = .ok (.aload_n 1, 1) := o_43 (by decide +kernel)
theorem dX1_becomesTold_27 : decode cX1_becomesTold 27 = .ok (.getfield 65, 3) := o_180 (by decide +kernel)
theorem dX1_becomesTold_30 : decode cX1_becomesTold 30 = .ok (.invokevirtual 80, 3) := o_182 (by decide +kernel)
theorem dX1_becomesTold_33 : decode cX1_becomesTold 33 = .ok (.return_, 1) := o_177 (by decide +kernel)
theorem dX1_comes_0 : decode cX1_comes 0 = .ok (.aload_n 1, 1) := o_43 (by decide +kernel)
theorem dX1_comes_1 : decode cX1_comes 1 = .ok (.getfield 84, 3) := o_180 (by decide +kernel)
theorem dX1_comes_4 : decode cX1_comes 4 = .ok (.istore_n 2, 1) := o_61 (by decide +kernel)
theorem dX1_comes_5 : decode cX1_comes 5 = .ok (.aload_n 0, 1) := o_42 (by decide +kernel)
theorem dX1_comes_6 : decode cX1_comes 6 = .ok (.getfield 11, 3) := o_180 (by decide +kernel)
theorem dX1_comes_9 : decode cX1_comes 9 = .ok (.iload_n 2, 1) := o_28 (by decide +kernel)
theorem dX1_comes_10 : decode cX1_comes 10 = .ok (.aload_n 1, 1) := o_43 (by decide +kernel)
theorem dX1_comes_11 : decode cX1_comes 11 = .ok (.aastore, 1) := o_83 (by decide +kernel)
theorem dX1_comes_12 : decode cX1_comes 12 = .ok (.aload_n 0, 1) := o_42 (by decide +kernel)
theorem dX1_comes_13 : decode cX1_comes 13 = .ok (.getfield 31, 3) := o_180 (by decide +kernel)
theorem dX1_comes_16 : decode cX1_comes 16 = .ok (.iload_n 2, 1) := o_28 (by decide +kernel)
theorem dX1_comes_17 : decode cX1_comes 17 = .ok (.bipush 10, 2) := o_16 (by decide +kernel)
theorem dX1_comes_19 : decode cX1_comes 19 = .ok (.iastore, 1) := o_79 (by decide +kernel)
theorem dX1_comes_20 : decode cX1_comes 20 = .ok (.aload_n 0, 1) := o_42 (by decide +kernel)
theorem dX1_comes_21 : decode cX1_comes 21 = .ok (.getfield 21, 3) := o_180 (by decide +kernel)
theorem dX1_comes_24 : decode cX1_comes 24 = .ok (.aload_n 0, 1) := o_42 (by decide +kernel)
theorem dX1_comes_25 : decode cX1_comes 25 = .ok (.getfield 17, 3) := o_180 (by decide +kernel)
theorem dX1_comes_28 : decode cX1_comes 28 = .ok (.iload_n 2, 1) := o_28 (by decide +kernel)
theorem dX1_comes_29 : decode cX1_comes 29 = .ok (.iastore, 1) := o_79 (by decide +kernel)
theorem dX1_comes_30 : decode cX1_comes 30 = .ok (.aload_n 0, 1) := o_42 (by decide +kernel)
theorem dX1_comes_31 : decode cX1_comes 31 = .ok (.dup, 1) := o_89 (by decide +kernel)
theorem dX1_comes_32 : decode cX1_comes 32 = .ok (.getfield 17, 3) := o_180 (by decide +kernel)
theorem dX1_comes_35 : decode cX1_comes 35 = .ok (.iconst 1, 1) := o_4 (by decide +kernel)
theorem dX1_comes_36 : decode cX1_comes 36 = .ok (.iadd, 1) := o_96 (by decide +kernel)
theorem dX1_comes_37 : decode cX1_comes 37 = .ok (.putfield 17, 3) := o_181 (by decide +kernel)
theorem dX1_comes_40 : decode cX1_comes 40 = .ok (.aload_n 0, 1) := o_42 (by decide +kernel)
theorem dX1_comes_41 : decode cX1_comes 41 = .ok (.aload_n 0, 1) := o_42 (by decide +kernel)
theorem dX1_comes_42 : decode cX1_comes 42 = .ok (.getfield 17, 3) := o_180 (by decide +kernel)
theorem dX1_comes_45 : decode cX1_comes 45 = .ok (.putfield 25, 3) := o_181 (by decide +kernel)
theorem dX1_comes_48 : decode cX1_comes 48 = .ok (.iload_n 2, 1) := o_28 (by decide +kernel)
theorem dX1_comes_49 : decode cX1_comes 49 = .ok (.ireturn, 1) := o_172 (by decide +kernel)
theorem gt_wsX1_moves_wsX10 : GoodIn wsX1_moves wsX10 := fun w h => ⟨List.mem_cons_of_mem _ (List.mem_append_right _ h), good_of_word (gq_wsX10 w h)⟩
set_option maxRecDepth 20000 in
theorem ggX1_moves_X1_placeOf : GoodIn wsX1_moves wsX1_placeOf := goodIn_ca (goodIn_s _ [(6, 2), (1, 1)] rfl (by decide +kernel)) gt_wsX1_moves_wsX10
set_option maxRecDepth 20000 in
theorem gX1_moves_X1_placeOf : GoodIn wsX1_moves (wsV RX1 87 RX1 yX1_placeOf wsX1_placeOf) := goodIn_app (goodIn_of _ (by decide +kernel)) ggX1_moves_X1_placeOf
theorem dX1_moves_0 : decode cX1_moves 0 = .ok (.aload_n 0, 1) := o_42 (by decide +kernel)
theorem dX1_moves_1 : decode cX1_moves 1 = .ok (.iload_n 1, 1) := o_27 (by decide +kernel)
theorem dX1_moves_2 : decode cX1_moves 2 = .ok (.invokevirtual 87, 3) := o_182 (by decide +kernel)
theorem dX1_moves_5 : decode cX1_moves 5 = .ok (.istore_n 3, 1) := o_62 (by decide +kernel)
theorem dX1_moves_6 : decode cX1_moves 6 = .ok (.iload_n 3, 1) := o_29 (by decide +kernel)
theorem dX1_moves_7 : decode cX1_moves 7 = .ok (.istore 4, 2) := o_54 (by decide +kernel)
theorem dX1_moves_9 : decode cX1_moves 9 = .ok (.iload 4, 2) := o_21 (by decide +kernel)
theorem dX1_moves_11 : decode cX1_moves 11 = .ok (.iload_n 2, 1) := o_28 (by decide +kernel)
theorem dX1_moves_12 : decode cX1_moves 12 = .ok (.if_icmp .le 25, 3) := o_164 (by decide +kernel)
theorem dX1_moves_15 : decode cX1_moves 15 = .ok (.aload_n 0, 1) := o_42 (by decide +kernel)
theorem dX1_moves_16 : decode cX1_moves 16 = .ok (.getfield 21, 3) := o_180 (by decide +kernel)
theorem dX1_moves_19 : decode cX1_moves 19 = .ok (.iload 4, 2) := o_21 (by decide +kernel)
theorem dX1_moves_21 : decode cX1_moves 21 = .ok (.aload_n 0, 1) := o_42 (by decide +kernel)
theorem dX1_moves_22 : decode cX1_moves 22 = .ok (.getfield 21, 3) := o_180 (by decide +kernel)
theorem dX1_moves_25 : decode cX1_moves 25 = .ok (.iload 4, 2) := o_21 (by decide +kernel)
theorem dX1_moves_27 : decode cX1_moves 27 = .ok (.iconst 1, 1) := o_4 (by decide +kernel)
theorem dX1_moves_28 : decode cX1_moves 28 = .ok (.isub, 1) := o_100 (by decide +kernel)
theorem dX1_moves_29 : decode cX1_moves 29 = .ok (.iaload, 1) := o_46 (by decide +kernel)
theorem dX1_moves_30 : decode cX1_moves 30 = .ok (.iastore, 1) := o_79 (by decide +kernel)
theorem dX1_moves_31 : decode cX1_moves 31 = .ok (.iinc 4 (-1), 3) := o_132 (by decide +kernel)
theorem dX1_moves_34 : decode cX1_moves 34 = .ok (.goto (-25), 3) := o_167 (by decide +kernel)
theorem dX1_moves_37 : decode cX1_moves 37 = .ok (.iload_n 3, 1) := o_29 (by decide +kernel)
theorem dX1_moves_38 : decode cX1_moves 38 = .ok (.istore 4, 2) := o_54 (by decide +kernel)
theorem dX1_moves_40 : decode cX1_moves 40 = .ok (.iload 4, 2) := o_21 (by decide +kernel)
theorem dX1_moves_42 : decode cX1_moves 42 = .ok (.iload_n 2, 1) := o_28 (by decide +kernel)
theorem dX1_moves_43 : decode cX1_moves 43 = .ok (.if_icmp .ge 25, 3) := o_162 (by decide +kernel)
theorem dX1_moves_46 : decode cX1_moves 46 = .ok (.aload_n 0, 1) := o_42 (by decide +kernel)
theorem dX1_moves_47 : decode cX1_moves 47 = .ok (.getfield 21, 3) := o_180 (by decide +kernel)
theorem dX1_moves_50 : decode cX1_moves 50 = .ok (.iload 4, 2) := o_21 (by decide +kernel)
theorem dX1_moves_52 : decode cX1_moves 52 = .ok (.aload_n 0, 1) := o_42 (by decide +kernel)
theorem dX1_moves_53 : decode cX1_moves 53 = .ok (.getfield 21, 3) := o_180 (by decide +kernel)
theorem dX1_moves_56 : decode cX1_moves 56 = .ok (.iload 4, 2) := o_21 (by decide +kernel)
theorem dX1_moves_58 : decode cX1_moves 58 = .ok (.iconst 1, 1) := o_4 (by decide +kernel)
theorem dX1_moves_59 : decode cX1_moves 59 = .ok (.iadd, 1) := o_96 (by decide +kernel)
theorem dX1_moves_60 : decode cX1_moves 60 = .ok (.iaload, 1) := o_46 (by decide +kernel)
theorem dX1_moves_61 : decode cX1_moves 61 = .ok (.iastore, 1) := o_79 (by decide +kernel)
theorem dX1_moves_62 : decode cX1_moves 62 = .ok (.iinc 4 1, 3) := o_132 (by decide +kernel)
theorem dX1_moves_65 : decode cX1_moves 65 = .ok (.goto (-25), 3) := o_167 (by decide +kernel)
theorem dX1_moves_68 : decode cX1_moves 68 = .ok (.aload_n 0, 1) := o_42 (by decide +kernel)
theorem dX1_moves_69 : decode cX1_moves 69 = .ok (.getfield 21, 3) := o_180 (by decide +kernel)
theorem dX1_moves_72 : decode cX1_moves 72 = .ok (.iload_n 2, 1) := o_28 (by decide +kernel)
theorem dX1_moves_73 : decode cX1_moves 73 = .ok (.iload_n 1, 1) := o_27 (by decide +kernel)
theorem dX1_moves_74 : decode cX1_moves 74 = .ok (.iastore, 1) := o_79 (by decide +kernel)
theorem dX1_moves_75 : decode cX1_moves 75 = .ok (.iload_n 3, 1) := o_29 (by decide +kernel)
theorem dX1_moves_76 : decode cX1_moves 76 = .ok (.ireturn, 1) := o_172 (by decide +kernel)
theorem dX1_placeOf_0 : decode cX1_placeOf 0 = .ok (.iconst 0, 1) := o_3 (by decide +kernel)
theorem dX1_placeOf_1 : decode cX1_placeOf 1 = .ok (.istore_n 2, 1) := o_61 (by decide +kernel)
theorem dX1_placeOf_2 : decode cX1_placeOf 2 = .ok (.iload_n 2, 1) := o_28 (by decide +kernel)
theorem dX1_placeOf_3 : decode cX1_placeOf 3 = .ok (.aload_n 0, 1) := o_42 (by decide +kernel)
theorem dX1_placeOf_4 : decode cX1_placeOf 4 = .ok (.getfield 25, 3) := o_180 (by decide +kernel)
theorem dX1_placeOf_7 : decode cX1_placeOf 7 = .ok (.iconst 1, 1) := o_4 (by decide +kernel)
theorem dX1_placeOf_8 : decode cX1_placeOf 8 = .ok (.isub, 1) := o_100 (by decide +kernel)
theorem dX1_placeOf_9 : decode cX1_placeOf 9 = .ok (.if_icmp .ge 19, 3) := o_162 (by decide +kernel)
theorem dX1_placeOf_12 : decode cX1_placeOf 12 = .ok (.aload_n 0, 1) := o_42 (by decide +kernel)
theorem dX1_placeOf_13 : decode cX1_placeOf 13 = .ok (.getfield 21, 3) := o_180 (by decide +kernel)
theorem dX1_placeOf_16 : decode cX1_placeOf 16 = .ok (.iload_n 2, 1) := o_28 (by decide +kernel)
theorem dX1_placeOf_17 : decode cX1_placeOf 17 = .ok (.iaload, 1) := o_46 (by decide +kernel)
theorem dX1_placeOf_18 : decode cX1_placeOf 18 = .ok (.iload_n 1, 1) := o_27 (by decide +kernel)
theorem dX1_placeOf_19 : decode cX1_placeOf 19 = .ok (.if_icmp .eq 9, 3) := o_159 (by decide +kernel)
theorem dX1_placeOf_22 : decode cX1_placeOf 22 = .ok (.iinc 2 1, 3) := o_132 (by decide +kernel)
theorem dX1_placeOf_25 : decode cX1_placeOf 25 = .ok (.goto (-23), 3) := o_167 (by decide +kernel)
theorem dX1_placeOf_28 : decode cX1_placeOf 28 = .ok (.iload_n 2, 1) := o_28 (by decide +kernel)
theorem dX1_placeOf_29 : decode cX1_placeOf 29 = .ok (.ireturn, 1) := o_172 (by decide +kernel)
theorem dX1_numbersOf_0 : decode cX1_numbersOf 0 = .ok (.iload_n 1, 1) := o_27 (by decide +kernel)
theorem dX1_numbersOf_1 : decode cX1_numbersOf 1 = .ok (.tableswitch 42 0 2 #[27, 32, 37], 27) := by decide +kernel
theorem dX1_numbersOf_28 : decode cX1_numbersOf 28 = .ok (.aload_n 0, 1) := o_42 (by decide +kernel)
theorem dX1_numbersOf_29 : decode cX1_numbersOf 29 = .ok (.getfield 28, 3) := o_180 (by decide +kernel)
theorem dX1_numbersOf_32 : decode cX1_numbersOf 32 = .ok (.areturn, 1) := o_176 (by decide +kernel)
theorem dX1_numbersOf_33 : decode cX1_numbersOf 33 = .ok (.aload_n 0, 1) := o_42 (by decide +kernel)
theorem dX1_numbersOf_34 : decode cX1_numbersOf 34 = .ok (.getfield 31, 3) := o_180 (by decide +kernel)
theorem dX1_numbersOf_37 : decode cX1_numbersOf 37 = .ok (.areturn, 1) := o_176 (by decide +kernel)
theorem dX1_numbersOf_38 : decode cX1_numbersOf 38 = .ok (.aload_n 0, 1) := o_42 (by decide +kernel)
theorem dX1_numbersOf_39 : decode cX1_numbersOf 39 = .ok (.getfield 34, 3) := o_180 (by decide +kernel)
theorem dX1_numbersOf_42 : decode cX1_numbersOf 42 = .ok (.areturn, 1) := o_176 (by decide +kernel)
theorem dX1_numbersOf_43 : decode cX1_numbersOf 43 = .ok (.aload_n 0, 1) := o_42 (by decide +kernel)
theorem dX1_numbersOf_44 : decode cX1_numbersOf 44 = .ok (.getfield 37, 3) := o_180 (by decide +kernel)
theorem dX1_numbersOf_47 : decode cX1_numbersOf 47 = .ok (.areturn, 1) := o_176 (by decide +kernel)
theorem dX1_gap_0 : decode cX1_gap 0 = .ok (.aload_n 0, 1) := o_42 (by decide +kernel)
theorem dX1_gap_1 : decode cX1_gap 1 = .ok (.getfield 50, 3) := o_180 (by decide +kernel)
theorem dX1_gap_4 : decode cX1_gap 4 = .ok (.ifCond .lt 10, 3) := o_155 (by decide +kernel)
theorem dX1_gap_7 : decode cX1_gap 7 = .ok (.aload_n 0, 1) := o_42 (by decide +kernel)
theorem dX1_gap_8 : decode cX1_gap 8 = .ok (.getfield 50, 3) := o_180 (by decide +kernel)
theorem dX1_gap_11 : decode cX1_gap 11 = .ok (.goto 10, 3) := o_167 (by decide +kernel)
theorem dX1_gap_14 : decode cX1_gap 14 = .ok (.aload_n 0, 1) := o_42 (by decide +kernel)
theorem dX1_gap_15 : decode cX1_gap 15 = .ok (.getfield 46, 3) := o_180 (by decide +kernel)
theorem dX1_gap_18 : decode cX1_gap 18 = .ok (.getfield 91, 3) := o_180 (by decide +kernel)
theorem dX1_gap_21 : decode cX1_gap 21 = .ok (.ireturn, 1) := o_172 (by decide +kernel)
theorem gq_wsX20 : ∀ w ∈ wsX20, goodWord w = true := fun w h => List.all_eq_true.mp (by decide +kernel : wsX20.all goodWord = true) w h
theorem gt_wsX1_paceAt_wsX20 : GoodIn wsX1_paceAt wsX20 := fun w h => ⟨List.mem_cons_of_mem _ (List.mem_append_right _ h), good_of_word (gq_wsX20 w h)⟩
set_option maxRecDepth 20000 in
theorem ggX1_paceAt_X2_paceOf : GoodIn wsX1_paceAt wsX2_paceOf := goodIn_ca (goodIn_s _ [(13, 8), (12, 1), (21, 3)] rfl (by decide +kernel)) gt_wsX1_paceAt_wsX20
set_option maxRecDepth 20000 in
theorem gX1_paceAt_X2_paceOf : GoodIn wsX1_paceAt (wsV RX1 99 RX2 yX2_paceOf wsX2_paceOf) := goodIn_app (goodIn_of _ (by decide +kernel)) ggX1_paceAt_X2_paceOf
theorem dX1_paceAt_0 : decode cX1_paceAt 0 = .ok (.aload_n 0, 1) := o_42 (by decide +kernel)
theorem dX1_paceAt_1 : decode cX1_paceAt 1 = .ok (.getfield 21, 3) := o_180 (by decide +kernel)
theorem dX1_paceAt_4 : decode cX1_paceAt 4 = .ok (.iload_n 1, 1) := o_27 (by decide +kernel)
theorem dX1_paceAt_5 : decode cX1_paceAt 5 = .ok (.iaload, 1) := o_46 (by decide +kernel)
theorem dX1_paceAt_6 : decode cX1_paceAt 6 = .ok (.istore_n 2, 1) := o_61 (by decide +kernel)
theorem dX1_paceAt_7 : decode cX1_paceAt 7 = .ok (.aload_n 0, 1) := o_42 (by decide +kernel)
theorem dX1_paceAt_8 : decode cX1_paceAt 8 = .ok (.getfield 71, 3) := o_180 (by decide +kernel)
theorem dX1_paceAt_11 : decode cX1_paceAt 11 = .ok (.iconst 0, 1) := o_3 (by decide +kernel)
theorem dX1_paceAt_12 : decode cX1_paceAt 12 = .ok (.iload_n 2, 1) := o_28 (by decide +kernel)
theorem dX1_paceAt_13 : decode cX1_paceAt 13 = .ok (.iastore, 1) := o_79 (by decide +kernel)
theorem dX1_paceAt_14 : decode cX1_paceAt 14 = .ok (.aload_n 0, 1) := o_42 (by decide +kernel)
theorem dX1_paceAt_15 : decode cX1_paceAt 15 = .ok (.getfield 71, 3) := o_180 (by decide +kernel)
theorem dX1_paceAt_18 : decode cX1_paceAt 18 = .ok (.iconst 1, 1) := o_4 (by decide +kernel)
theorem dX1_paceAt_19 : decode cX1_paceAt 19 = .ok (.aload_n 0, 1) := o_42 (by decide +kernel)
theorem dX1_paceAt_20 : decode cX1_paceAt 20 = .ok (.getfield 11, 3) := o_180 (by decide +kernel)
theorem dX1_paceAt_23 : decode cX1_paceAt 23 = .ok (.iload_n 2, 1) := o_28 (by decide +kernel)
theorem dX1_paceAt_24 : decode cX1_paceAt 24 = .ok (.aaload, 1) := o_50 (by decide +kernel)
theorem dX1_paceAt_25 : decode cX1_paceAt 25 = .ok (.getfield 96, 3) := o_180 (by decide +kernel)
theorem dX1_paceAt_28 : decode cX1_paceAt 28 = .ok (.iastore, 1) := o_79 (by decide +kernel)
theorem dX1_paceAt_29 : decode cX1_paceAt 29 = .ok (.aload_n 0, 1) := o_42 (by decide +kernel)
theorem dX1_paceAt_30 : decode cX1_paceAt 30 = .ok (.getfield 71, 3) := o_180 (by decide +kernel)
theorem dX1_paceAt_33 : decode cX1_paceAt 33 = .ok (.iconst 2, 1) := o_5 (by decide +kernel)
theorem dX1_paceAt_34 : decode cX1_paceAt 34 = .ok (.iload_n 1, 1) := o_27 (by decide +kernel)
theorem dX1_paceAt_35 : decode cX1_paceAt 35 = .ok (.iastore, 1) := o_79 (by decide +kernel)
theorem dX1_paceAt_36 : decode cX1_paceAt 36 = .ok (.aload_n 0, 1) := o_42 (by decide +kernel)
theorem dX1_paceAt_37 : decode cX1_paceAt 37 = .ok (.getfield 71, 3) := o_180 (by decide +kernel)
theorem dX1_paceAt_40 : decode cX1_paceAt 40 = .ok (.iconst 3, 1) := o_6 (by decide +kernel)
theorem dX1_paceAt_41 : decode cX1_paceAt 41 = .ok (.aload_n 0, 1) := o_42 (by decide +kernel)
theorem dX1_paceAt_42 : decode cX1_paceAt 42 = .ok (.getfield 31, 3) := o_180 (by decide +kernel)
theorem dX1_paceAt_45 : decode cX1_paceAt 45 = .ok (.iload_n 2, 1) := o_28 (by decide +kernel)
theorem dX1_paceAt_46 : decode cX1_paceAt 46 = .ok (.iaload, 1) := o_46 (by decide +kernel)
theorem dX1_paceAt_47 : decode cX1_paceAt 47 = .ok (.iastore, 1) := o_79 (by decide +kernel)
theorem dX1_paceAt_48 : decode cX1_paceAt 48 = .ok (.aload_n 0, 1) := o_42 (by decide +kernel)
theorem dX1_paceAt_49 : decode cX1_paceAt 49 = .ok (.getfield 71, 3) := o_180 (by decide +kernel)
theorem dX1_paceAt_52 : decode cX1_paceAt 52 = .ok (.iconst 4, 1) := o_7 (by decide +kernel)
theorem dX1_paceAt_53 : decode cX1_paceAt 53 = .ok (.aload_n 0, 1) := o_42 (by decide +kernel)
theorem dX1_paceAt_54 : decode cX1_paceAt 54 = .ok (.getfield 34, 3) := o_180 (by decide +kernel)
theorem dX1_paceAt_57 : decode cX1_paceAt 57 = .ok (.iload_n 2, 1) := o_28 (by decide +kernel)
theorem dX1_paceAt_58 : decode cX1_paceAt 58 = .ok (.iaload, 1) := o_46 (by decide +kernel)
theorem dX1_paceAt_59 : decode cX1_paceAt 59 = .ok (.bipush 10, 2) := o_16 (by decide +kernel)
theorem dX1_paceAt_61 : decode cX1_paceAt 61 = .ok (.idiv, 1) := o_108 (by decide +kernel)
theorem dX1_paceAt_62 : decode cX1_paceAt 62 = .ok (.iastore, 1) := o_79 (by decide +kernel)
theorem dX1_paceAt_63 : decode cX1_paceAt 63 = .ok (.aload_n 0, 1) := o_42 (by decide +kernel)
theorem dX1_paceAt_64 : decode cX1_paceAt 64 = .ok (.getfield 71, 3) := o_180 (by decide +kernel)
theorem dX1_paceAt_67 : decode cX1_paceAt 67 = .ok (.iconst 5, 1) := o_8 (by decide +kernel)
theorem dX1_paceAt_68 : decode cX1_paceAt 68 = .ok (.aload_n 0, 1) := o_42 (by decide +kernel)
theorem dX1_paceAt_69 : decode cX1_paceAt 69 = .ok (.getfield 43, 3) := o_180 (by decide +kernel)
theorem dX1_paceAt_72 : decode cX1_paceAt 72 = .ok (.bipush 10, 2) := o_16 (by decide +kernel)
theorem dX1_paceAt_74 : decode cX1_paceAt 74 = .ok (.irem, 1) := o_112 (by decide +kernel)
theorem dX1_paceAt_75 : decode cX1_paceAt 75 = .ok (.iastore, 1) := o_79 (by decide +kernel)
theorem dX1_paceAt_76 : decode cX1_paceAt 76 = .ok (.aload_n 0, 1) := o_42 (by decide +kernel)
theorem dX1_paceAt_77 : decode cX1_paceAt 77 = .ok (.getfield 46, 3) := o_180 (by decide +kernel)
theorem dX1_paceAt_80 : decode cX1_paceAt 80 = .ok (.aload_n 0, 1) := o_42 (by decide +kernel)
theorem dX1_paceAt_81 : decode cX1_paceAt 81 = .ok (.getfield 71, 3) := o_180 (by decide +kernel)
theorem dX1_paceAt_84 : decode cX1_paceAt 84 = .ok (.invokevirtual 99, 3) := o_182 (by decide +kernel)
theorem dX1_paceAt_87 : decode cX1_paceAt 87 = .ok (.ireturn, 1) := o_172 (by decide +kernel)
theorem gt_wsX1_strideAt_wsX10 : GoodIn wsX1_strideAt wsX10 := fun w h => ⟨List.mem_cons_of_mem _ (List.mem_append_left _ (List.mem_append_left _ (List.mem_append_left _ (List.mem_append_left _ (List.mem_append_left _ (List.mem_append_left _ (List.mem_append_left _ (List.mem_append_left _ (List.mem_append_right _ h))))))))), good_of_word (gq_wsX10 w h)⟩
theorem gt_wsX1_strideAt_wsX00 : GoodIn wsX1_strideAt wsX00 := fun w h => ⟨List.mem_cons_of_mem _ (List.mem_append_left _ (List.mem_append_left _ (List.mem_append_left _ (List.mem_append_left _ (List.mem_append_left _ (List.mem_append_left _ (List.mem_append_left _ (List.mem_append_right _ h)))))))), good_of_word (gq_wsX00 w h)⟩
theorem gt_wsX1_strideAt_wsX30 : GoodIn wsX1_strideAt wsX30 := fun w h => ⟨List.mem_cons_of_mem _ (List.mem_append_left _ (List.mem_append_left _ (List.mem_append_left _ (List.mem_append_left _ (List.mem_append_left _ (List.mem_append_left _ (List.mem_append_right _ h))))))), good_of_word (gq_wsX30 w h)⟩
theorem gt_wsX1_strideAt_wsX40 : GoodIn wsX1_strideAt wsX40 := fun w h => ⟨List.mem_cons_of_mem _ (List.mem_append_left _ (List.mem_append_left _ (List.mem_append_left _ (List.mem_append_left _ (List.mem_append_left _ (List.mem_append_right _ h)))))), good_of_word (gq_wsX40 w h)⟩
theorem gt_wsX1_strideAt_wsX60 : GoodIn wsX1_strideAt wsX60 := fun w h => ⟨List.mem_cons_of_mem _ (List.mem_append_left _ (List.mem_append_left _ (List.mem_append_left _ (List.mem_append_left _ (List.mem_append_right _ h))))), good_of_word (gq_wsX60 w h)⟩
theorem gt_wsX1_strideAt_wsX70 : GoodIn wsX1_strideAt wsX70 := fun w h => ⟨List.mem_cons_of_mem _ (List.mem_append_left _ (List.mem_append_left _ (List.mem_append_left _ (List.mem_append_right _ h)))), good_of_word (gq_wsX70 w h)⟩
theorem gt_wsX1_strideAt_wsX80 : GoodIn wsX1_strideAt wsX80 := fun w h => ⟨List.mem_cons_of_mem _ (List.mem_append_left _ (List.mem_append_left _ (List.mem_append_right _ h))), good_of_word (gq_wsX80 w h)⟩
theorem gt_wsX1_strideAt_wsX100 : GoodIn wsX1_strideAt wsX100 := fun w h => ⟨List.mem_cons_of_mem _ (List.mem_append_left _ (List.mem_append_right _ h)), good_of_word (gq_wsX100 w h)⟩
theorem gt_wsX1_strideAt_wsX20 : GoodIn wsX1_strideAt wsX20 := fun w h => ⟨List.mem_cons_of_mem _ (List.mem_append_right _ h), good_of_word (gq_wsX20 w h)⟩
set_option maxRecDepth 20000 in
theorem ggX1_strideAt_X1_paceAt : GoodIn wsX1_strideAt wsX1_paceAt := goodIn_ca (goodIn_ca (goodIn_ca (goodIn_ca (goodIn_ca (goodIn_ca (goodIn_ca (goodIn_ca (goodIn_ca (goodIn_s _ [(8, 1), (1, 1), (9, 1), (2, 1), (10, 1), (3, 1), (11, 18)] rfl (by decide +kernel)) gt_wsX1_strideAt_wsX10) gt_wsX1_strideAt_wsX00) gt_wsX1_strideAt_wsX30) gt_wsX1_strideAt_wsX40) gt_wsX1_strideAt_wsX60) gt_wsX1_strideAt_wsX70) gt_wsX1_strideAt_wsX80) gt_wsX1_strideAt_wsX100) gt_wsX1_strideAt_wsX20
set_option maxRecDepth 20000 in
theorem gX1_strideAt_X1_paceAt : GoodIn wsX1_strideAt (wsV RX1 103 RX1 yX1_paceAt wsX1_paceAt) := goodIn_app (goodIn_of _ (by decide +kernel)) ggX1_strideAt_X1_paceAt
set_option maxRecDepth 20000 in
theorem ggX1_strideAt_X0_strides : GoodIn wsX1_strideAt wsX0_strides := goodIn_ca (goodIn_ca (goodIn_ca (goodIn_ca (goodIn_ca (goodIn_ca (goodIn_ca (goodIn_ca (goodIn_s _ [(35, 2), (30, 1), (37, 6)] rfl (by decide +kernel)) gt_wsX1_strideAt_wsX10) gt_wsX1_strideAt_wsX00) gt_wsX1_strideAt_wsX30) gt_wsX1_strideAt_wsX40) gt_wsX1_strideAt_wsX60) gt_wsX1_strideAt_wsX70) gt_wsX1_strideAt_wsX80) gt_wsX1_strideAt_wsX100
set_option maxRecDepth 20000 in
theorem gX1_strideAt_X0_strides_u106X0 : GoodIn wsX1_strideAt (va_wsO RX1 106 RX0 "NineMowers$Mower" ⟨"NineMowers$Mower", "strides", "(ILNineMowers$Course;I)I"⟩ yX0_strides wsX0_strides) := goodIn_app (goodIn_of _ (by decide +kernel)) ggX1_strideAt_X0_strides
set_option maxRecDepth 20000 in
theorem ggX1_strideAt_X3_strides : GoodIn wsX1_strideAt wsX3_strides := goodIn_ca (goodIn_ca (goodIn_ca (goodIn_ca (goodIn_ca (goodIn_ca (goodIn_ca (goodIn_ca (goodIn_s _ [(46, 7), (30, 1), (53, 1), (38, 5)] rfl (by decide +kernel)) gt_wsX1_strideAt_wsX10) gt_wsX1_strideAt_wsX00) gt_wsX1_strideAt_wsX30) gt_wsX1_strideAt_wsX40) gt_wsX1_strideAt_wsX60) gt_wsX1_strideAt_wsX70) gt_wsX1_strideAt_wsX80) gt_wsX1_strideAt_wsX100
set_option maxRecDepth 20000 in
theorem gX1_strideAt_X3_strides_u106X3 : GoodIn wsX1_strideAt (va_wsO RX1 106 RX3 "NineMowers$Mower" ⟨"NineMowers$Mower", "strides", "(ILNineMowers$Course;I)I"⟩ yX3_strides wsX3_strides) := goodIn_app (goodIn_of _ (by decide +kernel)) ggX1_strideAt_X3_strides
set_option maxRecDepth 20000 in
theorem ggX1_strideAt_X4_strides : GoodIn wsX1_strideAt wsX4_strides := goodIn_ca (goodIn_ca (goodIn_ca (goodIn_ca (goodIn_ca (goodIn_ca (goodIn_ca (goodIn_ca (goodIn_s _ [(40, 3)] rfl (by decide +kernel)) gt_wsX1_strideAt_wsX10) gt_wsX1_strideAt_wsX00) gt_wsX1_strideAt_wsX30) gt_wsX1_strideAt_wsX40) gt_wsX1_strideAt_wsX60) gt_wsX1_strideAt_wsX70) gt_wsX1_strideAt_wsX80) gt_wsX1_strideAt_wsX100
set_option maxRecDepth 20000 in
theorem gX1_strideAt_X4_strides : GoodIn wsX1_strideAt (wsV RX1 106 RX4 yX4_strides wsX4_strides) := goodIn_app (goodIn_of _ (by decide +kernel)) ggX1_strideAt_X4_strides
set_option maxRecDepth 20000 in
theorem ggX1_strideAt_X6_strides : GoodIn wsX1_strideAt wsX6_strides := goodIn_ca (goodIn_ca (goodIn_ca (goodIn_ca (goodIn_ca (goodIn_ca (goodIn_ca (goodIn_s _ [(59, 9)] rfl (by decide +kernel)) gt_wsX1_strideAt_wsX00) gt_wsX1_strideAt_wsX30) gt_wsX1_strideAt_wsX40) gt_wsX1_strideAt_wsX60) gt_wsX1_strideAt_wsX70) gt_wsX1_strideAt_wsX80) gt_wsX1_strideAt_wsX100
set_option maxRecDepth 20000 in
theorem gX1_strideAt_X6_strides_u106X6 : GoodIn wsX1_strideAt (va_wsO RX1 106 RX6 "NineMowers$Mower" ⟨"NineMowers$Mower", "strides", "(ILNineMowers$Course;I)I"⟩ yX6_strides wsX6_strides) := goodIn_app (goodIn_of _ (by decide +kernel)) ggX1_strideAt_X6_strides
set_option maxRecDepth 20000 in
theorem ggX1_strideAt_X7_strides : GoodIn wsX1_strideAt wsX7_strides := goodIn_ca (goodIn_ca (goodIn_ca (goodIn_ca (goodIn_ca (goodIn_ca (goodIn_ca (goodIn_ca (goodIn_ca (goodIn_s _ [(71, 4), (44, 9), (30, 1), (53, 1), (38, 5), (75, 3), (7, 1), (78, 3), (1, 1), (81, 5), (13, 1), (86, 1)] rfl (by decide +kernel)) gt_wsX1_strideAt_wsX10) gt_wsX1_strideAt_wsX00) gt_wsX1_strideAt_wsX30) gt_wsX1_strideAt_wsX40) gt_wsX1_strideAt_wsX60) gt_wsX1_strideAt_wsX70) gt_wsX1_strideAt_wsX80) gt_wsX1_strideAt_wsX100) gt_wsX1_strideAt_wsX20
set_option maxRecDepth 20000 in
theorem gX1_strideAt_X7_strides_u106X7 : GoodIn wsX1_strideAt (va_wsO RX1 106 RX7 "NineMowers$Mower" ⟨"NineMowers$Mower", "strides", "(ILNineMowers$Course;I)I"⟩ yX7_strides wsX7_strides) := goodIn_app (goodIn_of _ (by decide +kernel)) ggX1_strideAt_X7_strides
set_option maxRecDepth 20000 in
theorem ggX1_strideAt_X8_strides : GoodIn wsX1_strideAt wsX8_strides := goodIn_s _ [(67, 1)] rfl (by decide +kernel)
set_option maxRecDepth 20000 in
theorem gX1_strideAt_X8_strides_u106X8 : GoodIn wsX1_strideAt (va_wsO RX1 106 RX8 "NineMowers$Mower" ⟨"NineMowers$Mower", "strides", "(ILNineMowers$Course;I)I"⟩ yX8_strides wsX8_strides) := goodIn_app (goodIn_of _ (by decide +kernel)) ggX1_strideAt_X8_strides
set_option maxRecDepth 20000 in
theorem ggX1_strideAt_X10_strides : GoodIn wsX1_strideAt wsX10_strides := goodIn_ca (goodIn_ca (goodIn_ca (goodIn_ca (goodIn_ca (goodIn_ca (goodIn_ca (goodIn_ca (goodIn_s _ [(91, 8), (33, 4), (30, 1), (37, 6)] rfl (by decide +kernel)) gt_wsX1_strideAt_wsX10) gt_wsX1_strideAt_wsX00) gt_wsX1_strideAt_wsX30) gt_wsX1_strideAt_wsX40) gt_wsX1_strideAt_wsX60) gt_wsX1_strideAt_wsX70) gt_wsX1_strideAt_wsX80) gt_wsX1_strideAt_wsX100
set_option maxRecDepth 20000 in
theorem gX1_strideAt_X10_strides_u106X10 : GoodIn wsX1_strideAt (va_wsO RX1 106 RX10 "NineMowers$Mower" ⟨"NineMowers$Mower", "strides", "(ILNineMowers$Course;I)I"⟩ yX10_strides wsX10_strides) := goodIn_app (goodIn_of _ (by decide +kernel)) ggX1_strideAt_X10_strides
theorem dX1_strideAt_0 : decode cX1_strideAt 0 = .ok (.aload_n 0, 1) := o_42 (by decide +kernel)
theorem dX1_strideAt_1 : decode cX1_strideAt 1 = .ok (.getfield 21, 3) := o_180 (by decide +kernel)
theorem dX1_strideAt_4 : decode cX1_strideAt 4 = .ok (.iload_n 1, 1) := o_27 (by decide +kernel)
theorem dX1_strideAt_5 : decode cX1_strideAt 5 = .ok (.iaload, 1) := o_46 (by decide +kernel)
theorem dX1_strideAt_6 : decode cX1_strideAt 6 = .ok (.istore_n 2, 1) := o_61 (by decide +kernel)
theorem dX1_strideAt_7 : decode cX1_strideAt 7 = .ok (.aload_n 0, 1) := o_42 (by decide +kernel)
theorem dX1_strideAt_8 : decode cX1_strideAt 8 = .ok (.getfield 11, 3) := o_180 (by decide +kernel)
theorem dX1_strideAt_11 : decode cX1_strideAt 11 = .ok (.iload_n 2, 1) := o_28 (by decide +kernel)
theorem dX1_strideAt_12 : decode cX1_strideAt 12 = .ok (.aaload, 1) := o_50 (by decide +kernel)
theorem dX1_strideAt_13 : decode cX1_strideAt 13 = .ok (.aload_n 0, 1) := o_42 (by decide +kernel)
theorem dX1_strideAt_14 : decode cX1_strideAt 14 = .ok (.iload_n 1, 1) := o_27 (by decide +kernel)
theorem dX1_strideAt_15 : decode cX1_strideAt 15 = .ok (.invokevirtual 103, 3) := o_182 (by decide +kernel)
theorem dX1_strideAt_18 : decode cX1_strideAt 18 = .ok (.aload_n 0, 1) := o_42 (by decide +kernel)
theorem dX1_strideAt_19 : decode cX1_strideAt 19 = .ok (.iload_n 1, 1) := o_27 (by decide +kernel)
theorem dX1_strideAt_20 : decode cX1_strideAt 20 = .ok (.invokevirtual 106, 3) := o_182 (by decide +kernel)
theorem dX1_strideAt_23 : decode cX1_strideAt 23 = .ok (.istore_n 3, 1) := o_62 (by decide +kernel)
theorem dX1_strideAt_24 : decode cX1_strideAt 24 = .ok (.aload_n 0, 1) := o_42 (by decide +kernel)
theorem dX1_strideAt_25 : decode cX1_strideAt 25 = .ok (.getfield 31, 3) := o_180 (by decide +kernel)
theorem dX1_strideAt_28 : decode cX1_strideAt 28 = .ok (.iload_n 2, 1) := o_28 (by decide +kernel)
theorem dX1_strideAt_29 : decode cX1_strideAt 29 = .ok (.iaload, 1) := o_46 (by decide +kernel)
theorem dX1_strideAt_30 : decode cX1_strideAt 30 = .ok (.ifCond .ne 9, 3) := o_154 (by decide +kernel)
theorem dX1_strideAt_33 : decode cX1_strideAt 33 = .ok (.iload_n 3, 1) := o_29 (by decide +kernel)
theorem dX1_strideAt_34 : decode cX1_strideAt 34 = .ok (.iconst 2, 1) := o_5 (by decide +kernel)
theorem dX1_strideAt_35 : decode cX1_strideAt 35 = .ok (.idiv, 1) := o_108 (by decide +kernel)
theorem dX1_strideAt_36 : decode cX1_strideAt 36 = .ok (.goto 4, 3) := o_167 (by decide +kernel)
theorem dX1_strideAt_39 : decode cX1_strideAt 39 = .ok (.iload_n 3, 1) := o_29 (by decide +kernel)
theorem dX1_strideAt_40 : decode cX1_strideAt 40 = .ok (.ireturn, 1) := o_172 (by decide +kernel)
theorem gt_wsX1_isPressedAt_wsX10 : GoodIn wsX1_isPressedAt wsX10 := fun w h => ⟨List.mem_cons_of_mem _ (List.mem_append_left _ (List.mem_append_right _ h)), good_of_word (gq_wsX10 w h)⟩
theorem gt_wsX1_isPressedAt_wsX20 : GoodIn wsX1_isPressedAt wsX20 := fun w h => ⟨List.mem_cons_of_mem _ (List.mem_append_right _ h), good_of_word (gq_wsX20 w h)⟩
set_option maxRecDepth 20000 in
theorem ggX1_isPressedAt_X1_gap : GoodIn wsX1_isPressedAt wsX1_gap := goodIn_ca (goodIn_ca (goodIn_s _ [(8, 4)] rfl (by decide +kernel)) gt_wsX1_isPressedAt_wsX10) gt_wsX1_isPressedAt_wsX20
set_option maxRecDepth 20000 in
theorem gX1_isPressedAt_X1_gap : GoodIn wsX1_isPressedAt (wsV RX1 109 RX1 yX1_gap wsX1_gap) := goodIn_app (goodIn_of _ (by decide +kernel)) ggX1_isPressedAt_X1_gap
theorem dX1_isPressedAt_0 : decode cX1_isPressedAt 0 = .ok (.iload_n 1, 1) := o_27 (by decide +kernel)
theorem dX1_isPressedAt_1 : decode cX1_isPressedAt 1 = .ok (.iconst 1, 1) := o_4 (by decide +kernel)
theorem dX1_isPressedAt_2 : decode cX1_isPressedAt 2 = .ok (.iadd, 1) := o_96 (by decide +kernel)
theorem dX1_isPressedAt_3 : decode cX1_isPressedAt 3 = .ok (.aload_n 0, 1) := o_42 (by decide +kernel)
theorem dX1_isPressedAt_4 : decode cX1_isPressedAt 4 = .ok (.getfield 25, 3) := o_180 (by decide +kernel)
theorem dX1_isPressedAt_7 : decode cX1_isPressedAt 7 = .ok (.if_icmp .ge 41, 3) := o_162 (by decide +kernel)
theorem dX1_isPressedAt_10 : decode cX1_isPressedAt 10 = .ok (.aload_n 0, 1) := o_42 (by decide +kernel)
theorem dX1_isPressedAt_11 : decode cX1_isPressedAt 11 = .ok (.getfield 28, 3) := o_180 (by decide +kernel)
theorem dX1_isPressedAt_14 : decode cX1_isPressedAt 14 = .ok (.aload_n 0, 1) := o_42 (by decide +kernel)
theorem dX1_isPressedAt_15 : decode cX1_isPressedAt 15 = .ok (.getfield 21, 3) := o_180 (by decide +kernel)
theorem dX1_isPressedAt_18 : decode cX1_isPressedAt 18 = .ok (.iload_n 1, 1) := o_27 (by decide +kernel)
theorem dX1_isPressedAt_19 : decode cX1_isPressedAt 19 = .ok (.iaload, 1) := o_46 (by decide +kernel)
theorem dX1_isPressedAt_20 : decode cX1_isPressedAt 20 = .ok (.iaload, 1) := o_46 (by decide +kernel)
theorem dX1_isPressedAt_21 : decode cX1_isPressedAt 21 = .ok (.aload_n 0, 1) := o_42 (by decide +kernel)
theorem dX1_isPressedAt_22 : decode cX1_isPressedAt 22 = .ok (.getfield 28, 3) := o_180 (by decide +kernel)
theorem dX1_isPressedAt_25 : decode cX1_isPressedAt 25 = .ok (.aload_n 0, 1) := o_42 (by decide +kernel)
theorem dX1_isPressedAt_26 : decode cX1_isPressedAt 26 = .ok (.getfield 21, 3) := o_180 (by decide +kernel)
theorem dX1_isPressedAt_29 : decode cX1_isPressedAt 29 = .ok (.iload_n 1, 1) := o_27 (by decide +kernel)
theorem dX1_isPressedAt_30 : decode cX1_isPressedAt 30 = .ok (.iconst 1, 1) := o_4 (by decide +kernel)
theorem dX1_isPressedAt_31 : decode cX1_isPressedAt 31 = .ok (.iadd, 1) := o_96 (by decide +kernel)
theorem dX1_isPressedAt_32 : decode cX1_isPressedAt 32 = .ok (.iaload, 1) := o_46 (by decide +kernel)
theorem dX1_isPressedAt_33 : decode cX1_isPressedAt 33 = .ok (.iaload, 1) := o_46 (by decide +kernel)
theorem dX1_isPressedAt_34 : decode cX1_isPressedAt 34 = .ok (.isub, 1) := o_100 (by decide +kernel)
theorem dX1_isPressedAt_35 : decode cX1_isPressedAt 35 = .ok (.aload_n 0, 1) := o_42 (by decide +kernel)
theorem dX1_isPressedAt_36 : decode cX1_isPressedAt 36 = .ok (.invokevirtual 109, 3) := o_182 (by decide +kernel)
theorem dX1_isPressedAt_39 : decode cX1_isPressedAt 39 = .ok (.iconst 3, 1) := o_6 (by decide +kernel)
theorem dX1_isPressedAt_40 : decode cX1_isPressedAt 40 = .ok (.iadd, 1) := o_96 (by decide +kernel)
theorem dX1_isPressedAt_41 : decode cX1_isPressedAt 41 = .ok (.if_icmp .ge 7, 3) := o_162 (by decide +kernel)
theorem dX1_isPressedAt_44 : decode cX1_isPressedAt 44 = .ok (.iconst 1, 1) := o_4 (by decide +kernel)
theorem dX1_isPressedAt_45 : decode cX1_isPressedAt 45 = .ok (.goto 4, 3) := o_167 (by decide +kernel)
theorem dX1_isPressedAt_48 : decode cX1_isPressedAt 48 = .ok (.iconst 0, 1) := o_3 (by decide +kernel)
theorem dX1_isPressedAt_49 : decode cX1_isPressedAt 49 = .ok (.ireturn, 1) := o_172 (by decide +kernel)
theorem gt_wsX1_goes_wsX10 : GoodIn wsX1_goes wsX10 := fun w h => ⟨List.mem_cons_of_mem _ (List.mem_append_left _ (List.mem_append_left _ (List.mem_append_left _ (List.mem_append_left _ (List.mem_append_left _ (List.mem_append_left _ (List.mem_append_left _ (List.mem_append_left _ (List.mem_append_right _ h))))))))), good_of_word (gq_wsX10 w h)⟩
theorem gt_wsX1_goes_wsX00 : GoodIn wsX1_goes wsX00 := fun w h => ⟨List.mem_cons_of_mem _ (List.mem_append_left _ (List.mem_append_left _ (List.mem_append_left _ (List.mem_append_left _ (List.mem_append_left _ (List.mem_append_left _ (List.mem_append_left _ (List.mem_append_right _ h)))))))), good_of_word (gq_wsX00 w h)⟩
theorem gt_wsX1_goes_wsX30 : GoodIn wsX1_goes wsX30 := fun w h => ⟨List.mem_cons_of_mem _ (List.mem_append_left _ (List.mem_append_left _ (List.mem_append_left _ (List.mem_append_left _ (List.mem_append_left _ (List.mem_append_left _ (List.mem_append_right _ h))))))), good_of_word (gq_wsX30 w h)⟩
theorem gt_wsX1_goes_wsX40 : GoodIn wsX1_goes wsX40 := fun w h => ⟨List.mem_cons_of_mem _ (List.mem_append_left _ (List.mem_append_left _ (List.mem_append_left _ (List.mem_append_left _ (List.mem_append_left _ (List.mem_append_right _ h)))))), good_of_word (gq_wsX40 w h)⟩
theorem gt_wsX1_goes_wsX60 : GoodIn wsX1_goes wsX60 := fun w h => ⟨List.mem_cons_of_mem _ (List.mem_append_left _ (List.mem_append_left _ (List.mem_append_left _ (List.mem_append_left _ (List.mem_append_right _ h))))), good_of_word (gq_wsX60 w h)⟩
theorem gt_wsX1_goes_wsX70 : GoodIn wsX1_goes wsX70 := fun w h => ⟨List.mem_cons_of_mem _ (List.mem_append_left _ (List.mem_append_left _ (List.mem_append_left _ (List.mem_append_right _ h)))), good_of_word (gq_wsX70 w h)⟩
theorem gt_wsX1_goes_wsX80 : GoodIn wsX1_goes wsX80 := fun w h => ⟨List.mem_cons_of_mem _ (List.mem_append_left _ (List.mem_append_left _ (List.mem_append_right _ h))), good_of_word (gq_wsX80 w h)⟩
theorem gt_wsX1_goes_wsX100 : GoodIn wsX1_goes wsX100 := fun w h => ⟨List.mem_cons_of_mem _ (List.mem_append_left _ (List.mem_append_right _ h)), good_of_word (gq_wsX100 w h)⟩
theorem gt_wsX1_goes_wsX20 : GoodIn wsX1_goes wsX20 := fun w h => ⟨List.mem_cons_of_mem _ (List.mem_append_right _ h), good_of_word (gq_wsX20 w h)⟩
set_option maxRecDepth 20000 in
theorem ggX1_goes_X1_goesMinute : GoodIn wsX1_goes wsX1_goesMinute := goodIn_ca (goodIn_ca (goodIn_ca (goodIn_ca (goodIn_ca (goodIn_ca (goodIn_ca (goodIn_ca (goodIn_ca (goodIn_s _ [(5, 10), (4, 1), (15, 110)] rfl (by decide +kernel)) gt_wsX1_goes_wsX10) gt_wsX1_goes_wsX00) gt_wsX1_goes_wsX30) gt_wsX1_goes_wsX40) gt_wsX1_goes_wsX60) gt_wsX1_goes_wsX70) gt_wsX1_goes_wsX80) gt_wsX1_goes_wsX100) gt_wsX1_goes_wsX20
set_option maxRecDepth 20000 in
theorem gX1_goes_X1_goesMinute : GoodIn wsX1_goes (wsV RX1 112 RX1 yX1_goesMinute wsX1_goesMinute) := goodIn_app (goodIn_of _ (by decide +kernel)) ggX1_goes_X1_goesMinute
theorem dX1_goes_0 : decode cX1_goes 0 = .ok (.iconst 0, 1) := o_3 (by decide +kernel)
theorem dX1_goes_1 : decode cX1_goes 1 = .ok (.istore_n 2, 1) := o_61 (by decide +kernel)
theorem dX1_goes_2 : decode cX1_goes 2 = .ok (.iload_n 2, 1) := o_28 (by decide +kernel)
theorem dX1_goes_3 : decode cX1_goes 3 = .ok (.iload_n 1, 1) := o_27 (by decide +kernel)
theorem dX1_goes_4 : decode cX1_goes 4 = .ok (.if_icmp .ge 14, 3) := o_162 (by decide +kernel)
theorem dX1_goes_7 : decode cX1_goes 7 = .ok (.aload_n 0, 1) := o_42 (by decide +kernel)
theorem dX1_goes_8 : decode cX1_goes 8 = .ok (.invokevirtual 112, 3) := o_182 (by decide +kernel)
theorem dX1_goes_11 : decode cX1_goes 11 = .ok (.pop, 1) := o_87 (by decide +kernel)
theorem dX1_goes_12 : decode cX1_goes 12 = .ok (.iinc 2 1, 3) := o_132 (by decide +kernel)
theorem dX1_goes_15 : decode cX1_goes 15 = .ok (.goto (-13), 3) := o_167 (by decide +kernel)
theorem dX1_goes_18 : decode cX1_goes 18 = .ok (.return_, 1) := o_177 (by decide +kernel)
theorem gt_wsX1_goesMinute_wsX10 : GoodIn wsX1_goesMinute wsX10 := fun w h => ⟨List.mem_cons_of_mem _ (List.mem_append_left _ (List.mem_append_left _ (List.mem_append_left _ (List.mem_append_left _ (List.mem_append_left _ (List.mem_append_left _ (List.mem_append_left _ (List.mem_append_left _ (List.mem_append_right _ h))))))))), good_of_word (gq_wsX10 w h)⟩
theorem gt_wsX1_goesMinute_wsX00 : GoodIn wsX1_goesMinute wsX00 := fun w h => ⟨List.mem_cons_of_mem _ (List.mem_append_left _ (List.mem_append_left _ (List.mem_append_left _ (List.mem_append_left _ (List.mem_append_left _ (List.mem_append_left _ (List.mem_append_left _ (List.mem_append_right _ h)))))))), good_of_word (gq_wsX00 w h)⟩
theorem gt_wsX1_goesMinute_wsX30 : GoodIn wsX1_goesMinute wsX30 := fun w h => ⟨List.mem_cons_of_mem _ (List.mem_append_left _ (List.mem_append_left _ (List.mem_append_left _ (List.mem_append_left _ (List.mem_append_left _ (List.mem_append_left _ (List.mem_append_right _ h))))))), good_of_word (gq_wsX30 w h)⟩
theorem gt_wsX1_goesMinute_wsX40 : GoodIn wsX1_goesMinute wsX40 := fun w h => ⟨List.mem_cons_of_mem _ (List.mem_append_left _ (List.mem_append_left _ (List.mem_append_left _ (List.mem_append_left _ (List.mem_append_left _ (List.mem_append_right _ h)))))), good_of_word (gq_wsX40 w h)⟩
theorem gt_wsX1_goesMinute_wsX60 : GoodIn wsX1_goesMinute wsX60 := fun w h => ⟨List.mem_cons_of_mem _ (List.mem_append_left _ (List.mem_append_left _ (List.mem_append_left _ (List.mem_append_left _ (List.mem_append_right _ h))))), good_of_word (gq_wsX60 w h)⟩
theorem gt_wsX1_goesMinute_wsX70 : GoodIn wsX1_goesMinute wsX70 := fun w h => ⟨List.mem_cons_of_mem _ (List.mem_append_left _ (List.mem_append_left _ (List.mem_append_left _ (List.mem_append_right _ h)))), good_of_word (gq_wsX70 w h)⟩
theorem gt_wsX1_goesMinute_wsX80 : GoodIn wsX1_goesMinute wsX80 := fun w h => ⟨List.mem_cons_of_mem _ (List.mem_append_left _ (List.mem_append_left _ (List.mem_append_right _ h))), good_of_word (gq_wsX80 w h)⟩
theorem gt_wsX1_goesMinute_wsX100 : GoodIn wsX1_goesMinute wsX100 := fun w h => ⟨List.mem_cons_of_mem _ (List.mem_append_left _ (List.mem_append_right _ h)), good_of_word (gq_wsX100 w h)⟩
theorem gt_wsX1_goesMinute_wsX20 : GoodIn wsX1_goesMinute wsX20 := fun w h => ⟨List.mem_cons_of_mem _ (List.mem_append_right _ h), good_of_word (gq_wsX20 w h)⟩
set_option maxRecDepth 20000 in
theorem ggX1_goesMinute_X1_strideAt : GoodIn wsX1_goesMinute wsX1_strideAt := goodIn_ca (goodIn_ca (goodIn_ca (goodIn_ca (goodIn_ca (goodIn_ca (goodIn_ca (goodIn_ca (goodIn_ca (goodIn_s _ [(11, 1), (3, 1), (12, 5), (10, 1), (17, 4), (6, 1), (21, 66), (1, 1), (5, 1), (87, 18)] rfl (by decide +kernel)) gt_wsX1_goesMinute_wsX10) gt_wsX1_goesMinute_wsX00) gt_wsX1_goesMinute_wsX30) gt_wsX1_goesMinute_wsX40) gt_wsX1_goesMinute_wsX60) gt_wsX1_goesMinute_wsX70) gt_wsX1_goesMinute_wsX80) gt_wsX1_goesMinute_wsX100) gt_wsX1_goesMinute_wsX20
set_option maxRecDepth 20000 in
theorem gX1_goesMinute_X1_strideAt : GoodIn wsX1_goesMinute (wsV RX1 115 RX1 yX1_strideAt wsX1_strideAt) := goodIn_app (goodIn_of _ (by decide +kernel)) ggX1_goesMinute_X1_strideAt
set_option maxRecDepth 20000 in
theorem ggX1_goesMinute_X1_roomAt : GoodIn wsX1_goesMinute wsX1_roomAt := goodIn_ca (goodIn_ca (goodIn_s _ [(108, 1), (3, 1), (5, 1), (2, 1), (109, 7), (87, 3), (10, 1), (90, 2), (21, 1), (92, 1)] rfl (by decide +kernel)) gt_wsX1_goesMinute_wsX10) gt_wsX1_goesMinute_wsX20
set_option maxRecDepth 20000 in
theorem gX1_goesMinute_X1_roomAt : GoodIn wsX1_goesMinute (wsV RX1 118 RX1 yX1_roomAt wsX1_roomAt) := goodIn_app (goodIn_of _ (by decide +kernel)) ggX1_goesMinute_X1_roomAt
set_option maxRecDepth 20000 in
theorem ggX1_goesMinute_X1_wears : GoodIn wsX1_goesMinute wsX1_wears := goodIn_ca (goodIn_ca (goodIn_s _ [(119, 1), (13, 1), (113, 2), (111, 1), (115, 1), (20, 2), (120, 1), (109, 2), (112, 1)] rfl (by decide +kernel)) gt_wsX1_goesMinute_wsX10) gt_wsX1_goesMinute_wsX20
set_option maxRecDepth 20000 in
theorem gX1_goesMinute_X1_wears : GoodIn wsX1_goesMinute (wsV RX1 121 RX1 yX1_wears wsX1_wears) := goodIn_app (goodIn_of _ (by decide +kernel)) ggX1_goesMinute_X1_wears
theorem dX1_goesMinute_0 : decode cX1_goesMinute 0 = .ok (.iconst 0, 1) := o_3 (by decide +kernel)
theorem dX1_goesMinute_1 : decode cX1_goesMinute 1 = .ok (.istore_n 1, 1) := o_60 (by decide +kernel)
theorem dX1_goesMinute_2 : decode cX1_goesMinute 2 = .ok (.iload_n 1, 1) := o_27 (by decide +kernel)
theorem dX1_goesMinute_3 : decode cX1_goesMinute 3 = .ok (.aload_n 0, 1) := o_42 (by decide +kernel)
theorem dX1_goesMinute_4 : decode cX1_goesMinute 4 = .ok (.getfield 25, 3) := o_180 (by decide +kernel)
theorem dX1_goesMinute_7 : decode cX1_goesMinute 7 = .ok (.if_icmp .ge 20, 3) := o_162 (by decide +kernel)
theorem dX1_goesMinute_10 : decode cX1_goesMinute 10 = .ok (.aload_n 0, 1) := o_42 (by decide +kernel)
theorem dX1_goesMinute_11 : decode cX1_goesMinute 11 = .ok (.getfield 68, 3) := o_180 (by decide +kernel)
theorem dX1_goesMinute_14 : decode cX1_goesMinute 14 = .ok (.iload_n 1, 1) := o_27 (by decide +kernel)
theorem dX1_goesMinute_15 : decode cX1_goesMinute 15 = .ok (.aload_n 0, 1) := o_42 (by decide +kernel)
theorem dX1_goesMinute_16 : decode cX1_goesMinute 16 = .ok (.iload_n 1, 1) := o_27 (by decide +kernel)
theorem dX1_goesMinute_17 : decode cX1_goesMinute 17 = .ok (.invokevirtual 115, 3) := o_182 (by decide +kernel)
theorem dX1_goesMinute_20 : decode cX1_goesMinute 20 = .ok (.iastore, 1) := o_79 (by decide +kernel)
theorem dX1_goesMinute_21 : decode cX1_goesMinute 21 = .ok (.iinc 1 1, 3) := o_132 (by decide +kernel)
theorem dX1_goesMinute_24 : decode cX1_goesMinute 24 = .ok (.goto (-22), 3) := o_167 (by decide +kernel)
theorem dX1_goesMinute_27 : decode cX1_goesMinute 27 = .ok (.iconst 0, 1) := o_3 (by decide +kernel)
theorem dX1_goesMinute_28 : decode cX1_goesMinute 28 = .ok (.istore_n 1, 1) := o_60 (by decide +kernel)
theorem dX1_goesMinute_29 : decode cX1_goesMinute 29 = .ok (.iconst 0, 1) := o_3 (by decide +kernel)
theorem dX1_goesMinute_30 : decode cX1_goesMinute 30 = .ok (.istore_n 2, 1) := o_61 (by decide +kernel)
theorem dX1_goesMinute_31 : decode cX1_goesMinute 31 = .ok (.iload_n 2, 1) := o_28 (by decide +kernel)
theorem dX1_goesMinute_32 : decode cX1_goesMinute 32 = .ok (.aload_n 0, 1) := o_42 (by decide +kernel)
theorem dX1_goesMinute_33 : decode cX1_goesMinute 33 = .ok (.getfield 25, 3) := o_180 (by decide +kernel)
theorem dX1_goesMinute_36 : decode cX1_goesMinute 36 = .ok (.if_icmp .ge 91, 3) := o_162 (by decide +kernel)
theorem dX1_goesMinute_39 : decode cX1_goesMinute 39 = .ok (.aload_n 0, 1) := o_42 (by decide +kernel)
theorem dX1_goesMinute_40 : decode cX1_goesMinute 40 = .ok (.getfield 21, 3) := o_180 (by decide +kernel)
theorem dX1_goesMinute_43 : decode cX1_goesMinute 43 = .ok (.iload_n 2, 1) := o_28 (by decide +kernel)
theorem dX1_goesMinute_44 : decode cX1_goesMinute 44 = .ok (.iaload, 1) := o_46 (by decide +kernel)
theorem dX1_goesMinute_45 : decode cX1_goesMinute 45 = .ok (.istore_n 3, 1) := o_62 (by decide +kernel)
theorem dX1_goesMinute_46 : decode cX1_goesMinute 46 = .ok (.iconst 0, 1) := o_3 (by decide +kernel)
theorem dX1_goesMinute_47 : decode cX1_goesMinute 47 = .ok (.istore 4, 2) := o_54 (by decide +kernel)
theorem dX1_goesMinute_49 : decode cX1_goesMinute 49 = .ok (.aload_n 0, 1) := o_42 (by decide +kernel)
theorem dX1_goesMinute_50 : decode cX1_goesMinute 50 = .ok (.getfield 37, 3) := o_180 (by decide +kernel)
theorem dX1_goesMinute_53 : decode cX1_goesMinute 53 = .ok (.iload_n 3, 1) := o_29 (by decide +kernel)
theorem dX1_goesMinute_54 : decode cX1_goesMinute 54 = .ok (.iaload, 1) := o_46 (by decide +kernel)
theorem dX1_goesMinute_55 : decode cX1_goesMinute 55 = .ok (.ifCond .le 16, 3) := o_158 (by decide +kernel)
theorem dX1_goesMinute_58 : decode cX1_goesMinute 58 = .ok (.aload_n 0, 1) := o_42 (by decide +kernel)
theorem dX1_goesMinute_59 : decode cX1_goesMinute 59 = .ok (.getfield 37, 3) := o_180 (by decide +kernel)
theorem dX1_goesMinute_62 : decode cX1_goesMinute 62 = .ok (.iload_n 3, 1) := o_29 (by decide +kernel)
theorem dX1_goesMinute_63 : decode cX1_goesMinute 63 = .ok (.dup2, 1) := o_92 (by decide +kernel)
theorem dX1_goesMinute_64 : decode cX1_goesMinute 64 = .ok (.iaload, 1) := o_46 (by decide +kernel)
theorem dX1_goesMinute_65 : decode cX1_goesMinute 65 = .ok (.iconst 1, 1) := o_4 (by decide +kernel)
theorem dX1_goesMinute_66 : decode cX1_goesMinute 66 = .ok (.isub, 1) := o_100 (by decide +kernel)
theorem dX1_goesMinute_67 : decode cX1_goesMinute 67 = .ok (.iastore, 1) := o_79 (by decide +kernel)
theorem dX1_goesMinute_68 : decode cX1_goesMinute 68 = .ok (.goto 27, 3) := o_167 (by decide +kernel)
theorem dX1_goesMinute_71 : decode cX1_goesMinute 71 = .ok (.aload_n 0, 1) := o_42 (by decide +kernel)
theorem dX1_goesMinute_72 : decode cX1_goesMinute 72 = .ok (.iload_n 2, 1) := o_28 (by decide +kernel)
theorem dX1_goesMinute_73 : decode cX1_goesMinute 73 = .ok (.invokevirtual 118, 3) := o_182 (by decide +kernel)
theorem dX1_goesMinute_76 : decode cX1_goesMinute 76 = .ok (.istore 4, 2) := o_54 (by decide +kernel)
theorem dX1_goesMinute_78 : decode cX1_goesMinute 78 = .ok (.iload 4, 2) := o_21 (by decide +kernel)
theorem dX1_goesMinute_80 : decode cX1_goesMinute 80 = .ok (.aload_n 0, 1) := o_42 (by decide +kernel)
theorem dX1_goesMinute_81 : decode cX1_goesMinute 81 = .ok (.getfield 68, 3) := o_180 (by decide +kernel)
theorem dX1_goesMinute_84 : decode cX1_goesMinute 84 = .ok (.iload_n 2, 1) := o_28 (by decide +kernel)
theorem dX1_goesMinute_85 : decode cX1_goesMinute 85 = .ok (.iaload, 1) := o_46 (by decide +kernel)
theorem dX1_goesMinute_86 : decode cX1_goesMinute 86 = .ok (.if_icmp .ge 9, 3) := o_162 (by decide +kernel)
theorem dX1_goesMinute_89 : decode cX1_goesMinute 89 = .ok (.iload_n 1, 1) := o_27 (by decide +kernel)
theorem dX1_goesMinute_90 : decode cX1_goesMinute 90 = .ok (.iconst 1, 1) := o_4 (by decide +kernel)
theorem dX1_goesMinute_91 : decode cX1_goesMinute 91 = .ok (.iload_n 3, 1) := o_29 (by decide +kernel)
theorem dX1_goesMinute_92 : decode cX1_goesMinute 92 = .ok (.ishl, 1) := o_120 (by decide +kernel)
theorem dX1_goesMinute_93 : decode cX1_goesMinute 93 = .ok (.ior, 1) := o_128 (by decide +kernel)
theorem dX1_goesMinute_94 : decode cX1_goesMinute 94 = .ok (.istore_n 1, 1) := o_60 (by decide +kernel)
theorem dX1_goesMinute_95 : decode cX1_goesMinute 95 = .ok (.aload_n 0, 1) := o_42 (by decide +kernel)
theorem dX1_goesMinute_96 : decode cX1_goesMinute 96 = .ok (.getfield 28, 3) := o_180 (by decide +kernel)
theorem dX1_goesMinute_99 : decode cX1_goesMinute 99 = .ok (.iload_n 3, 1) := o_29 (by decide +kernel)
theorem dX1_goesMinute_100 : decode cX1_goesMinute 100 = .ok (.dup2, 1) := o_92 (by decide +kernel)
theorem dX1_goesMinute_101 : decode cX1_goesMinute 101 = .ok (.iaload, 1) := o_46 (by decide +kernel)
theorem dX1_goesMinute_102 : decode cX1_goesMinute 102 = .ok (.iload 4, 2) := o_21 (by decide +kernel)
theorem dX1_goesMinute_104 : decode cX1_goesMinute 104 = .ok (.iadd, 1) := o_96 (by decide +kernel)
theorem dX1_goesMinute_105 : decode cX1_goesMinute 105 = .ok (.iastore, 1) := o_79 (by decide +kernel)
theorem dX1_goesMinute_106 : decode cX1_goesMinute 106 = .ok (.aload_n 0, 1) := o_42 (by decide +kernel)
theorem dX1_goesMinute_107 : decode cX1_goesMinute 107 = .ok (.iload_n 3, 1) := o_29 (by decide +kernel)
theorem dX1_goesMinute_108 : decode cX1_goesMinute 108 = .ok (.iload 4, 2) := o_21 (by decide +kernel)
theorem dX1_goesMinute_110 : decode cX1_goesMinute 110 = .ok (.ifCond .le 7, 3) := o_158 (by decide +kernel)
theorem dX1_goesMinute_113 : decode cX1_goesMinute 113 = .ok (.iconst 1, 1) := o_4 (by decide +kernel)
theorem dX1_goesMinute_114 : decode cX1_goesMinute 114 = .ok (.goto 4, 3) := o_167 (by decide +kernel)
theorem dX1_goesMinute_117 : decode cX1_goesMinute 117 = .ok (.iconst 0, 1) := o_3 (by decide +kernel)
theorem dX1_goesMinute_118 : decode cX1_goesMinute 118 = .ok (.invokevirtual 121, 3) := o_182 (by decide +kernel)
theorem dX1_goesMinute_121 : decode cX1_goesMinute 121 = .ok (.iinc 2 1, 3) := o_132 (by decide +kernel)
theorem dX1_goesMinute_124 : decode cX1_goesMinute 124 = .ok (.goto (-93), 3) := o_167 (by decide +kernel)
theorem dX1_goesMinute_127 : decode cX1_goesMinute 127 = .ok (.aload_n 0, 1) := o_42 (by decide +kernel)
theorem dX1_goesMinute_128 : decode cX1_goesMinute 128 = .ok (.dup, 1) := o_89 (by decide +kernel)
theorem dX1_goesMinute_129 : decode cX1_goesMinute 129 = .ok (.getfield 43, 3) := o_180 (by decide +kernel)
theorem dX1_goesMinute_132 : decode cX1_goesMinute 132 = .ok (.iconst 1, 1) := o_4 (by decide +kernel)
theorem dX1_goesMinute_133 : decode cX1_goesMinute 133 = .ok (.iadd, 1) := o_96 (by decide +kernel)
theorem dX1_goesMinute_134 : decode cX1_goesMinute 134 = .ok (.putfield 43, 3) := o_181 (by decide +kernel)
theorem dX1_goesMinute_137 : decode cX1_goesMinute 137 = .ok (.iload_n 1, 1) := o_27 (by decide +kernel)
theorem dX1_goesMinute_138 : decode cX1_goesMinute 138 = .ok (.ireturn, 1) := o_172 (by decide +kernel)
theorem gt_wsX1_roomAt_wsX10 : GoodIn wsX1_roomAt wsX10 := fun w h => ⟨List.mem_cons_of_mem _ (List.mem_append_left _ (List.mem_append_right _ h)), good_of_word (gq_wsX10 w h)⟩
theorem gt_wsX1_roomAt_wsX20 : GoodIn wsX1_roomAt wsX20 := fun w h => ⟨List.mem_cons_of_mem _ (List.mem_append_right _ h), good_of_word (gq_wsX20 w h)⟩
set_option maxRecDepth 20000 in
theorem ggX1_roomAt_X1_gap : GoodIn wsX1_roomAt wsX1_gap := goodIn_ca (goodIn_ca (goodIn_s _ [(15, 4)] rfl (by decide +kernel)) gt_wsX1_roomAt_wsX10) gt_wsX1_roomAt_wsX20
set_option maxRecDepth 20000 in
theorem gX1_roomAt_X1_gap : GoodIn wsX1_roomAt (wsV RX1 109 RX1 yX1_gap wsX1_gap) := goodIn_app (goodIn_of _ (by decide +kernel)) ggX1_roomAt_X1_gap
theorem dX1_roomAt_0 : decode cX1_roomAt 0 = .ok (.aload_n 0, 1) := o_42 (by decide +kernel)
theorem dX1_roomAt_1 : decode cX1_roomAt 1 = .ok (.getfield 21, 3) := o_180 (by decide +kernel)
theorem dX1_roomAt_4 : decode cX1_roomAt 4 = .ok (.iload_n 1, 1) := o_27 (by decide +kernel)
theorem dX1_roomAt_5 : decode cX1_roomAt 5 = .ok (.iaload, 1) := o_46 (by decide +kernel)
theorem dX1_roomAt_6 : decode cX1_roomAt 6 = .ok (.istore_n 2, 1) := o_61 (by decide +kernel)
theorem dX1_roomAt_7 : decode cX1_roomAt 7 = .ok (.aload_n 0, 1) := o_42 (by decide +kernel)
theorem dX1_roomAt_8 : decode cX1_roomAt 8 = .ok (.getfield 28, 3) := o_180 (by decide +kernel)
theorem dX1_roomAt_11 : decode cX1_roomAt 11 = .ok (.iload_n 2, 1) := o_28 (by decide +kernel)
theorem dX1_roomAt_12 : decode cX1_roomAt 12 = .ok (.iaload, 1) := o_46 (by decide +kernel)
theorem dX1_roomAt_13 : decode cX1_roomAt 13 = .ok (.aload_n 0, 1) := o_42 (by decide +kernel)
theorem dX1_roomAt_14 : decode cX1_roomAt 14 = .ok (.getfield 68, 3) := o_180 (by decide +kernel)
theorem dX1_roomAt_17 : decode cX1_roomAt 17 = .ok (.iload_n 1, 1) := o_27 (by decide +kernel)
theorem dX1_roomAt_18 : decode cX1_roomAt 18 = .ok (.iaload, 1) := o_46 (by decide +kernel)
theorem dX1_roomAt_19 : decode cX1_roomAt 19 = .ok (.iadd, 1) := o_96 (by decide +kernel)
theorem dX1_roomAt_20 : decode cX1_roomAt 20 = .ok (.sipush 9999, 3) := o_17 (by decide +kernel)
theorem dX1_roomAt_23 : decode cX1_roomAt 23 = .ok (.invokestatic 125, 3) := o_184 (by decide +kernel)
theorem dX1_roomAt_26 : decode cX1_roomAt 26 = .ok (.istore_n 3, 1) := o_62 (by decide +kernel)
theorem dX1_roomAt_27 : decode cX1_roomAt 27 = .ok (.iload_n 1, 1) := o_27 (by decide +kernel)
theorem dX1_roomAt_28 : decode cX1_roomAt 28 = .ok (.ifCond .le 26, 3) := o_158 (by decide +kernel)
theorem dX1_roomAt_31 : decode cX1_roomAt 31 = .ok (.iload_n 3, 1) := o_29 (by decide +kernel)
theorem dX1_roomAt_32 : decode cX1_roomAt 32 = .ok (.aload_n 0, 1) := o_42 (by decide +kernel)
theorem dX1_roomAt_33 : decode cX1_roomAt 33 = .ok (.getfield 28, 3) := o_180 (by decide +kernel)
theorem dX1_roomAt_36 : decode cX1_roomAt 36 = .ok (.aload_n 0, 1) := o_42 (by decide +kernel)
theorem dX1_roomAt_37 : decode cX1_roomAt 37 = .ok (.getfield 21, 3) := o_180 (by decide +kernel)
theorem dX1_roomAt_40 : decode cX1_roomAt 40 = .ok (.iload_n 1, 1) := o_27 (by decide +kernel)
theorem dX1_roomAt_41 : decode cX1_roomAt 41 = .ok (.iconst 1, 1) := o_4 (by decide +kernel)
theorem dX1_roomAt_42 : decode cX1_roomAt 42 = .ok (.isub, 1) := o_100 (by decide +kernel)
theorem dX1_roomAt_43 : decode cX1_roomAt 43 = .ok (.iaload, 1) := o_46 (by decide +kernel)
theorem dX1_roomAt_44 : decode cX1_roomAt 44 = .ok (.iaload, 1) := o_46 (by decide +kernel)
theorem dX1_roomAt_45 : decode cX1_roomAt 45 = .ok (.aload_n 0, 1) := o_42 (by decide +kernel)
theorem dX1_roomAt_46 : decode cX1_roomAt 46 = .ok (.invokevirtual 109, 3) := o_182 (by decide +kernel)
theorem dX1_roomAt_49 : decode cX1_roomAt 49 = .ok (.isub, 1) := o_100 (by decide +kernel)
theorem dX1_roomAt_50 : decode cX1_roomAt 50 = .ok (.invokestatic 125, 3) := o_184 (by decide +kernel)
theorem dX1_roomAt_53 : decode cX1_roomAt 53 = .ok (.istore_n 3, 1) := o_62 (by decide +kernel)
theorem dX1_roomAt_54 : decode cX1_roomAt 54 = .ok (.iconst 0, 1) := o_3 (by decide +kernel)
theorem dX1_roomAt_55 : decode cX1_roomAt 55 = .ok (.iload_n 3, 1) := o_29 (by decide +kernel)
theorem dX1_roomAt_56 : decode cX1_roomAt 56 = .ok (.aload_n 0, 1) := o_42 (by decide +kernel)
theorem dX1_roomAt_57 : decode cX1_roomAt 57 = .ok (.getfield 28, 3) := o_180 (by decide +kernel)
theorem dX1_roomAt_60 : decode cX1_roomAt 60 = .ok (.iload_n 2, 1) := o_28 (by decide +kernel)
theorem dX1_roomAt_61 : decode cX1_roomAt 61 = .ok (.iaload, 1) := o_46 (by decide +kernel)
theorem dX1_roomAt_62 : decode cX1_roomAt 62 = .ok (.isub, 1) := o_100 (by decide +kernel)
theorem dX1_roomAt_63 : decode cX1_roomAt 63 = .ok (.invokestatic 131, 3) := o_184 (by decide +kernel)
theorem dX1_roomAt_66 : decode cX1_roomAt 66 = .ok (.ireturn, 1) := o_172 (by decide +kernel)
theorem dX1_wears_0 : decode cX1_wears 0 = .ok (.iload_n 2, 1) := o_28 (by decide +kernel)
theorem dX1_wears_1 : decode cX1_wears 1 = .ok (.ifCond .eq 49, 3) := o_153 (by decide +kernel)
theorem dX1_wears_4 : decode cX1_wears 4 = .ok (.aload_n 0, 1) := o_42 (by decide +kernel)
theorem dX1_wears_5 : decode cX1_wears 5 = .ok (.getfield 31, 3) := o_180 (by decide +kernel)
theorem dX1_wears_8 : decode cX1_wears 8 = .ok (.iload_n 1, 1) := o_27 (by decide +kernel)
theorem dX1_wears_9 : decode cX1_wears 9 = .ok (.iconst 0, 1) := o_3 (by decide +kernel)
theorem dX1_wears_10 : decode cX1_wears 10 = .ok (.aload_n 0, 1) := o_42 (by decide +kernel)
theorem dX1_wears_11 : decode cX1_wears 11 = .ok (.getfield 31, 3) := o_180 (by decide +kernel)
theorem dX1_wears_14 : decode cX1_wears 14 = .ok (.iload_n 1, 1) := o_27 (by decide +kernel)
theorem dX1_wears_15 : decode cX1_wears 15 = .ok (.iaload, 1) := o_46 (by decide +kernel)
theorem dX1_wears_16 : decode cX1_wears 16 = .ok (.iconst 1, 1) := o_4 (by decide +kernel)
theorem dX1_wears_17 : decode cX1_wears 17 = .ok (.isub, 1) := o_100 (by decide +kernel)
theorem dX1_wears_18 : decode cX1_wears 18 = .ok (.invokestatic 131, 3) := o_184 (by decide +kernel)
theorem dX1_wears_21 : decode cX1_wears 21 = .ok (.iastore, 1) := o_79 (by decide +kernel)
theorem dX1_wears_22 : decode cX1_wears 22 = .ok (.aload_n 0, 1) := o_42 (by decide +kernel)
theorem dX1_wears_23 : decode cX1_wears 23 = .ok (.getfield 34, 3) := o_180 (by decide +kernel)
theorem dX1_wears_26 : decode cX1_wears 26 = .ok (.iload_n 1, 1) := o_27 (by decide +kernel)
theorem dX1_wears_27 : decode cX1_wears 27 = .ok (.bipush 99, 2) := o_16 (by decide +kernel)
theorem dX1_wears_29 : decode cX1_wears 29 = .ok (.aload_n 0, 1) := o_42 (by decide +kernel)
theorem dX1_wears_30 : decode cX1_wears 30 = .ok (.getfield 34, 3) := o_180 (by decide +kernel)
theorem dX1_wears_33 : decode cX1_wears 33 = .ok (.iload_n 1, 1) := o_27 (by decide +kernel)
theorem dX1_wears_34 : decode cX1_wears 34 = .ok (.iaload, 1) := o_46 (by decide +kernel)
theorem dX1_wears_35 : decode cX1_wears 35 = .ok (.aload_n 0, 1) := o_42 (by decide +kernel)
theorem dX1_wears_36 : decode cX1_wears 36 = .ok (.getfield 46, 3) := o_180 (by decide +kernel)
theorem dX1_wears_39 : decode cX1_wears 39 = .ok (.getfield 134, 3) := o_180 (by decide +kernel)
theorem dX1_wears_42 : decode cX1_wears 42 = .ok (.iadd, 1) := o_96 (by decide +kernel)
theorem dX1_wears_43 : decode cX1_wears 43 = .ok (.invokestatic 125, 3) := o_184 (by decide +kernel)
theorem dX1_wears_46 : decode cX1_wears 46 = .ok (.iastore, 1) := o_79 (by decide +kernel)
theorem dX1_wears_47 : decode cX1_wears 47 = .ok (.goto 21, 3) := o_167 (by decide +kernel)
theorem dX1_wears_50 : decode cX1_wears 50 = .ok (.aload_n 0, 1) := o_42 (by decide +kernel)
theorem dX1_wears_51 : decode cX1_wears 51 = .ok (.getfield 34, 3) := o_180 (by decide +kernel)
theorem dX1_wears_54 : decode cX1_wears 54 = .ok (.iload_n 1, 1) := o_27 (by decide +kernel)
theorem dX1_wears_55 : decode cX1_wears 55 = .ok (.iconst 0, 1) := o_3 (by decide +kernel)
theorem dX1_wears_56 : decode cX1_wears 56 = .ok (.aload_n 0, 1) := o_42 (by decide +kernel)
theorem dX1_wears_57 : decode cX1_wears 57 = .ok (.getfield 34, 3) := o_180 (by decide +kernel)
theorem dX1_wears_60 : decode cX1_wears 60 = .ok (.iload_n 1, 1) := o_27 (by decide +kernel)
theorem dX1_wears_61 : decode cX1_wears 61 = .ok (.iaload, 1) := o_46 (by decide +kernel)
theorem dX1_wears_62 : decode cX1_wears 62 = .ok (.iconst 2, 1) := o_5 (by decide +kernel)
theorem dX1_wears_63 : decode cX1_wears 63 = .ok (.isub, 1) := o_100 (by decide +kernel)
theorem dX1_wears_64 : decode cX1_wears 64 = .ok (.invokestatic 131, 3) := o_184 (by decide +kernel)
theorem dX1_wears_67 : decode cX1_wears 67 = .ok (.iastore, 1) := o_79 (by decide +kernel)
theorem dX1_wears_68 : decode cX1_wears 68 = .ok (.return_, 1) := o_177 (by decide +kernel)
theorem gt_wsX1_whetsAll_wsX10 : GoodIn wsX1_whetsAll wsX10 := fun w h => ⟨List.mem_cons_of_mem _ (List.mem_append_right _ h), good_of_word (gq_wsX10 w h)⟩
set_option maxRecDepth 20000 in
theorem ggX1_whetsAll_X1_passes : GoodIn wsX1_whetsAll wsX1_passes := goodIn_ca (goodIn_s _ [(7, 1), (1, 1), (8, 7)] rfl (by decide +kernel)) gt_wsX1_whetsAll_wsX10
set_option maxRecDepth 20000 in
theorem gX1_whetsAll_X1_passes : GoodIn wsX1_whetsAll (wsV RX1 137 RX1 yX1_passes wsX1_passes) := goodIn_app (goodIn_of _ (by decide +kernel)) ggX1_whetsAll_X1_passes
theorem dX1_whetsAll_0 : decode cX1_whetsAll 0 = .ok (.iconst 0, 1) := o_3 (by decide +kernel)
theorem dX1_whetsAll_1 : decode cX1_whetsAll 1 = .ok (.istore_n 1, 1) := o_60 (by decide +kernel)
theorem dX1_whetsAll_2 : decode cX1_whetsAll 2 = .ok (.iload_n 1, 1) := o_27 (by decide +kernel)
theorem dX1_whetsAll_3 : decode cX1_whetsAll 3 = .ok (.aload_n 0, 1) := o_42 (by decide +kernel)
theorem dX1_whetsAll_4 : decode cX1_whetsAll 4 = .ok (.getfield 17, 3) := o_180 (by decide +kernel)
theorem dX1_whetsAll_7 : decode cX1_whetsAll 7 = .ok (.if_icmp .ge 17, 3) := o_162 (by decide +kernel)
theorem dX1_whetsAll_10 : decode cX1_whetsAll 10 = .ok (.aload_n 0, 1) := o_42 (by decide +kernel)
theorem dX1_whetsAll_11 : decode cX1_whetsAll 11 = .ok (.getfield 31, 3) := o_180 (by decide +kernel)
theorem dX1_whetsAll_14 : decode cX1_whetsAll 14 = .ok (.iload_n 1, 1) := o_27 (by decide +kernel)
theorem dX1_whetsAll_15 : decode cX1_whetsAll 15 = .ok (.bipush 10, 2) := o_16 (by decide +kernel)
theorem dX1_whetsAll_17 : decode cX1_whetsAll 17 = .ok (.iastore, 1) := o_79 (by decide +kernel)
theorem dX1_whetsAll_18 : decode cX1_whetsAll 18 = .ok (.iinc 1 1, 3) := o_132 (by decide +kernel)
theorem dX1_whetsAll_21 : decode cX1_whetsAll 21 = .ok (.goto (-19), 3) := o_167 (by decide +kernel)
theorem dX1_whetsAll_24 : decode cX1_whetsAll 24 = .ok (.aload_n 0, 1) := o_42 (by decide +kernel)
theorem dX1_whetsAll_25 : decode cX1_whetsAll 25 = .ok (.iconst 1, 1) := o_4 (by decide +kernel)
theorem dX1_whetsAll_26 : decode cX1_whetsAll 26 = .ok (.iconst 1, 1) := o_4 (by decide +kernel)
theorem dX1_whetsAll_27 : decode cX1_whetsAll 27 = .ok (.invokevirtual 137, 3) := o_182 (by decide +kernel)
theorem dX1_whetsAll_30 : decode cX1_whetsAll 30 = .ok (.return_, 1) := o_177 (by decide +kernel)
theorem gt_wsX1_rests_wsX10 : GoodIn wsX1_rests wsX10 := fun w h => ⟨List.mem_cons_of_mem _ (List.mem_append_right _ h), good_of_word (gq_wsX10 w h)⟩
set_option maxRecDepth 20000 in
theorem ggX1_rests_X1_passes : GoodIn wsX1_rests wsX1_passes := goodIn_ca (goodIn_s _ [(5, 9)] rfl (by decide +kernel)) gt_wsX1_rests_wsX10
set_option maxRecDepth 20000 in
theorem gX1_rests_X1_passes : GoodIn wsX1_rests (wsV RX1 137 RX1 yX1_passes wsX1_passes) := goodIn_app (goodIn_of _ (by decide +kernel)) ggX1_rests_X1_passes
theorem dX1_rests_0 : decode cX1_rests 0 = .ok (.aload_n 0, 1) := o_42 (by decide +kernel)
theorem dX1_rests_1 : decode cX1_rests 1 = .ok (.iload_n 1, 1) := o_27 (by decide +kernel)
theorem dX1_rests_2 : decode cX1_rests 2 = .ok (.iconst 3, 1) := o_6 (by decide +kernel)
theorem dX1_rests_3 : decode cX1_rests 3 = .ok (.iload_n 1, 1) := o_27 (by decide +kernel)
theorem dX1_rests_4 : decode cX1_rests 4 = .ok (.imul, 1) := o_104 (by decide +kernel)
theorem dX1_rests_5 : decode cX1_rests 5 = .ok (.invokevirtual 137, 3) := o_182 (by decide +kernel)
theorem dX1_rests_8 : decode cX1_rests 8 = .ok (.return_, 1) := o_177 (by decide +kernel)
theorem dX1_passes_0 : decode cX1_passes 0 = .ok (.iconst 0, 1) := o_3 (by decide +kernel)
theorem dX1_passes_1 : decode cX1_passes 1 = .ok (.istore_n 3, 1) := o_62 (by decide +kernel)
theorem dX1_passes_2 : decode cX1_passes 2 = .ok (.iload_n 3, 1) := o_29 (by decide +kernel)
theorem dX1_passes_3 : decode cX1_passes 3 = .ok (.aload_n 0, 1) := o_42 (by decide +kernel)
theorem dX1_passes_4 : decode cX1_passes 4 = .ok (.getfield 17, 3) := o_180 (by decide +kernel)
theorem dX1_passes_7 : decode cX1_passes 7 = .ok (.if_icmp .ge 45, 3) := o_162 (by decide +kernel)
theorem dX1_passes_10 : decode cX1_passes 10 = .ok (.aload_n 0, 1) := o_42 (by decide +kernel)
theorem dX1_passes_11 : decode cX1_passes 11 = .ok (.getfield 34, 3) := o_180 (by decide +kernel)
theorem dX1_passes_14 : decode cX1_passes 14 = .ok (.iload_n 3, 1) := o_29 (by decide +kernel)
theorem dX1_passes_15 : decode cX1_passes 15 = .ok (.iconst 0, 1) := o_3 (by decide +kernel)
theorem dX1_passes_16 : decode cX1_passes 16 = .ok (.aload_n 0, 1) := o_42 (by decide +kernel)
theorem dX1_passes_17 : decode cX1_passes 17 = .ok (.getfield 34, 3) := o_180 (by decide +kernel)
theorem dX1_passes_20 : decode cX1_passes 20 = .ok (.iload_n 3, 1) := o_29 (by decide +kernel)
theorem dX1_passes_21 : decode cX1_passes 21 = .ok (.iaload, 1) := o_46 (by decide +kernel)
theorem dX1_passes_22 : decode cX1_passes 22 = .ok (.iload_n 2, 1) := o_28 (by decide +kernel)
theorem dX1_passes_23 : decode cX1_passes 23 = .ok (.isub, 1) := o_100 (by decide +kernel)
theorem dX1_passes_24 : decode cX1_passes 24 = .ok (.invokestatic 131, 3) := o_184 (by decide +kernel)
theorem dX1_passes_27 : decode cX1_passes 27 = .ok (.iastore, 1) := o_79 (by decide +kernel)
theorem dX1_passes_28 : decode cX1_passes 28 = .ok (.aload_n 0, 1) := o_42 (by decide +kernel)
theorem dX1_passes_29 : decode cX1_passes 29 = .ok (.getfield 37, 3) := o_180 (by decide +kernel)
theorem dX1_passes_32 : decode cX1_passes 32 = .ok (.iload_n 3, 1) := o_29 (by decide +kernel)
theorem dX1_passes_33 : decode cX1_passes 33 = .ok (.iconst 0, 1) := o_3 (by decide +kernel)
theorem dX1_passes_34 : decode cX1_passes 34 = .ok (.aload_n 0, 1) := o_42 (by decide +kernel)
theorem dX1_passes_35 : decode cX1_passes 35 = .ok (.getfield 37, 3) := o_180 (by decide +kernel)
theorem dX1_passes_38 : decode cX1_passes 38 = .ok (.iload_n 3, 1) := o_29 (by decide +kernel)
theorem dX1_passes_39 : decode cX1_passes 39 = .ok (.iaload, 1) := o_46 (by decide +kernel)
theorem dX1_passes_40 : decode cX1_passes 40 = .ok (.iload_n 1, 1) := o_27 (by decide +kernel)
theorem dX1_passes_41 : decode cX1_passes 41 = .ok (.isub, 1) := o_100 (by decide +kernel)
theorem dX1_passes_42 : decode cX1_passes 42 = .ok (.invokestatic 131, 3) := o_184 (by decide +kernel)
theorem dX1_passes_45 : decode cX1_passes 45 = .ok (.iastore, 1) := o_79 (by decide +kernel)
theorem dX1_passes_46 : decode cX1_passes 46 = .ok (.iinc 3 1, 3) := o_132 (by decide +kernel)
theorem dX1_passes_49 : decode cX1_passes 49 = .ok (.goto (-47), 3) := o_167 (by decide +kernel)
theorem dX1_passes_52 : decode cX1_passes 52 = .ok (.aload_n 0, 1) := o_42 (by decide +kernel)
theorem dX1_passes_53 : decode cX1_passes 53 = .ok (.dup, 1) := o_89 (by decide +kernel)
theorem dX1_passes_54 : decode cX1_passes 54 = .ok (.getfield 43, 3) := o_180 (by decide +kernel)
theorem dX1_passes_57 : decode cX1_passes 57 = .ok (.iload_n 1, 1) := o_27 (by decide +kernel)
theorem dX1_passes_58 : decode cX1_passes 58 = .ok (.iadd, 1) := o_96 (by decide +kernel)
theorem dX1_passes_59 : decode cX1_passes 59 = .ok (.putfield 43, 3) := o_181 (by decide +kernel)
theorem dX1_passes_62 : decode cX1_passes 62 = .ok (.return_, 1) := o_177 (by decide +kernel)
theorem dX1_allAt_0 : decode cX1_allAt 0 = .ok (.iconst 0, 1) := o_3 (by decide +kernel)
theorem dX1_allAt_1 : decode cX1_allAt 1 = .ok (.istore_n 1, 1) := o_60 (by decide +kernel)
theorem dX1_allAt_2 : decode cX1_allAt 2 = .ok (.iconst 0, 1) := o_3 (by decide +kernel)
theorem dX1_allAt_3 : decode cX1_allAt 3 = .ok (.istore_n 2, 1) := o_61 (by decide +kernel)
theorem dX1_allAt_4 : decode cX1_allAt 4 = .ok (.iload_n 2, 1) := o_28 (by decide +kernel)
theorem dX1_allAt_5 : decode cX1_allAt 5 = .ok (.aload_n 0, 1) := o_42 (by decide +kernel)
theorem dX1_allAt_6 : decode cX1_allAt 6 = .ok (.getfield 17, 3) := o_180 (by decide +kernel)
theorem dX1_allAt_9 : decode cX1_allAt 9 = .ok (.if_icmp .ge 18, 3) := o_162 (by decide +kernel)
theorem dX1_allAt_12 : decode cX1_allAt 12 = .ok (.iload_n 1, 1) := o_27 (by decide +kernel)
theorem dX1_allAt_13 : decode cX1_allAt 13 = .ok (.aload_n 0, 1) := o_42 (by decide +kernel)
theorem dX1_allAt_14 : decode cX1_allAt 14 = .ok (.getfield 28, 3) := o_180 (by decide +kernel)
theorem dX1_allAt_17 : decode cX1_allAt 17 = .ok (.iload_n 2, 1) := o_28 (by decide +kernel)
theorem dX1_allAt_18 : decode cX1_allAt 18 = .ok (.iaload, 1) := o_46 (by decide +kernel)
theorem dX1_allAt_19 : decode cX1_allAt 19 = .ok (.iadd, 1) := o_96 (by decide +kernel)
theorem dX1_allAt_20 : decode cX1_allAt 20 = .ok (.istore_n 1, 1) := o_60 (by decide +kernel)
theorem dX1_allAt_21 : decode cX1_allAt 21 = .ok (.iinc 2 1, 3) := o_132 (by decide +kernel)
theorem dX1_allAt_24 : decode cX1_allAt 24 = .ok (.goto (-20), 3) := o_167 (by decide +kernel)
theorem dX1_allAt_27 : decode cX1_allAt 27 = .ok (.iload_n 1, 1) := o_27 (by decide +kernel)
theorem dX1_allAt_28 : decode cX1_allAt 28 = .ok (.ireturn, 1) := o_172 (by decide +kernel)
theorem dX1_isDone_0 : decode cX1_isDone 0 = .ok (.iconst 0, 1) := o_3 (by decide +kernel)
theorem dX1_isDone_1 : decode cX1_isDone 1 = .ok (.istore_n 1, 1) := o_60 (by decide +kernel)
theorem dX1_isDone_2 : decode cX1_isDone 2 = .ok (.iload_n 1, 1) := o_27 (by decide +kernel)
theorem dX1_isDone_3 : decode cX1_isDone 3 = .ok (.aload_n 0, 1) := o_42 (by decide +kernel)
theorem dX1_isDone_4 : decode cX1_isDone 4 = .ok (.getfield 17, 3) := o_180 (by decide +kernel)
theorem dX1_isDone_7 : decode cX1_isDone 7 = .ok (.if_icmp .ge 27, 3) := o_162 (by decide +kernel)
theorem dX1_isDone_10 : decode cX1_isDone 10 = .ok (.aload_n 0, 1) := o_42 (by decide +kernel)
theorem dX1_isDone_11 : decode cX1_isDone 11 = .ok (.getfield 28, 3) := o_180 (by decide +kernel)
theorem dX1_isDone_14 : decode cX1_isDone 14 = .ok (.iload_n 1, 1) := o_27 (by decide +kernel)
theorem dX1_isDone_15 : decode cX1_isDone 15 = .ok (.iaload, 1) := o_46 (by decide +kernel)
theorem dX1_isDone_16 : decode cX1_isDone 16 = .ok (.aload_n 0, 1) := o_42 (by decide +kernel)
theorem dX1_isDone_17 : decode cX1_isDone 17 = .ok (.getfield 46, 3) := o_180 (by decide +kernel)
theorem dX1_isDone_20 : decode cX1_isDone 20 = .ok (.getfield 141, 3) := o_180 (by decide +kernel)
theorem dX1_isDone_23 : decode cX1_isDone 23 = .ok (.if_icmp .ge 5, 3) := o_162 (by decide +kernel)
theorem dX1_isDone_26 : decode cX1_isDone 26 = .ok (.iconst 0, 1) := o_3 (by decide +kernel)
theorem dX1_isDone_27 : decode cX1_isDone 27 = .ok (.ireturn, 1) := o_172 (by decide +kernel)
theorem dX1_isDone_28 : decode cX1_isDone 28 = .ok (.iinc 1 1, 3) := o_132 (by decide +kernel)
theorem dX1_isDone_31 : decode cX1_isDone 31 = .ok (.goto (-29), 3) := o_167 (by decide +kernel)
theorem dX1_isDone_34 : decode cX1_isDone 34 = .ok (.iconst 1, 1) := o_4 (by decide +kernel)
theorem dX1_isDone_35 : decode cX1_isDone 35 = .ok (.ireturn, 1) := o_172 (by decide +kernel)
theorem dX2_init_0 : decode cX2_init 0 = .ok (.aload_n 0, 1) := o_42 (by decide +kernel)
theorem dX2_init_1 : decode cX2_init 1 = .ok (.invokespecial 3, 3) := o_183 (by decide +kernel)
theorem dX2_init_4 : decode cX2_init 4 = .ok (.aload_n 0, 1) := o_42 (by decide +kernel)
theorem dX2_init_5 : decode cX2_init 5 = .ok (.iconst 2, 1) := o_5 (by decide +kernel)
theorem dX2_init_6 : decode cX2_init 6 = .ok (.putfield 9, 3) := o_181 (by decide +kernel)
theorem dX2_init_9 : decode cX2_init 9 = .ok (.aload_n 0, 1) := o_42 (by decide +kernel)
theorem dX2_init_10 : decode cX2_init 10 = .ok (.iconst 1, 1) := o_4 (by decide +kernel)
theorem dX2_init_11 : decode cX2_init 11 = .ok (.putfield 15, 3) := o_181 (by decide +kernel)
theorem dX2_init_14 : decode cX2_init 14 = .ok (.aload_n 0, 1) := o_42 (by decide +kernel)
theorem dX2_init_15 : decode cX2_init 15 = .ok (.bipush 60, 2) := o_16 (by decide +kernel)
theorem dX2_init_17 : decode cX2_init 17 = .ok (.putfield 18, 3) := o_181 (by decide +kernel)
theorem dX2_init_20 : decode cX2_init 20 = .ok (.aload_n 0, 1) := o_42 (by decide +kernel)
theorem dX2_init_21 : decode cX2_init 21 = .ok (.bipush 100, 2) := o_16 (by decide +kernel)
theorem dX2_init_23 : decode cX2_init 23 = .ok (.newarray .int, 2) := on_int (by decide +kernel)
theorem dX2_init_25 : decode cX2_init 25 = .ok (.putfield 21, 3) := o_181 (by decide +kernel)
theorem dX2_init_28 : decode cX2_init 28 = .ok (.aload_n 0, 1) := o_42 (by decide +kernel)
theorem dX2_init_29 : decode cX2_init 29 = .ok (.iconst 0, 1) := o_3 (by decide +kernel)
theorem dX2_init_30 : decode cX2_init 30 = .ok (.putfield 25, 3) := o_181 (by decide +kernel)
theorem dX2_init_33 : decode cX2_init 33 = .ok (.aload_n 0, 1) := o_42 (by decide +kernel)
theorem dX2_init_34 : decode cX2_init 34 = .ok (.bipush 10, 2) := o_16 (by decide +kernel)
theorem dX2_init_36 : decode cX2_init 36 = .ok (.newarray .int, 2) := on_int (by decide +kernel)
theorem dX2_init_38 : decode cX2_init 38 = .ok (.putfield 28, 3) := o_181 (by decide +kernel)
theorem dX2_init_41 : decode cX2_init 41 = .ok (.aload_n 0, 1) := o_42 (by decide +kernel)
theorem dX2_init_42 : decode cX2_init 42 = .ok (.bipush 10, 2) := o_16 (by decide +kernel)
theorem dX2_init_44 : decode cX2_init 44 = .ok (.newarray .int, 2) := on_int (by decide +kernel)
theorem dX2_init_46 : decode cX2_init 46 = .ok (.putfield 31, 3) := o_181 (by decide +kernel)
theorem dX2_init_49 : decode cX2_init 49 = .ok (.aload_n 0, 1) := o_42 (by decide +kernel)
theorem dX2_init_50 : decode cX2_init 50 = .ok (.bipush 10, 2) := o_16 (by decide +kernel)
theorem dX2_init_52 : decode cX2_init 52 = .ok (.newarray .int, 2) := on_int (by decide +kernel)
theorem dX2_init_54 : decode cX2_init 54 = .ok (.putfield 34, 3) := o_181 (by decide +kernel)
theorem dX2_init_57 : decode cX2_init 57 = .ok (.aload_n 0, 1) := o_42 (by decide +kernel)
theorem dX2_init_58 : decode cX2_init 58 = .ok (.iconst 0, 1) := o_3 (by decide +kernel)
theorem dX2_init_59 : decode cX2_init 59 = .ok (.putfield 37, 3) := o_181 (by decide +kernel)
theorem dX2_init_62 : decode cX2_init 62 = .ok (.aload_n 0, 1) := o_42 (by decide +kernel)
theorem dX2_init_63 : decode cX2_init 63 = .ok (.aconst_null, 1) := o_1 (by decide +kernel)
theorem dX2_init_64 : decode cX2_init 64 = .ok (.putfield 40, 3) := o_181 (by decide +kernel)
theorem dX2_init_67 : decode cX2_init 67 = .ok (.aload_n 0, 1) := o_42 (by decide +kernel)
theorem dX2_init_68 : decode cX2_init 68 = .ok (.iconst 0, 1) := o_3 (by decide +kernel)
theorem dX2_init_69 : decode cX2_init 69 = .ok (.putfield 44, 3) := o_181 (by decide +kernel)
theorem dX2_init_72 : decode cX2_init 72 = .ok (.aload_n 0, 1) := o_42 (by decide +kernel)
theorem dX2_init_73 : decode cX2_init 73 = .ok (.iconst 0, 1) := o_3 (by decide +kernel)
theorem dX2_init_74 : decode cX2_init 74 = .ok (.putfield 47, 3) := o_181 (by decide +kernel)
theorem dX2_init_77 : decode cX2_init 77 = .ok (.return_, 1) := o_177 (by decide +kernel)
theorem gt_wsX2_reads_wsX20 : GoodIn wsX2_reads wsX20 := fun w h => ⟨List.mem_cons_of_mem _ (List.mem_append_right _ h), good_of_word (gq_wsX20 w h)⟩
set_option maxRecDepth 20000 in
theorem ggX2_reads_X2_readsClause : GoodIn wsX2_reads wsX2_readsClause := goodIn_ca (goodIn_s _ [(17, 4), (16, 1), (21, 5), (6, 1), (12, 1), (11, 1), (26, 30), (9, 1), (56, 2), (8, 1), (10, 1), (58, 105), (4, 1), (163, 14), (1, 2), (177, 1), (3, 1), (5, 1), (178, 3)] rfl (by decide +kernel)) gt_wsX2_reads_wsX20
set_option maxRecDepth 20000 in
theorem gX2_reads_X2_readsClause : GoodIn wsX2_reads (wsV RX2 56 RX2 yX2_readsClause wsX2_readsClause) := goodIn_app (goodIn_of _ (by decide +kernel)) ggX2_reads_X2_readsClause
set_option maxRecDepth 20000 in
theorem ggX2_reads_X2_takes : GoodIn wsX2_reads wsX2_takes := goodIn_ca (goodIn_s _ [(143, 1), (12, 1), (22, 3), (16, 1), (25, 1), (6, 1), (11, 1)] rfl (by decide +kernel)) gt_wsX2_reads_wsX20
set_option maxRecDepth 20000 in
theorem gX2_reads_X2_takes : GoodIn wsX2_reads (wsV RX2 60 RX2 yX2_takes wsX2_takes) := goodIn_app (goodIn_of _ (by decide +kernel)) ggX2_reads_X2_takes
theorem dX2_reads_0 : decode cX2_reads 0 = .ok (.aload_n 0, 1) := o_42 (by decide +kernel)
theorem dX2_reads_1 : decode cX2_reads 1 = .ok (.iconst 2, 1) := o_5 (by decide +kernel)
theorem dX2_reads_2 : decode cX2_reads 2 = .ok (.putfield 9, 3) := o_181 (by decide +kernel)
theorem dX2_reads_5 : decode cX2_reads 5 = .ok (.aload_n 0, 1) := o_42 (by decide +kernel)
theorem dX2_reads_6 : decode cX2_reads 6 = .ok (.iconst 1, 1) := o_4 (by decide +kernel)
theorem dX2_reads_7 : decode cX2_reads 7 = .ok (.putfield 15, 3) := o_181 (by decide +kernel)
theorem dX2_reads_10 : decode cX2_reads 10 = .ok (.aload_n 0, 1) := o_42 (by decide +kernel)
theorem dX2_reads_11 : decode cX2_reads 11 = .ok (.bipush 60, 2) := o_16 (by decide +kernel)
theorem dX2_reads_13 : decode cX2_reads 13 = .ok (.putfield 18, 3) := o_181 (by decide +kernel)
theorem dX2_reads_16 : decode cX2_reads 16 = .ok (.aload_n 0, 1) := o_42 (by decide +kernel)
theorem dX2_reads_17 : decode cX2_reads 17 = .ok (.iconst 0, 1) := o_3 (by decide +kernel)
theorem dX2_reads_18 : decode cX2_reads 18 = .ok (.putfield 25, 3) := o_181 (by decide +kernel)
theorem dX2_reads_21 : decode cX2_reads 21 = .ok (.aload_n 0, 1) := o_42 (by decide +kernel)
theorem dX2_reads_22 : decode cX2_reads 22 = .ok (.iconst 0, 1) := o_3 (by decide +kernel)
theorem dX2_reads_23 : decode cX2_reads 23 = .ok (.putfield 37, 3) := o_181 (by decide +kernel)
theorem dX2_reads_26 : decode cX2_reads 26 = .ok (.aload_n 0, 1) := o_42 (by decide +kernel)
theorem dX2_reads_27 : decode cX2_reads 27 = .ok (.aload_n 1, 1) := o_43 (by decide +kernel)
theorem dX2_reads_28 : decode cX2_reads 28 = .ok (.putfield 40, 3) := o_181 (by decide +kernel)
theorem dX2_reads_31 : decode cX2_reads 31 = .ok (.aload_n 0, 1) := o_42 (by decide +kernel)
theorem dX2_reads_32 : decode cX2_reads 32 = .ok (.iload_n 2, 1) := o_28 (by decide +kernel)
theorem dX2_reads_33 : decode cX2_reads 33 = .ok (.aload_n 1, 1) := o_43 (by decide +kernel)
theorem dX2_reads_34 : decode cX2_reads 34 = .ok (.arraylength, 1) := o_190 (by decide +kernel)
theorem dX2_reads_35 : decode cX2_reads 35 = .ok (.invokestatic 50, 3) := o_184 (by decide +kernel)
theorem dX2_reads_38 : decode cX2_reads 38 = .ok (.putfield 44, 3) := o_181 (by decide +kernel)
theorem dX2_reads_41 : decode cX2_reads 41 = .ok (.aload_n 0, 1) := o_42 (by decide +kernel)
theorem dX2_reads_42 : decode cX2_reads 42 = .ok (.iconst 0, 1) := o_3 (by decide +kernel)
theorem dX2_reads_43 : decode cX2_reads 43 = .ok (.putfield 47, 3) := o_181 (by decide +kernel)
theorem dX2_reads_46 : decode cX2_reads 46 = .ok (.iconst 1, 1) := o_4 (by decide +kernel)
theorem dX2_reads_47 : decode cX2_reads 47 = .ok (.istore_n 3, 1) := o_62 (by decide +kernel)
theorem dX2_reads_48 : decode cX2_reads 48 = .ok (.iload_n 3, 1) := o_29 (by decide +kernel)
theorem dX2_reads_49 : decode cX2_reads 49 = .ok (.bipush 10, 2) := o_16 (by decide +kernel)
theorem dX2_reads_51 : decode cX2_reads 51 = .ok (.if_icmp .ge 44, 3) := o_162 (by decide +kernel)
theorem dX2_reads_54 : decode cX2_reads 54 = .ok (.aload_n 0, 1) := o_42 (by decide +kernel)
theorem dX2_reads_55 : decode cX2_reads 55 = .ok (.invokevirtual 56, 3) := o_182 (by decide +kernel)
theorem dX2_reads_58 : decode cX2_reads 58 = .ok (.ifCond .ne 5, 3) := o_154 (by decide +kernel)
theorem dX2_reads_61 : decode cX2_reads 61 = .ok (.iconst 0, 1) := o_3 (by decide +kernel)
theorem dX2_reads_62 : decode cX2_reads 62 = .ok (.ireturn, 1) := o_172 (by decide +kernel)
theorem dX2_reads_63 : decode cX2_reads 63 = .ok (.aload_n 0, 1) := o_42 (by decide +kernel)
theorem dX2_reads_64 : decode cX2_reads 64 = .ok (.bipush 59, 2) := o_16 (by decide +kernel)
theorem dX2_reads_66 : decode cX2_reads 66 = .ok (.invokevirtual 60, 3) := o_182 (by decide +kernel)
theorem dX2_reads_69 : decode cX2_reads 69 = .ok (.ifCond .ne 20, 3) := o_154 (by decide +kernel)
theorem dX2_reads_72 : decode cX2_reads 72 = .ok (.aload_n 0, 1) := o_42 (by decide +kernel)
theorem dX2_reads_73 : decode cX2_reads 73 = .ok (.getfield 47, 3) := o_180 (by decide +kernel)
theorem dX2_reads_76 : decode cX2_reads 76 = .ok (.aload_n 0, 1) := o_42 (by decide +kernel)
theorem dX2_reads_77 : decode cX2_reads 77 = .ok (.getfield 44, 3) := o_180 (by decide +kernel)
theorem dX2_reads_80 : decode cX2_reads 80 = .ok (.if_icmp .ne 7, 3) := o_160 (by decide +kernel)
theorem dX2_reads_83 : decode cX2_reads 83 = .ok (.iconst 1, 1) := o_4 (by decide +kernel)
theorem dX2_reads_84 : decode cX2_reads 84 = .ok (.goto 4, 3) := o_167 (by decide +kernel)
theorem dX2_reads_87 : decode cX2_reads 87 = .ok (.iconst 0, 1) := o_3 (by decide +kernel)
theorem dX2_reads_88 : decode cX2_reads 88 = .ok (.ireturn, 1) := o_172 (by decide +kernel)
theorem dX2_reads_89 : decode cX2_reads 89 = .ok (.iinc 3 1, 3) := o_132 (by decide +kernel)
theorem dX2_reads_92 : decode cX2_reads 92 = .ok (.goto (-44), 3) := o_167 (by decide +kernel)
theorem dX2_reads_95 : decode cX2_reads 95 = .ok (.aload_n 0, 1) := o_42 (by decide +kernel)
theorem dX2_reads_96 : decode cX2_reads 96 = .ok (.invokevirtual 56, 3) := o_182 (by decide +kernel)
theorem dX2_reads_99 : decode cX2_reads 99 = .ok (.ifCond .eq 18, 3) := o_153 (by decide +kernel)
theorem dX2_reads_102 : decode cX2_reads 102 = .ok (.aload_n 0, 1) := o_42 (by decide +kernel)
theorem dX2_reads_103 : decode cX2_reads 103 = .ok (.getfield 47, 3) := o_180 (by decide +kernel)
theorem dX2_reads_106 : decode cX2_reads 106 = .ok (.aload_n 0, 1) := o_42 (by decide +kernel)
theorem dX2_reads_107 : decode cX2_reads 107 = .ok (.getfield 44, 3) := o_180 (by decide +kernel)
theorem dX2_reads_110 : decode cX2_reads 110 = .ok (.if_icmp .ne 7, 3) := o_160 (by decide +kernel)
theorem dX2_reads_113 : decode cX2_reads 113 = .ok (.iconst 1, 1) := o_4 (by decide +kernel)
theorem dX2_reads_114 : decode cX2_reads 114 = .ok (.goto 4, 3) := o_167 (by decide +kernel)
theorem dX2_reads_117 : decode cX2_reads 117 = .ok (.iconst 0, 1) := o_3 (by decide +kernel)
theorem dX2_reads_118 : decode cX2_reads 118 = .ok (.ireturn, 1) := o_172 (by decide +kernel)
theorem dX2_fault_0 : decode cX2_fault 0 = .ok (.aload_n 0, 1) := o_42 (by decide +kernel)
theorem dX2_fault_1 : decode cX2_fault 1 = .ok (.getfield 47, 3) := o_180 (by decide +kernel)
theorem dX2_fault_4 : decode cX2_fault 4 = .ok (.ireturn, 1) := o_172 (by decide +kernel)
theorem gt_wsX2_readsClause_wsX20 : GoodIn wsX2_readsClause wsX20 := fun w h => ⟨List.mem_cons_of_mem _ (List.mem_append_right _ h), good_of_word (gq_wsX20 w h)⟩
set_option maxRecDepth 20000 in
theorem ggX2_readsClause_X2_signAmong : GoodIn wsX2_readsClause wsX2_signAmong := goodIn_ca (goodIn_s _ [(5, 4), (4, 1), (9, 93)] rfl (by decide +kernel)) gt_wsX2_readsClause_wsX20
set_option maxRecDepth 20000 in
theorem gX2_readsClause_X2_signAmong : GoodIn wsX2_readsClause (wsV RX2 66 RX2 yX2_signAmong wsX2_signAmong) := goodIn_app (goodIn_of _ (by decide +kernel)) ggX2_readsClause_X2_signAmong
set_option maxRecDepth 20000 in
theorem ggX2_readsClause_X2_readsWord : GoodIn wsX2_readsClause wsX2_readsWord := goodIn_ca (goodIn_s _ [(105, 3), (4, 1), (108, 2), (30, 2), (16, 1), (32, 1), (22, 1), (33, 4), (27, 2), (110, 4), (23, 4), (114, 2), (39, 1), (116, 4), (73, 1), (120, 2), (76, 1), (122, 3), (56, 1), (125, 4), (67, 3), (129, 1), (81, 6), (130, 4), (11, 1), (6, 5), (12, 1)] rfl (by decide +kernel)) gt_wsX2_readsClause_wsX20
set_option maxRecDepth 20000 in
theorem gX2_readsClause_X2_readsWord : GoodIn wsX2_readsClause (wsV RX2 70 RX2 yX2_readsWord wsX2_readsWord) := goodIn_app (goodIn_of _ (by decide +kernel)) ggX2_readsClause_X2_readsWord
set_option maxRecDepth 20000 in
theorem ggX2_readsClause_X2_readsNumber : GoodIn wsX2_readsClause wsX2_readsNumber := goodIn_ca (goodIn_s _ [(137, 1), (11, 1), (138, 3), (4, 1), (141, 1), (6, 5), (12, 1)] rfl (by decide +kernel)) gt_wsX2_readsClause_wsX20
set_option maxRecDepth 20000 in
theorem gX2_readsClause_X2_readsNumber : GoodIn wsX2_readsClause (wsV RX2 74 RX2 yX2_readsNumber wsX2_readsNumber) := goodIn_app (goodIn_of _ (by decide +kernel)) ggX2_readsClause_X2_readsNumber
set_option maxRecDepth 20000 in
theorem ggX2_readsClause_X2_takes : GoodIn wsX2_readsClause wsX2_takes := goodIn_ca (goodIn_s _ [(133, 1), (11, 1), (6, 3), (4, 1), (9, 2), (12, 1)] rfl (by decide +kernel)) gt_wsX2_readsClause_wsX20
set_option maxRecDepth 20000 in
theorem gX2_readsClause_X2_takes : GoodIn wsX2_readsClause (wsV RX2 60 RX2 yX2_takes wsX2_takes) := goodIn_app (goodIn_of _ (by decide +kernel)) ggX2_readsClause_X2_takes
set_option maxRecDepth 20000 in
theorem ggX2_readsClause_X2_readsEither : GoodIn wsX2_readsClause wsX2_readsEither := goodIn_ca (goodIn_s _ [(145, 4), (4, 1), (130, 4), (11, 1), (6, 5), (12, 1), (149, 11), (142, 3), (160, 4), (1, 3), (5, 1), (13, 89), (134, 8)] rfl (by decide +kernel)) gt_wsX2_readsClause_wsX20
set_option maxRecDepth 20000 in
theorem gX2_readsClause_X2_readsEither : GoodIn wsX2_readsClause (wsV RX2 78 RX2 yX2_readsEither wsX2_readsEither) := goodIn_app (goodIn_of _ (by decide +kernel)) ggX2_readsClause_X2_readsEither
set_option maxRecDepth 20000 in
theorem ggX2_readsClause_X2_keeps : GoodIn wsX2_readsClause wsX2_keeps := goodIn_ca (goodIn_s _ [(167, 4), (42, 3), (171, 5), (153, 1)] rfl (by decide +kernel)) gt_wsX2_readsClause_wsX20
set_option maxRecDepth 20000 in
theorem gX2_readsClause_X2_keeps : GoodIn wsX2_readsClause (wsV RX2 81 RX2 yX2_keeps wsX2_keeps) := goodIn_app (goodIn_of _ (by decide +kernel)) ggX2_readsClause_X2_keeps
theorem dX2_readsClause_0 : decode cX2_readsClause 0 = .ok (.aload_n 0, 1) := o_42 (by decide +kernel)
theorem dX2_readsClause_1 : decode cX2_readsClause 1 = .ok (.ldc 64, 2) := o_18 (by decide +kernel)
theorem dX2_readsClause_3 : decode cX2_readsClause 3 = .ok (.invokevirtual 66, 3) := o_182 (by decide +kernel)
theorem dX2_readsClause_6 : decode cX2_readsClause 6 = .ok (.istore_n 1, 1) := o_60 (by decide +kernel)
theorem dX2_readsClause_7 : decode cX2_readsClause 7 = .ok (.iload_n 1, 1) := o_27 (by decide +kernel)
theorem dX2_readsClause_8 : decode cX2_readsClause 8 = .ok (.ifCond .lt 11, 3) := o_155 (by decide +kernel)
theorem dX2_readsClause_11 : decode cX2_readsClause 11 = .ok (.aload_n 0, 1) := o_42 (by decide +kernel)
theorem dX2_readsClause_12 : decode cX2_readsClause 12 = .ok (.iload_n 1, 1) := o_27 (by decide +kernel)
theorem dX2_readsClause_13 : decode cX2_readsClause 13 = .ok (.invokevirtual 70, 3) := o_182 (by decide +kernel)
theorem dX2_readsClause_16 : decode cX2_readsClause 16 = .ok (.ifCond .ne 5, 3) := o_154 (by decide +kernel)
theorem dX2_readsClause_19 : decode cX2_readsClause 19 = .ok (.iconst 0, 1) := o_3 (by decide +kernel)
theorem dX2_readsClause_20 : decode cX2_readsClause 20 = .ok (.ireturn, 1) := o_172 (by decide +kernel)
theorem dX2_readsClause_21 : decode cX2_readsClause 21 = .ok (.aload_n 0, 1) := o_42 (by decide +kernel)
theorem dX2_readsClause_22 : decode cX2_readsClause 22 = .ok (.invokevirtual 74, 3) := o_182 (by decide +kernel)
theorem dX2_readsClause_25 : decode cX2_readsClause 25 = .ok (.istore_n 2, 1) := o_61 (by decide +kernel)
theorem dX2_readsClause_26 : decode cX2_readsClause 26 = .ok (.iload_n 2, 1) := o_28 (by decide +kernel)
theorem dX2_readsClause_27 : decode cX2_readsClause 27 = .ok (.ifCond .ge 5, 3) := o_156 (by decide +kernel)
theorem dX2_readsClause_30 : decode cX2_readsClause 30 = .ok (.iconst 0, 1) := o_3 (by decide +kernel)
theorem dX2_readsClause_31 : decode cX2_readsClause 31 = .ok (.ireturn, 1) := o_172 (by decide +kernel)
theorem dX2_readsClause_32 : decode cX2_readsClause 32 = .ok (.iload_n 1, 1) := o_27 (by decide +kernel)
theorem dX2_readsClause_33 : decode cX2_readsClause 33 = .ok (.iconst 1, 1) := o_4 (by decide +kernel)
theorem dX2_readsClause_34 : decode cX2_readsClause 34 = .ok (.if_icmp .gt 22, 3) := o_163 (by decide +kernel)
theorem dX2_readsClause_37 : decode cX2_readsClause 37 = .ok (.aload_n 0, 1) := o_42 (by decide +kernel)
theorem dX2_readsClause_38 : decode cX2_readsClause 38 = .ok (.bipush 32, 2) := o_16 (by decide +kernel)
theorem dX2_readsClause_40 : decode cX2_readsClause 40 = .ok (.invokevirtual 60, 3) := o_182 (by decide +kernel)
theorem dX2_readsClause_43 : decode cX2_readsClause 43 = .ok (.ifCond .eq 11, 3) := o_153 (by decide +kernel)
theorem dX2_readsClause_46 : decode cX2_readsClause 46 = .ok (.aload_n 0, 1) := o_42 (by decide +kernel)
theorem dX2_readsClause_47 : decode cX2_readsClause 47 = .ok (.iconst 0, 1) := o_3 (by decide +kernel)
theorem dX2_readsClause_48 : decode cX2_readsClause 48 = .ok (.invokevirtual 78, 3) := o_182 (by decide +kernel)
theorem dX2_readsClause_51 : decode cX2_readsClause 51 = .ok (.ifCond .ne 5, 3) := o_154 (by decide +kernel)
theorem dX2_readsClause_54 : decode cX2_readsClause 54 = .ok (.iconst 0, 1) := o_3 (by decide +kernel)
theorem dX2_readsClause_55 : decode cX2_readsClause 55 = .ok (.ireturn, 1) := o_172 (by decide +kernel)
theorem dX2_readsClause_56 : decode cX2_readsClause 56 = .ok (.aload_n 0, 1) := o_42 (by decide +kernel)
theorem dX2_readsClause_57 : decode cX2_readsClause 57 = .ok (.iload_n 1, 1) := o_27 (by decide +kernel)
theorem dX2_readsClause_58 : decode cX2_readsClause 58 = .ok (.iload_n 2, 1) := o_28 (by decide +kernel)
theorem dX2_readsClause_59 : decode cX2_readsClause 59 = .ok (.invokevirtual 81, 3) := o_182 (by decide +kernel)
theorem dX2_readsClause_62 : decode cX2_readsClause 62 = .ok (.iconst 1, 1) := o_4 (by decide +kernel)
theorem dX2_readsClause_63 : decode cX2_readsClause 63 = .ok (.ireturn, 1) := o_172 (by decide +kernel)
set_option maxRecDepth 20000 in
theorem ggX2_readsWord_X2_wordOf : GoodIn wsX2_readsWord wsX2_wordOf := goodIn_s _ [(4, 1)] rfl (by decide +kernel)
set_option maxRecDepth 20000 in
theorem gX2_readsWord_X2_wordOf : GoodIn wsX2_readsWord (va_wsS RX2 85 yX2_wordOf wsX2_wordOf) := goodIn_app (goodIn_of _ (by decide +kernel)) ggX2_readsWord_X2_wordOf
set_option maxRecDepth 20000 in
theorem ggX2_readsWord_J0_length_8abf5 : GoodIn wsX2_readsWord wsJ0_length_8abf5 := goodIn_s _ [(9, 5), (8, 1), (14, 3)] rfl (by decide +kernel)
set_option maxRecDepth 20000 in
theorem gX2_readsWord_J0_length_8abf5 : GoodIn wsX2_readsWord (wsV RX2 89 RJ0 yJ0_length_8abf5 wsJ0_length_8abf5) := goodIn_app (goodIn_of _ (by decide +kernel)) ggX2_readsWord_J0_length_8abf5
set_option maxRecDepth 20000 in
theorem ggX2_readsWord_J0_charAt_5068e : GoodIn wsX2_readsWord wsJ0_charAt_5068e := goodIn_s _ [(20, 1), (10, 1), (21, 3), (8, 1), (24, 1), (15, 2), (25, 29)] rfl (by decide +kernel)
set_option maxRecDepth 20000 in
theorem gX2_readsWord_J0_charAt_5068e : GoodIn wsX2_readsWord (wsV RX2 93 RJ0 yJ0_charAt_5068e wsJ0_charAt_5068e) := goodIn_app (goodIn_of _ (by decide +kernel)) ggX2_readsWord_J0_charAt_5068e
theorem gt_wsX2_readsWord_wsX20 : GoodIn wsX2_readsWord wsX20 := fun w h => ⟨List.mem_cons_of_mem _ (List.mem_append_right _ h), good_of_word (gq_wsX20 w h)⟩
set_option maxRecDepth 20000 in
theorem ggX2_readsWord_X2_takes : GoodIn wsX2_readsWord wsX2_takes := goodIn_ca (goodIn_s _ [(57, 5), (3, 1), (62, 3)] rfl (by decide +kernel)) gt_wsX2_readsWord_wsX20
set_option maxRecDepth 20000 in
theorem gX2_readsWord_X2_takes : GoodIn wsX2_readsWord (wsV RX2 60 RX2 yX2_takes wsX2_takes) := goodIn_app (goodIn_of _ (by decide +kernel)) ggX2_readsWord_X2_takes
theorem dX2_readsWord_0 : decode cX2_readsWord 0 = .ok (.iload_n 1, 1) := o_27 (by decide +kernel)
theorem dX2_readsWord_1 : decode cX2_readsWord 1 = .ok (.invokestatic 85, 3) := o_184 (by decide +kernel)
theorem dX2_readsWord_4 : decode cX2_readsWord 4 = .ok (.astore_n 2, 1) := o_77 (by decide +kernel)
theorem dX2_readsWord_5 : decode cX2_readsWord 5 = .ok (.iconst 0, 1) := o_3 (by decide +kernel)
theorem dX2_readsWord_6 : decode cX2_readsWord 6 = .ok (.istore_n 3, 1) := o_62 (by decide +kernel)
theorem dX2_readsWord_7 : decode cX2_readsWord 7 = .ok (.iload_n 3, 1) := o_29 (by decide +kernel)
theorem dX2_readsWord_8 : decode cX2_readsWord 8 = .ok (.aload_n 2, 1) := o_44 (by decide +kernel)
theorem dX2_readsWord_9 : decode cX2_readsWord 9 = .ok (.invokevirtual 89, 3) := o_182 (by decide +kernel)
theorem dX2_readsWord_12 : decode cX2_readsWord 12 = .ok (.if_icmp .ge 23, 3) := o_162 (by decide +kernel)
theorem dX2_readsWord_15 : decode cX2_readsWord 15 = .ok (.aload_n 0, 1) := o_42 (by decide +kernel)
theorem dX2_readsWord_16 : decode cX2_readsWord 16 = .ok (.aload_n 2, 1) := o_44 (by decide +kernel)
theorem dX2_readsWord_17 : decode cX2_readsWord 17 = .ok (.iload_n 3, 1) := o_29 (by decide +kernel)
theorem dX2_readsWord_18 : decode cX2_readsWord 18 = .ok (.invokevirtual 93, 3) := o_182 (by decide +kernel)
theorem dX2_readsWord_21 : decode cX2_readsWord 21 = .ok (.invokevirtual 60, 3) := o_182 (by decide +kernel)
theorem dX2_readsWord_24 : decode cX2_readsWord 24 = .ok (.ifCond .ne 5, 3) := o_154 (by decide +kernel)
theorem dX2_readsWord_27 : decode cX2_readsWord 27 = .ok (.iconst 0, 1) := o_3 (by decide +kernel)
theorem dX2_readsWord_28 : decode cX2_readsWord 28 = .ok (.ireturn, 1) := o_172 (by decide +kernel)
theorem dX2_readsWord_29 : decode cX2_readsWord 29 = .ok (.iinc 3 1, 3) := o_132 (by decide +kernel)
theorem dX2_readsWord_32 : decode cX2_readsWord 32 = .ok (.goto (-25), 3) := o_167 (by decide +kernel)
theorem dX2_readsWord_35 : decode cX2_readsWord 35 = .ok (.iconst 1, 1) := o_4 (by decide +kernel)
theorem dX2_readsWord_36 : decode cX2_readsWord 36 = .ok (.ireturn, 1) := o_172 (by decide +kernel)
theorem dX2_wordOf_0 : decode cX2_wordOf 0 = .ok (.iload_n 0, 1) := o_26 (by decide +kernel)
theorem dX2_wordOf_1 : decode cX2_wordOf 1 = .ok (.tableswitch 43 0 3 #[31, 34, 37, 40], 31) := by decide +kernel
theorem dX2_wordOf_32 : decode cX2_wordOf 32 = .ok (.ldc 97, 2) := o_18 (by decide +kernel)
theorem dX2_wordOf_34 : decode cX2_wordOf 34 = .ok (.areturn, 1) := o_176 (by decide +kernel)
theorem dX2_wordOf_35 : decode cX2_wordOf 35 = .ok (.ldc 99, 2) := o_18 (by decide +kernel)
theorem dX2_wordOf_37 : decode cX2_wordOf 37 = .ok (.areturn, 1) := o_176 (by decide +kernel)
theorem dX2_wordOf_38 : decode cX2_wordOf 38 = .ok (.ldc 101, 2) := o_18 (by decide +kernel)
theorem dX2_wordOf_40 : decode cX2_wordOf 40 = .ok (.areturn, 1) := o_176 (by decide +kernel)
theorem dX2_wordOf_41 : decode cX2_wordOf 41 = .ok (.ldc 103, 2) := o_18 (by decide +kernel)
theorem dX2_wordOf_43 : decode cX2_wordOf 43 = .ok (.areturn, 1) := o_176 (by decide +kernel)
theorem dX2_wordOf_44 : decode cX2_wordOf 44 = .ok (.ldc 105, 2) := o_18 (by decide +kernel)
theorem dX2_wordOf_46 : decode cX2_wordOf 46 = .ok (.areturn, 1) := o_176 (by decide +kernel)
theorem dX2_keeps_0 : decode cX2_keeps 0 = .ok (.iload_n 1, 1) := o_27 (by decide +kernel)
theorem dX2_keeps_1 : decode cX2_keeps 1 = .ok (.iconst 2, 1) := o_5 (by decide +kernel)
theorem dX2_keeps_2 : decode cX2_keeps 2 = .ok (.if_icmp .ne 11, 3) := o_160 (by decide +kernel)
theorem dX2_keeps_5 : decode cX2_keeps 5 = .ok (.aload_n 0, 1) := o_42 (by decide +kernel)
theorem dX2_keeps_6 : decode cX2_keeps 6 = .ok (.iload_n 2, 1) := o_28 (by decide +kernel)
theorem dX2_keeps_7 : decode cX2_keeps 7 = .ok (.putfield 9, 3) := o_181 (by decide +kernel)
theorem dX2_keeps_10 : decode cX2_keeps 10 = .ok (.goto 30, 3) := o_167 (by decide +kernel)
theorem dX2_keeps_13 : decode cX2_keeps 13 = .ok (.iload_n 1, 1) := o_27 (by decide +kernel)
theorem dX2_keeps_14 : decode cX2_keeps 14 = .ok (.iconst 3, 1) := o_6 (by decide +kernel)
theorem dX2_keeps_15 : decode cX2_keeps 15 = .ok (.if_icmp .ne 11, 3) := o_160 (by decide +kernel)
theorem dX2_keeps_18 : decode cX2_keeps 18 = .ok (.aload_n 0, 1) := o_42 (by decide +kernel)
theorem dX2_keeps_19 : decode cX2_keeps 19 = .ok (.iload_n 2, 1) := o_28 (by decide +kernel)
theorem dX2_keeps_20 : decode cX2_keeps 20 = .ok (.putfield 15, 3) := o_181 (by decide +kernel)
theorem dX2_keeps_23 : decode cX2_keeps 23 = .ok (.goto 17, 3) := o_167 (by decide +kernel)
theorem dX2_keeps_26 : decode cX2_keeps 26 = .ok (.iload_n 1, 1) := o_27 (by decide +kernel)
theorem dX2_keeps_27 : decode cX2_keeps 27 = .ok (.iconst 3, 1) := o_6 (by decide +kernel)
theorem dX2_keeps_28 : decode cX2_keeps 28 = .ok (.if_icmp .le 12, 3) := o_164 (by decide +kernel)
theorem dX2_keeps_31 : decode cX2_keeps 31 = .ok (.aload_n 0, 1) := o_42 (by decide +kernel)
theorem dX2_keeps_32 : decode cX2_keeps 32 = .ok (.iconst 1, 1) := o_4 (by decide +kernel)
theorem dX2_keeps_33 : decode cX2_keeps 33 = .ok (.iload_n 2, 1) := o_28 (by decide +kernel)
theorem dX2_keeps_34 : decode cX2_keeps 34 = .ok (.invokestatic 107, 3) := o_184 (by decide +kernel)
theorem dX2_keeps_37 : decode cX2_keeps 37 = .ok (.putfield 18, 3) := o_181 (by decide +kernel)
theorem dX2_keeps_40 : decode cX2_keeps 40 = .ok (.aload_n 0, 1) := o_42 (by decide +kernel)
theorem dX2_keeps_41 : decode cX2_keeps 41 = .ok (.getfield 37, 3) := o_180 (by decide +kernel)
theorem dX2_keeps_44 : decode cX2_keeps 44 = .ok (.bipush 10, 2) := o_16 (by decide +kernel)
theorem dX2_keeps_46 : decode cX2_keeps 46 = .ok (.if_icmp .ge 46, 3) := o_162 (by decide +kernel)
theorem dX2_keeps_49 : decode cX2_keeps 49 = .ok (.aload_n 0, 1) := o_42 (by decide +kernel)
theorem dX2_keeps_50 : decode cX2_keeps 50 = .ok (.getfield 28, 3) := o_180 (by decide +kernel)
theorem dX2_keeps_53 : decode cX2_keeps 53 = .ok (.aload_n 0, 1) := o_42 (by decide +kernel)
theorem dX2_keeps_54 : decode cX2_keeps 54 = .ok (.getfield 37, 3) := o_180 (by decide +kernel)
theorem dX2_keeps_57 : decode cX2_keeps 57 = .ok (.iload_n 1, 1) := o_27 (by decide +kernel)
theorem dX2_keeps_58 : decode cX2_keeps 58 = .ok (.iastore, 1) := o_79 (by decide +kernel)
theorem dX2_keeps_59 : decode cX2_keeps 59 = .ok (.aload_n 0, 1) := o_42 (by decide +kernel)
theorem dX2_keeps_60 : decode cX2_keeps 60 = .ok (.getfield 31, 3) := o_180 (by decide +kernel)
theorem dX2_keeps_63 : decode cX2_keeps 63 = .ok (.aload_n 0, 1) := o_42 (by decide +kernel)
theorem dX2_keeps_64 : decode cX2_keeps 64 = .ok (.getfield 37, 3) := o_180 (by decide +kernel)
theorem dX2_keeps_67 : decode cX2_keeps 67 = .ok (.iload_n 2, 1) := o_28 (by decide +kernel)
theorem dX2_keeps_68 : decode cX2_keeps 68 = .ok (.iastore, 1) := o_79 (by decide +kernel)
theorem dX2_keeps_69 : decode cX2_keeps 69 = .ok (.aload_n 0, 1) := o_42 (by decide +kernel)
theorem dX2_keeps_70 : decode cX2_keeps 70 = .ok (.getfield 34, 3) := o_180 (by decide +kernel)
theorem dX2_keeps_73 : decode cX2_keeps 73 = .ok (.aload_n 0, 1) := o_42 (by decide +kernel)
theorem dX2_keeps_74 : decode cX2_keeps 74 = .ok (.getfield 37, 3) := o_180 (by decide +kernel)
theorem dX2_keeps_77 : decode cX2_keeps 77 = .ok (.aload_n 0, 1) := o_42 (by decide +kernel)
theorem dX2_keeps_78 : decode cX2_keeps 78 = .ok (.getfield 25, 3) := o_180 (by decide +kernel)
theorem dX2_keeps_81 : decode cX2_keeps 81 = .ok (.iastore, 1) := o_79 (by decide +kernel)
theorem dX2_keeps_82 : decode cX2_keeps 82 = .ok (.aload_n 0, 1) := o_42 (by decide +kernel)
theorem dX2_keeps_83 : decode cX2_keeps 83 = .ok (.dup, 1) := o_89 (by decide +kernel)
theorem dX2_keeps_84 : decode cX2_keeps 84 = .ok (.getfield 37, 3) := o_180 (by decide +kernel)
theorem dX2_keeps_87 : decode cX2_keeps 87 = .ok (.iconst 1, 1) := o_4 (by decide +kernel)
theorem dX2_keeps_88 : decode cX2_keeps 88 = .ok (.iadd, 1) := o_96 (by decide +kernel)
theorem dX2_keeps_89 : decode cX2_keeps 89 = .ok (.putfield 37, 3) := o_181 (by decide +kernel)
theorem dX2_keeps_92 : decode cX2_keeps 92 = .ok (.return_, 1) := o_177 (by decide +kernel)
theorem gt_wsX2_readsEither_wsX20 : GoodIn wsX2_readsEither wsX20 := fun w h => ⟨List.mem_cons_of_mem _ (List.mem_append_right _ h), good_of_word (gq_wsX20 w h)⟩
set_option maxRecDepth 20000 in
theorem ggX2_readsEither_X2_readsBoth : GoodIn wsX2_readsEither wsX2_readsBoth := goodIn_ca (goodIn_s _ [(22, 4), (4, 18), (0, 4), (26, 109)] rfl (by decide +kernel)) gt_wsX2_readsEither_wsX20
set_option maxRecDepth 20000 in
theorem gX2_readsEither_X2_readsBoth : GoodIn wsX2_readsEither (wsV RX2 110 RX2 yX2_readsBoth wsX2_readsBoth) := goodIn_app (goodIn_of _ (by decide +kernel)) ggX2_readsEither_X2_readsBoth
set_option maxRecDepth 20000 in
theorem ggX2_readsEither_X2_takes : GoodIn wsX2_readsEither wsX2_takes := goodIn_ca (goodIn_s _ [(8, 5), (4, 1), (13, 3)] rfl (by decide +kernel)) gt_wsX2_readsEither_wsX20
set_option maxRecDepth 20000 in
theorem gX2_readsEither_X2_takes : GoodIn wsX2_readsEither (wsV RX2 60 RX2 yX2_takes wsX2_takes) := goodIn_app (goodIn_of _ (by decide +kernel)) ggX2_readsEither_X2_takes
set_option maxRecDepth 20000 in
theorem ggX2_readsEither_X2_writes : GoodIn wsX2_readsEither wsX2_writes := goodIn_ca (goodIn_s _ [(19, 3)] rfl (by decide +kernel)) gt_wsX2_readsEither_wsX20
set_option maxRecDepth 20000 in
theorem gX2_readsEither_X2_writes : GoodIn wsX2_readsEither (wsV RX2 113 RX2 yX2_writes wsX2_writes) := goodIn_app (goodIn_of _ (by decide +kernel)) ggX2_readsEither_X2_writes
theorem dX2_readsEither_0 : decode cX2_readsEither 0 = .ok (.aload_n 0, 1) := o_42 (by decide +kernel)
theorem dX2_readsEither_1 : decode cX2_readsEither 1 = .ok (.iload_n 1, 1) := o_27 (by decide +kernel)
theorem dX2_readsEither_2 : decode cX2_readsEither 2 = .ok (.invokevirtual 110, 3) := o_182 (by decide +kernel)
theorem dX2_readsEither_5 : decode cX2_readsEither 5 = .ok (.ifCond .ne 5, 3) := o_154 (by decide +kernel)
theorem dX2_readsEither_8 : decode cX2_readsEither 8 = .ok (.iconst 0, 1) := o_3 (by decide +kernel)
theorem dX2_readsEither_9 : decode cX2_readsEither 9 = .ok (.ireturn, 1) := o_172 (by decide +kernel)
theorem dX2_readsEither_10 : decode cX2_readsEither 10 = .ok (.iconst 0, 1) := o_3 (by decide +kernel)
theorem dX2_readsEither_11 : decode cX2_readsEither 11 = .ok (.istore_n 2, 1) := o_61 (by decide +kernel)
theorem dX2_readsEither_12 : decode cX2_readsEither 12 = .ok (.iload_n 2, 1) := o_28 (by decide +kernel)
theorem dX2_readsEither_13 : decode cX2_readsEither 13 = .ok (.bipush 100, 2) := o_16 (by decide +kernel)
theorem dX2_readsEither_15 : decode cX2_readsEither 15 = .ok (.if_icmp .ge 34, 3) := o_162 (by decide +kernel)
theorem dX2_readsEither_18 : decode cX2_readsEither 18 = .ok (.aload_n 0, 1) := o_42 (by decide +kernel)
theorem dX2_readsEither_19 : decode cX2_readsEither 19 = .ok (.bipush 124, 2) := o_16 (by decide +kernel)
theorem dX2_readsEither_21 : decode cX2_readsEither 21 = .ok (.invokevirtual 60, 3) := o_182 (by decide +kernel)
theorem dX2_readsEither_24 : decode cX2_readsEither 24 = .ok (.ifCond .eq 25, 3) := o_153 (by decide +kernel)
theorem dX2_readsEither_27 : decode cX2_readsEither 27 = .ok (.aload_n 0, 1) := o_42 (by decide +kernel)
theorem dX2_readsEither_28 : decode cX2_readsEither 28 = .ok (.iload_n 1, 1) := o_27 (by decide +kernel)
theorem dX2_readsEither_29 : decode cX2_readsEither 29 = .ok (.invokevirtual 110, 3) := o_182 (by decide +kernel)
theorem dX2_readsEither_32 : decode cX2_readsEither 32 = .ok (.ifCond .ne 5, 3) := o_154 (by decide +kernel)
theorem dX2_readsEither_35 : decode cX2_readsEither 35 = .ok (.iconst 0, 1) := o_3 (by decide +kernel)
theorem dX2_readsEither_36 : decode cX2_readsEither 36 = .ok (.ireturn, 1) := o_172 (by decide +kernel)
theorem dX2_readsEither_37 : decode cX2_readsEither 37 = .ok (.aload_n 0, 1) := o_42 (by decide +kernel)
theorem dX2_readsEither_38 : decode cX2_readsEither 38 = .ok (.bipush (-3), 2) := o_16 (by decide +kernel)
theorem dX2_readsEither_40 : decode cX2_readsEither 40 = .ok (.invokevirtual 113, 3) := o_182 (by decide +kernel)
theorem dX2_readsEither_43 : decode cX2_readsEither 43 = .ok (.iinc 2 1, 3) := o_132 (by decide +kernel)
theorem dX2_readsEither_46 : decode cX2_readsEither 46 = .ok (.goto (-34), 3) := o_167 (by decide +kernel)
theorem dX2_readsEither_49 : decode cX2_readsEither 49 = .ok (.iconst 1, 1) := o_4 (by decide +kernel)
theorem dX2_readsEither_50 : decode cX2_readsEither 50 = .ok (.ireturn, 1) := o_172 (by decide +kernel)
theorem gt_wsX2_readsBoth_wsX20 : GoodIn wsX2_readsBoth wsX20 := fun w h => ⟨List.mem_cons_of_mem _ (List.mem_append_right _ h), good_of_word (gq_wsX20 w h)⟩
set_option maxRecDepth 20000 in
theorem ggX2_readsBoth_X2_readsPart : GoodIn wsX2_readsBoth wsX2_readsPart := goodIn_ca (goodIn_s _ [(26, 1), (5, 3), (4, 1), (8, 8), (1, 3), (16, 6), (27, 108), (0, 1), (22, 4)] rfl (by decide +kernel)) gt_wsX2_readsBoth_wsX20
set_option maxRecDepth 20000 in
theorem gX2_readsBoth_X2_readsPart : GoodIn wsX2_readsBoth (wsV RX2 117 RX2 yX2_readsPart wsX2_readsPart) := goodIn_app (goodIn_of _ (by decide +kernel)) ggX2_readsBoth_X2_readsPart
set_option maxRecDepth 20000 in
theorem ggX2_readsBoth_X2_takes : GoodIn wsX2_readsBoth wsX2_takes := goodIn_ca (goodIn_s _ [(8, 5), (4, 1), (13, 3)] rfl (by decide +kernel)) gt_wsX2_readsBoth_wsX20
set_option maxRecDepth 20000 in
theorem gX2_readsBoth_X2_takes : GoodIn wsX2_readsBoth (wsV RX2 60 RX2 yX2_takes wsX2_takes) := goodIn_app (goodIn_of _ (by decide +kernel)) ggX2_readsBoth_X2_takes
set_option maxRecDepth 20000 in
theorem ggX2_readsBoth_X2_writes : GoodIn wsX2_readsBoth wsX2_writes := goodIn_ca (goodIn_s _ [(19, 3)] rfl (by decide +kernel)) gt_wsX2_readsBoth_wsX20
set_option maxRecDepth 20000 in
theorem gX2_readsBoth_X2_writes : GoodIn wsX2_readsBoth (wsV RX2 113 RX2 yX2_writes wsX2_writes) := goodIn_app (goodIn_of _ (by decide +kernel)) ggX2_readsBoth_X2_writes
theorem dX2_readsBoth_0 : decode cX2_readsBoth 0 = .ok (.aload_n 0, 1) := o_42 (by decide +kernel)
theorem dX2_readsBoth_1 : decode cX2_readsBoth 1 = .ok (.iload_n 1, 1) := o_27 (by decide +kernel)
theorem dX2_readsBoth_2 : decode cX2_readsBoth 2 = .ok (.invokevirtual 117, 3) := o_182 (by decide +kernel)
theorem dX2_readsBoth_5 : decode cX2_readsBoth 5 = .ok (.ifCond .ne 5, 3) := o_154 (by decide +kernel)
theorem dX2_readsBoth_8 : decode cX2_readsBoth 8 = .ok (.iconst 0, 1) := o_3 (by decide +kernel)
theorem dX2_readsBoth_9 : decode cX2_readsBoth 9 = .ok (.ireturn, 1) := o_172 (by decide +kernel)
theorem dX2_readsBoth_10 : decode cX2_readsBoth 10 = .ok (.iconst 0, 1) := o_3 (by decide +kernel)
theorem dX2_readsBoth_11 : decode cX2_readsBoth 11 = .ok (.istore_n 2, 1) := o_61 (by decide +kernel)
theorem dX2_readsBoth_12 : decode cX2_readsBoth 12 = .ok (.iload_n 2, 1) := o_28 (by decide +kernel)
theorem dX2_readsBoth_13 : decode cX2_readsBoth 13 = .ok (.bipush 100, 2) := o_16 (by decide +kernel)
theorem dX2_readsBoth_15 : decode cX2_readsBoth 15 = .ok (.if_icmp .ge 34, 3) := o_162 (by decide +kernel)
theorem dX2_readsBoth_18 : decode cX2_readsBoth 18 = .ok (.aload_n 0, 1) := o_42 (by decide +kernel)
theorem dX2_readsBoth_19 : decode cX2_readsBoth 19 = .ok (.bipush 38, 2) := o_16 (by decide +kernel)
theorem dX2_readsBoth_21 : decode cX2_readsBoth 21 = .ok (.invokevirtual 60, 3) := o_182 (by decide +kernel)
theorem dX2_readsBoth_24 : decode cX2_readsBoth 24 = .ok (.ifCond .eq 25, 3) := o_153 (by decide +kernel)
theorem dX2_readsBoth_27 : decode cX2_readsBoth 27 = .ok (.aload_n 0, 1) := o_42 (by decide +kernel)
theorem dX2_readsBoth_28 : decode cX2_readsBoth 28 = .ok (.iload_n 1, 1) := o_27 (by decide +kernel)
theorem dX2_readsBoth_29 : decode cX2_readsBoth 29 = .ok (.invokevirtual 117, 3) := o_182 (by decide +kernel)
theorem dX2_readsBoth_32 : decode cX2_readsBoth 32 = .ok (.ifCond .ne 5, 3) := o_154 (by decide +kernel)
theorem dX2_readsBoth_35 : decode cX2_readsBoth 35 = .ok (.iconst 0, 1) := o_3 (by decide +kernel)
theorem dX2_readsBoth_36 : decode cX2_readsBoth 36 = .ok (.ireturn, 1) := o_172 (by decide +kernel)
theorem dX2_readsBoth_37 : decode cX2_readsBoth 37 = .ok (.aload_n 0, 1) := o_42 (by decide +kernel)
theorem dX2_readsBoth_38 : decode cX2_readsBoth 38 = .ok (.bipush (-2), 2) := o_16 (by decide +kernel)
theorem dX2_readsBoth_40 : decode cX2_readsBoth 40 = .ok (.invokevirtual 113, 3) := o_182 (by decide +kernel)
theorem dX2_readsBoth_43 : decode cX2_readsBoth 43 = .ok (.iinc 2 1, 3) := o_132 (by decide +kernel)
theorem dX2_readsBoth_46 : decode cX2_readsBoth 46 = .ok (.goto (-34), 3) := o_167 (by decide +kernel)
theorem dX2_readsBoth_49 : decode cX2_readsBoth 49 = .ok (.iconst 1, 1) := o_4 (by decide +kernel)
theorem dX2_readsBoth_50 : decode cX2_readsBoth 50 = .ok (.ireturn, 1) := o_172 (by decide +kernel)
theorem gt_wsX2_readsPart_wsX20 : GoodIn wsX2_readsPart wsX20 := fun w h => ⟨List.mem_cons_of_mem _ (List.mem_append_right _ h), good_of_word (gq_wsX20 w h)⟩
set_option maxRecDepth 20000 in
theorem ggX2_readsPart_X2_takes : GoodIn wsX2_readsPart wsX2_takes := goodIn_ca (goodIn_s _ [(5, 5), (4, 1), (10, 3)] rfl (by decide +kernel)) gt_wsX2_readsPart_wsX20
set_option maxRecDepth 20000 in
theorem gX2_readsPart_X2_takes : GoodIn wsX2_readsPart (wsV RX2 60 RX2 yX2_takes wsX2_takes) := goodIn_app (goodIn_of _ (by decide +kernel)) ggX2_readsPart_X2_takes
set_option maxRecDepth 20000 in
theorem ggX2_readsPart_X2_readsPart : GoodIn wsX2_readsPart wsX2_readsPart := goodIn_ca (goodIn_s _ [(0, 135)] rfl (by decide +kernel)) gt_wsX2_readsPart_wsX20
set_option maxRecDepth 20000 in
theorem gX2_readsPart_X2_readsPart : GoodIn wsX2_readsPart (wsV RX2 117 RX2 yX2_readsPart wsX2_readsPart) := goodIn_app (goodIn_of _ (by decide +kernel)) ggX2_readsPart_X2_readsPart
set_option maxRecDepth 20000 in
theorem ggX2_readsPart_X2_writes : GoodIn wsX2_readsPart wsX2_writes := goodIn_ca (goodIn_s _ [(19, 3)] rfl (by decide +kernel)) gt_wsX2_readsPart_wsX20
set_option maxRecDepth 20000 in
theorem gX2_readsPart_X2_writes : GoodIn wsX2_readsPart (wsV RX2 113 RX2 yX2_writes wsX2_writes) := goodIn_app (goodIn_of _ (by decide +kernel)) ggX2_readsPart_X2_writes
set_option maxRecDepth 20000 in
theorem ggX2_readsPart_X2_readsEither : GoodIn wsX2_readsPart wsX2_readsEither := goodIn_ca (goodIn_s _ [(131, 4), (4, 1), (1, 3), (5, 8), (16, 6), (130, 1), (13, 3), (0, 1), (22, 108)] rfl (by decide +kernel)) gt_wsX2_readsPart_wsX20
set_option maxRecDepth 20000 in
theorem gX2_readsPart_X2_readsEither : GoodIn wsX2_readsPart (wsV RX2 78 RX2 yX2_readsEither wsX2_readsEither) := goodIn_app (goodIn_of _ (by decide +kernel)) ggX2_readsPart_X2_readsEither
set_option maxRecDepth 20000 in
theorem ggX2_readsPart_X2_readsTest : GoodIn wsX2_readsPart wsX2_readsTest := goodIn_ca (goodIn_s _ [(28, 1), (6, 1), (29, 3), (4, 1), (32, 1), (7, 6), (33, 97), (16, 6)] rfl (by decide +kernel)) gt_wsX2_readsPart_wsX20
set_option maxRecDepth 20000 in
theorem gX2_readsPart_X2_readsTest : GoodIn wsX2_readsPart (wsV RX2 120 RX2 yX2_readsTest wsX2_readsTest) := goodIn_app (goodIn_of _ (by decide +kernel)) ggX2_readsPart_X2_readsTest
theorem dX2_readsPart_0 : decode cX2_readsPart 0 = .ok (.iload_n 1, 1) := o_27 (by decide +kernel)
theorem dX2_readsPart_1 : decode cX2_readsPart 1 = .ok (.iconst 4, 1) := o_7 (by decide +kernel)
theorem dX2_readsPart_2 : decode cX2_readsPart 2 = .ok (.if_icmp .ge 31, 3) := o_162 (by decide +kernel)
theorem dX2_readsPart_5 : decode cX2_readsPart 5 = .ok (.aload_n 0, 1) := o_42 (by decide +kernel)
theorem dX2_readsPart_6 : decode cX2_readsPart 6 = .ok (.bipush 33, 2) := o_16 (by decide +kernel)
theorem dX2_readsPart_8 : decode cX2_readsPart 8 = .ok (.invokevirtual 60, 3) := o_182 (by decide +kernel)
theorem dX2_readsPart_11 : decode cX2_readsPart 11 = .ok (.ifCond .eq 22, 3) := o_153 (by decide +kernel)
theorem dX2_readsPart_14 : decode cX2_readsPart 14 = .ok (.aload_n 0, 1) := o_42 (by decide +kernel)
theorem dX2_readsPart_15 : decode cX2_readsPart 15 = .ok (.iload_n 1, 1) := o_27 (by decide +kernel)
theorem dX2_readsPart_16 : decode cX2_readsPart 16 = .ok (.iconst 1, 1) := o_4 (by decide +kernel)
theorem dX2_readsPart_17 : decode cX2_readsPart 17 = .ok (.iadd, 1) := o_96 (by decide +kernel)
theorem dX2_readsPart_18 : decode cX2_readsPart 18 = .ok (.invokevirtual 117, 3) := o_182 (by decide +kernel)
theorem dX2_readsPart_21 : decode cX2_readsPart 21 = .ok (.ifCond .ne 5, 3) := o_154 (by decide +kernel)
theorem dX2_readsPart_24 : decode cX2_readsPart 24 = .ok (.iconst 0, 1) := o_3 (by decide +kernel)
theorem dX2_readsPart_25 : decode cX2_readsPart 25 = .ok (.ireturn, 1) := o_172 (by decide +kernel)
theorem dX2_readsPart_26 : decode cX2_readsPart 26 = .ok (.aload_n 0, 1) := o_42 (by decide +kernel)
theorem dX2_readsPart_27 : decode cX2_readsPart 27 = .ok (.iconst (-1), 1) := o_2 (by decide +kernel)
theorem dX2_readsPart_28 : decode cX2_readsPart 28 = .ok (.invokevirtual 113, 3) := o_182 (by decide +kernel)
theorem dX2_readsPart_31 : decode cX2_readsPart 31 = .ok (.iconst 1, 1) := o_4 (by decide +kernel)
theorem dX2_readsPart_32 : decode cX2_readsPart 32 = .ok (.ireturn, 1) := o_172 (by decide +kernel)
theorem dX2_readsPart_33 : decode cX2_readsPart 33 = .ok (.iload_n 1, 1) := o_27 (by decide +kernel)
theorem dX2_readsPart_34 : decode cX2_readsPart 34 = .ok (.iconst 4, 1) := o_7 (by decide +kernel)
theorem dX2_readsPart_35 : decode cX2_readsPart 35 = .ok (.if_icmp .ge 37, 3) := o_162 (by decide +kernel)
theorem dX2_readsPart_38 : decode cX2_readsPart 38 = .ok (.aload_n 0, 1) := o_42 (by decide +kernel)
theorem dX2_readsPart_39 : decode cX2_readsPart 39 = .ok (.bipush 40, 2) := o_16 (by decide +kernel)
theorem dX2_readsPart_41 : decode cX2_readsPart 41 = .ok (.invokevirtual 60, 3) := o_182 (by decide +kernel)
theorem dX2_readsPart_44 : decode cX2_readsPart 44 = .ok (.ifCond .eq 28, 3) := o_153 (by decide +kernel)
theorem dX2_readsPart_47 : decode cX2_readsPart 47 = .ok (.aload_n 0, 1) := o_42 (by decide +kernel)
theorem dX2_readsPart_48 : decode cX2_readsPart 48 = .ok (.iload_n 1, 1) := o_27 (by decide +kernel)
theorem dX2_readsPart_49 : decode cX2_readsPart 49 = .ok (.iconst 1, 1) := o_4 (by decide +kernel)
theorem dX2_readsPart_50 : decode cX2_readsPart 50 = .ok (.iadd, 1) := o_96 (by decide +kernel)
theorem dX2_readsPart_51 : decode cX2_readsPart 51 = .ok (.invokevirtual 78, 3) := o_182 (by decide +kernel)
theorem dX2_readsPart_54 : decode cX2_readsPart 54 = .ok (.ifCond .eq 16, 3) := o_153 (by decide +kernel)
theorem dX2_readsPart_57 : decode cX2_readsPart 57 = .ok (.aload_n 0, 1) := o_42 (by decide +kernel)
theorem dX2_readsPart_58 : decode cX2_readsPart 58 = .ok (.bipush 41, 2) := o_16 (by decide +kernel)
theorem dX2_readsPart_60 : decode cX2_readsPart 60 = .ok (.invokevirtual 60, 3) := o_182 (by decide +kernel)
theorem dX2_readsPart_63 : decode cX2_readsPart 63 = .ok (.ifCond .eq 7, 3) := o_153 (by decide +kernel)
theorem dX2_readsPart_66 : decode cX2_readsPart 66 = .ok (.iconst 1, 1) := o_4 (by decide +kernel)
theorem dX2_readsPart_67 : decode cX2_readsPart 67 = .ok (.goto 4, 3) := o_167 (by decide +kernel)
theorem dX2_readsPart_70 : decode cX2_readsPart 70 = .ok (.iconst 0, 1) := o_3 (by decide +kernel)
theorem dX2_readsPart_71 : decode cX2_readsPart 71 = .ok (.ireturn, 1) := o_172 (by decide +kernel)
theorem dX2_readsPart_72 : decode cX2_readsPart 72 = .ok (.aload_n 0, 1) := o_42 (by decide +kernel)
theorem dX2_readsPart_73 : decode cX2_readsPart 73 = .ok (.invokevirtual 120, 3) := o_182 (by decide +kernel)
theorem dX2_readsPart_76 : decode cX2_readsPart 76 = .ok (.ireturn, 1) := o_172 (by decide +kernel)
theorem gt_wsX2_readsTest_wsX20 : GoodIn wsX2_readsTest wsX20 := fun w h => ⟨List.mem_cons_of_mem _ (List.mem_append_right _ h), good_of_word (gq_wsX20 w h)⟩
set_option maxRecDepth 20000 in
theorem ggX2_readsTest_X2_signAmong : GoodIn wsX2_readsTest wsX2_signAmong := goodIn_ca (goodIn_s _ [(6, 4), (5, 1), (10, 2), (1, 1), (12, 90)] rfl (by decide +kernel)) gt_wsX2_readsTest_wsX20
set_option maxRecDepth 20000 in
theorem gX2_readsTest_X2_signAmong : GoodIn wsX2_readsTest (wsV RX2 66 RX2 yX2_signAmong wsX2_signAmong) := goodIn_app (goodIn_of _ (by decide +kernel)) ggX2_readsTest_X2_signAmong
set_option maxRecDepth 20000 in
theorem ggX2_readsTest_X2_readsNumber : GoodIn wsX2_readsTest wsX2_readsNumber := goodIn_ca (goodIn_s _ [(105, 1), (1, 1), (106, 3), (5, 1), (109, 1), (7, 6)] rfl (by decide +kernel)) gt_wsX2_readsTest_wsX20
set_option maxRecDepth 20000 in
theorem gX2_readsTest_X2_readsNumber : GoodIn wsX2_readsTest (wsV RX2 74 RX2 yX2_readsNumber wsX2_readsNumber) := goodIn_app (goodIn_of _ (by decide +kernel)) ggX2_readsTest_X2_readsNumber
set_option maxRecDepth 20000 in
theorem ggX2_readsTest_X2_writes : GoodIn wsX2_readsTest wsX2_writes := goodIn_ca (goodIn_s _ [(113, 3)] rfl (by decide +kernel)) gt_wsX2_readsTest_wsX20
set_option maxRecDepth 20000 in
theorem gX2_readsTest_X2_writes : GoodIn wsX2_readsTest (wsV RX2 113 RX2 yX2_writes wsX2_writes) := goodIn_app (goodIn_of _ (by decide +kernel)) ggX2_readsTest_X2_writes
theorem dX2_readsTest_0 : decode cX2_readsTest 0 = .ok (.aload_n 0, 1) := o_42 (by decide +kernel)
theorem dX2_readsTest_1 : decode cX2_readsTest 1 = .ok (.ldc 123, 2) := o_18 (by decide +kernel)
theorem dX2_readsTest_3 : decode cX2_readsTest 3 = .ok (.invokevirtual 66, 3) := o_182 (by decide +kernel)
theorem dX2_readsTest_6 : decode cX2_readsTest 6 = .ok (.istore_n 1, 1) := o_60 (by decide +kernel)
theorem dX2_readsTest_7 : decode cX2_readsTest 7 = .ok (.iload_n 1, 1) := o_27 (by decide +kernel)
theorem dX2_readsTest_8 : decode cX2_readsTest 8 = .ok (.ifCond .ge 5, 3) := o_156 (by decide +kernel)
theorem dX2_readsTest_11 : decode cX2_readsTest 11 = .ok (.iconst 0, 1) := o_3 (by decide +kernel)
theorem dX2_readsTest_12 : decode cX2_readsTest 12 = .ok (.ireturn, 1) := o_172 (by decide +kernel)
theorem dX2_readsTest_13 : decode cX2_readsTest 13 = .ok (.aload_n 0, 1) := o_42 (by decide +kernel)
theorem dX2_readsTest_14 : decode cX2_readsTest 14 = .ok (.dup, 1) := o_89 (by decide +kernel)
theorem dX2_readsTest_15 : decode cX2_readsTest 15 = .ok (.getfield 47, 3) := o_180 (by decide +kernel)
theorem dX2_readsTest_18 : decode cX2_readsTest 18 = .ok (.iconst 1, 1) := o_4 (by decide +kernel)
theorem dX2_readsTest_19 : decode cX2_readsTest 19 = .ok (.iadd, 1) := o_96 (by decide +kernel)
theorem dX2_readsTest_20 : decode cX2_readsTest 20 = .ok (.putfield 47, 3) := o_181 (by decide +kernel)
theorem dX2_readsTest_23 : decode cX2_readsTest 23 = .ok (.aload_n 0, 1) := o_42 (by decide +kernel)
theorem dX2_readsTest_24 : decode cX2_readsTest 24 = .ok (.ldc 125, 2) := o_18 (by decide +kernel)
theorem dX2_readsTest_26 : decode cX2_readsTest 26 = .ok (.invokevirtual 66, 3) := o_182 (by decide +kernel)
theorem dX2_readsTest_29 : decode cX2_readsTest 29 = .ok (.istore_n 2, 1) := o_61 (by decide +kernel)
theorem dX2_readsTest_30 : decode cX2_readsTest 30 = .ok (.iload_n 2, 1) := o_28 (by decide +kernel)
theorem dX2_readsTest_31 : decode cX2_readsTest 31 = .ok (.ifCond .ge 5, 3) := o_156 (by decide +kernel)
theorem dX2_readsTest_34 : decode cX2_readsTest 34 = .ok (.iconst 0, 1) := o_3 (by decide +kernel)
theorem dX2_readsTest_35 : decode cX2_readsTest 35 = .ok (.ireturn, 1) := o_172 (by decide +kernel)
theorem dX2_readsTest_36 : decode cX2_readsTest 36 = .ok (.aload_n 0, 1) := o_42 (by decide +kernel)
theorem dX2_readsTest_37 : decode cX2_readsTest 37 = .ok (.dup, 1) := o_89 (by decide +kernel)
theorem dX2_readsTest_38 : decode cX2_readsTest 38 = .ok (.getfield 47, 3) := o_180 (by decide +kernel)
theorem dX2_readsTest_41 : decode cX2_readsTest 41 = .ok (.iconst 1, 1) := o_4 (by decide +kernel)
theorem dX2_readsTest_42 : decode cX2_readsTest 42 = .ok (.iadd, 1) := o_96 (by decide +kernel)
theorem dX2_readsTest_43 : decode cX2_readsTest 43 = .ok (.putfield 47, 3) := o_181 (by decide +kernel)
theorem dX2_readsTest_46 : decode cX2_readsTest 46 = .ok (.aload_n 0, 1) := o_42 (by decide +kernel)
theorem dX2_readsTest_47 : decode cX2_readsTest 47 = .ok (.invokevirtual 74, 3) := o_182 (by decide +kernel)
theorem dX2_readsTest_50 : decode cX2_readsTest 50 = .ok (.istore_n 3, 1) := o_62 (by decide +kernel)
theorem dX2_readsTest_51 : decode cX2_readsTest 51 = .ok (.iload_n 3, 1) := o_29 (by decide +kernel)
theorem dX2_readsTest_52 : decode cX2_readsTest 52 = .ok (.ifCond .ge 5, 3) := o_156 (by decide +kernel)
theorem dX2_readsTest_55 : decode cX2_readsTest 55 = .ok (.iconst 0, 1) := o_3 (by decide +kernel)
theorem dX2_readsTest_56 : decode cX2_readsTest 56 = .ok (.ireturn, 1) := o_172 (by decide +kernel)
theorem dX2_readsTest_57 : decode cX2_readsTest 57 = .ok (.aload_n 0, 1) := o_42 (by decide +kernel)
theorem dX2_readsTest_58 : decode cX2_readsTest 58 = .ok (.iload_n 1, 1) := o_27 (by decide +kernel)
theorem dX2_readsTest_59 : decode cX2_readsTest 59 = .ok (.sipush 300, 3) := o_17 (by decide +kernel)
theorem dX2_readsTest_62 : decode cX2_readsTest 62 = .ok (.imul, 1) := o_104 (by decide +kernel)
theorem dX2_readsTest_63 : decode cX2_readsTest 63 = .ok (.iload_n 2, 1) := o_28 (by decide +kernel)
theorem dX2_readsTest_64 : decode cX2_readsTest 64 = .ok (.bipush 100, 2) := o_16 (by decide +kernel)
theorem dX2_readsTest_66 : decode cX2_readsTest 66 = .ok (.imul, 1) := o_104 (by decide +kernel)
theorem dX2_readsTest_67 : decode cX2_readsTest 67 = .ok (.iadd, 1) := o_96 (by decide +kernel)
theorem dX2_readsTest_68 : decode cX2_readsTest 68 = .ok (.iload_n 3, 1) := o_29 (by decide +kernel)
theorem dX2_readsTest_69 : decode cX2_readsTest 69 = .ok (.iadd, 1) := o_96 (by decide +kernel)
theorem dX2_readsTest_70 : decode cX2_readsTest 70 = .ok (.invokevirtual 113, 3) := o_182 (by decide +kernel)
theorem dX2_readsTest_73 : decode cX2_readsTest 73 = .ok (.iconst 1, 1) := o_4 (by decide +kernel)
theorem dX2_readsTest_74 : decode cX2_readsTest 74 = .ok (.ireturn, 1) := o_172 (by decide +kernel)
theorem gt_wsX2_readsNumber_wsX20 : GoodIn wsX2_readsNumber wsX20 := fun w h => ⟨List.mem_cons_of_mem _ (List.mem_append_right _ h), good_of_word (gq_wsX20 w h)⟩
set_option maxRecDepth 20000 in
theorem ggX2_readsNumber_X2_isDigit : GoodIn wsX2_readsNumber wsX2_isDigit := goodIn_ca (goodIn_s _ [(6, 4), (5, 1), (10, 2), (1, 1), (12, 1)] rfl (by decide +kernel)) gt_wsX2_readsNumber_wsX20
set_option maxRecDepth 20000 in
theorem gX2_readsNumber_X2_isDigit : GoodIn wsX2_readsNumber (wsV RX2 127 RX2 yX2_isDigit wsX2_isDigit) := goodIn_app (goodIn_of _ (by decide +kernel)) ggX2_readsNumber_X2_isDigit
set_option maxRecDepth 20000 in
theorem ggX2_readsNumber_X2_sign : GoodIn wsX2_readsNumber wsX2_sign := goodIn_ca (goodIn_s _ [(10, 2), (1, 1), (12, 1)] rfl (by decide +kernel)) gt_wsX2_readsNumber_wsX20
set_option maxRecDepth 20000 in
theorem gX2_readsNumber_X2_sign : GoodIn wsX2_readsNumber (wsV RX2 130 RX2 yX2_sign wsX2_sign) := goodIn_app (goodIn_of _ (by decide +kernel)) ggX2_readsNumber_X2_sign
theorem dX2_readsNumber_0 : decode cX2_readsNumber 0 = .ok (.aload_n 0, 1) := o_42 (by decide +kernel)
theorem dX2_readsNumber_1 : decode cX2_readsNumber 1 = .ok (.invokevirtual 127, 3) := o_182 (by decide +kernel)
theorem dX2_readsNumber_4 : decode cX2_readsNumber 4 = .ok (.ifCond .ne 5, 3) := o_154 (by decide +kernel)
theorem dX2_readsNumber_7 : decode cX2_readsNumber 7 = .ok (.iconst (-1), 1) := o_2 (by decide +kernel)
theorem dX2_readsNumber_8 : decode cX2_readsNumber 8 = .ok (.ireturn, 1) := o_172 (by decide +kernel)
theorem dX2_readsNumber_9 : decode cX2_readsNumber 9 = .ok (.aload_n 0, 1) := o_42 (by decide +kernel)
theorem dX2_readsNumber_10 : decode cX2_readsNumber 10 = .ok (.invokevirtual 130, 3) := o_182 (by decide +kernel)
theorem dX2_readsNumber_13 : decode cX2_readsNumber 13 = .ok (.bipush 48, 2) := o_16 (by decide +kernel)
theorem dX2_readsNumber_15 : decode cX2_readsNumber 15 = .ok (.isub, 1) := o_100 (by decide +kernel)
theorem dX2_readsNumber_16 : decode cX2_readsNumber 16 = .ok (.istore_n 1, 1) := o_60 (by decide +kernel)
theorem dX2_readsNumber_17 : decode cX2_readsNumber 17 = .ok (.aload_n 0, 1) := o_42 (by decide +kernel)
theorem dX2_readsNumber_18 : decode cX2_readsNumber 18 = .ok (.dup, 1) := o_89 (by decide +kernel)
theorem dX2_readsNumber_19 : decode cX2_readsNumber 19 = .ok (.getfield 47, 3) := o_180 (by decide +kernel)
theorem dX2_readsNumber_22 : decode cX2_readsNumber 22 = .ok (.iconst 1, 1) := o_4 (by decide +kernel)
theorem dX2_readsNumber_23 : decode cX2_readsNumber 23 = .ok (.iadd, 1) := o_96 (by decide +kernel)
theorem dX2_readsNumber_24 : decode cX2_readsNumber 24 = .ok (.putfield 47, 3) := o_181 (by decide +kernel)
theorem dX2_readsNumber_27 : decode cX2_readsNumber 27 = .ok (.aload_n 0, 1) := o_42 (by decide +kernel)
theorem dX2_readsNumber_28 : decode cX2_readsNumber 28 = .ok (.invokevirtual 127, 3) := o_182 (by decide +kernel)
theorem dX2_readsNumber_31 : decode cX2_readsNumber 31 = .ok (.ifCond .eq 26, 3) := o_153 (by decide +kernel)
theorem dX2_readsNumber_34 : decode cX2_readsNumber 34 = .ok (.bipush 10, 2) := o_16 (by decide +kernel)
theorem dX2_readsNumber_36 : decode cX2_readsNumber 36 = .ok (.iload_n 1, 1) := o_27 (by decide +kernel)
theorem dX2_readsNumber_37 : decode cX2_readsNumber 37 = .ok (.imul, 1) := o_104 (by decide +kernel)
theorem dX2_readsNumber_38 : decode cX2_readsNumber 38 = .ok (.aload_n 0, 1) := o_42 (by decide +kernel)
theorem dX2_readsNumber_39 : decode cX2_readsNumber 39 = .ok (.invokevirtual 130, 3) := o_182 (by decide +kernel)
theorem dX2_readsNumber_42 : decode cX2_readsNumber 42 = .ok (.iadd, 1) := o_96 (by decide +kernel)
theorem dX2_readsNumber_43 : decode cX2_readsNumber 43 = .ok (.bipush 48, 2) := o_16 (by decide +kernel)
theorem dX2_readsNumber_45 : decode cX2_readsNumber 45 = .ok (.isub, 1) := o_100 (by decide +kernel)
theorem dX2_readsNumber_46 : decode cX2_readsNumber 46 = .ok (.istore_n 1, 1) := o_60 (by decide +kernel)
theorem dX2_readsNumber_47 : decode cX2_readsNumber 47 = .ok (.aload_n 0, 1) := o_42 (by decide +kernel)
theorem dX2_readsNumber_48 : decode cX2_readsNumber 48 = .ok (.dup, 1) := o_89 (by decide +kernel)
theorem dX2_readsNumber_49 : decode cX2_readsNumber 49 = .ok (.getfield 47, 3) := o_180 (by decide +kernel)
theorem dX2_readsNumber_52 : decode cX2_readsNumber 52 = .ok (.iconst 1, 1) := o_4 (by decide +kernel)
theorem dX2_readsNumber_53 : decode cX2_readsNumber 53 = .ok (.iadd, 1) := o_96 (by decide +kernel)
theorem dX2_readsNumber_54 : decode cX2_readsNumber 54 = .ok (.putfield 47, 3) := o_181 (by decide +kernel)
theorem dX2_readsNumber_57 : decode cX2_readsNumber 57 = .ok (.iload_n 1, 1) := o_27 (by decide +kernel)
theorem dX2_readsNumber_58 : decode cX2_readsNumber 58 = .ok (.ireturn, 1) := o_172 (by decide +kernel)
theorem gt_wsX2_isDigit_wsX20 : GoodIn wsX2_isDigit wsX20 := fun w h => ⟨List.mem_cons_of_mem _ (List.mem_append_right _ h), good_of_word (gq_wsX20 w h)⟩
set_option maxRecDepth 20000 in
theorem ggX2_isDigit_X2_sign : GoodIn wsX2_isDigit wsX2_sign := goodIn_ca (goodIn_s _ [(5, 4)] rfl (by decide +kernel)) gt_wsX2_isDigit_wsX20
set_option maxRecDepth 20000 in
theorem gX2_isDigit_X2_sign : GoodIn wsX2_isDigit (wsV RX2 130 RX2 yX2_sign wsX2_sign) := goodIn_app (goodIn_of _ (by decide +kernel)) ggX2_isDigit_X2_sign
theorem dX2_isDigit_0 : decode cX2_isDigit 0 = .ok (.aload_n 0, 1) := o_42 (by decide +kernel)
theorem dX2_isDigit_1 : decode cX2_isDigit 1 = .ok (.invokevirtual 130, 3) := o_182 (by decide +kernel)
theorem dX2_isDigit_4 : decode cX2_isDigit 4 = .ok (.bipush 48, 2) := o_16 (by decide +kernel)
theorem dX2_isDigit_6 : decode cX2_isDigit 6 = .ok (.if_icmp .lt 16, 3) := o_161 (by decide +kernel)
theorem dX2_isDigit_9 : decode cX2_isDigit 9 = .ok (.aload_n 0, 1) := o_42 (by decide +kernel)
theorem dX2_isDigit_10 : decode cX2_isDigit 10 = .ok (.invokevirtual 130, 3) := o_182 (by decide +kernel)
theorem dX2_isDigit_13 : decode cX2_isDigit 13 = .ok (.bipush 57, 2) := o_16 (by decide +kernel)
theorem dX2_isDigit_15 : decode cX2_isDigit 15 = .ok (.if_icmp .gt 7, 3) := o_163 (by decide +kernel)
theorem dX2_isDigit_18 : decode cX2_isDigit 18 = .ok (.iconst 1, 1) := o_4 (by decide +kernel)
theorem dX2_isDigit_19 : decode cX2_isDigit 19 = .ok (.goto 4, 3) := o_167 (by decide +kernel)
theorem dX2_isDigit_22 : decode cX2_isDigit 22 = .ok (.iconst 0, 1) := o_3 (by decide +kernel)
theorem dX2_isDigit_23 : decode cX2_isDigit 23 = .ok (.ireturn, 1) := o_172 (by decide +kernel)
theorem gt_wsX2_signAmong_wsX20 : GoodIn wsX2_signAmong wsX20 := fun w h => ⟨List.mem_cons_of_mem _ (List.mem_append_right _ h), good_of_word (gq_wsX20 w h)⟩
set_option maxRecDepth 20000 in
theorem ggX2_signAmong_X2_sign : GoodIn wsX2_signAmong wsX2_sign := goodIn_ca (goodIn_s _ [(5, 4)] rfl (by decide +kernel)) gt_wsX2_signAmong_wsX20
set_option maxRecDepth 20000 in
theorem gX2_signAmong_X2_sign : GoodIn wsX2_signAmong (wsV RX2 130 RX2 yX2_sign wsX2_sign) := goodIn_app (goodIn_of _ (by decide +kernel)) ggX2_signAmong_X2_sign
set_option maxRecDepth 20000 in
theorem ggX2_signAmong_J0_indexOf_0f7a4 : GoodIn wsX2_signAmong wsJ0_indexOf_0f7a4 := goodIn_s _ [(13, 4), (12, 1), (17, 81)] rfl (by decide +kernel)
set_option maxRecDepth 20000 in
theorem gX2_signAmong_J0_indexOf_0f7a4 : GoodIn wsX2_signAmong (wsV RX2 133 RJ0 yJ0_indexOf_0f7a4 wsJ0_indexOf_0f7a4) := goodIn_app (goodIn_of _ (by decide +kernel)) ggX2_signAmong_J0_indexOf_0f7a4
theorem dX2_signAmong_0 : decode cX2_signAmong 0 = .ok (.aload_n 0, 1) := o_42 (by decide +kernel)
theorem dX2_signAmong_1 : decode cX2_signAmong 1 = .ok (.invokevirtual 130, 3) := o_182 (by decide +kernel)
theorem dX2_signAmong_4 : decode cX2_signAmong 4 = .ok (.istore_n 2, 1) := o_61 (by decide +kernel)
theorem dX2_signAmong_5 : decode cX2_signAmong 5 = .ok (.iload_n 2, 1) := o_28 (by decide +kernel)
theorem dX2_signAmong_6 : decode cX2_signAmong 6 = .ok (.ifCond .ge 7, 3) := o_156 (by decide +kernel)
theorem dX2_signAmong_9 : decode cX2_signAmong 9 = .ok (.iconst (-1), 1) := o_2 (by decide +kernel)
theorem dX2_signAmong_10 : decode cX2_signAmong 10 = .ok (.goto 9, 3) := o_167 (by decide +kernel)
theorem dX2_signAmong_13 : decode cX2_signAmong 13 = .ok (.aload_n 1, 1) := o_43 (by decide +kernel)
theorem dX2_signAmong_14 : decode cX2_signAmong 14 = .ok (.iload_n 2, 1) := o_28 (by decide +kernel)
theorem dX2_signAmong_15 : decode cX2_signAmong 15 = .ok (.i2c, 1) := o_146 (by decide +kernel)
theorem dX2_signAmong_16 : decode cX2_signAmong 16 = .ok (.invokevirtual 133, 3) := o_182 (by decide +kernel)
theorem dX2_signAmong_19 : decode cX2_signAmong 19 = .ok (.ireturn, 1) := o_172 (by decide +kernel)
theorem dX2_sign_0 : decode cX2_sign 0 = .ok (.aload_n 0, 1) := o_42 (by decide +kernel)
theorem dX2_sign_1 : decode cX2_sign 1 = .ok (.getfield 40, 3) := o_180 (by decide +kernel)
theorem dX2_sign_4 : decode cX2_sign 4 = .ok (.ifnull 26, 3) := o_198 (by decide +kernel)
theorem dX2_sign_7 : decode cX2_sign 7 = .ok (.aload_n 0, 1) := o_42 (by decide +kernel)
theorem dX2_sign_8 : decode cX2_sign 8 = .ok (.getfield 47, 3) := o_180 (by decide +kernel)
theorem dX2_sign_11 : decode cX2_sign 11 = .ok (.aload_n 0, 1) := o_42 (by decide +kernel)
theorem dX2_sign_12 : decode cX2_sign 12 = .ok (.getfield 44, 3) := o_180 (by decide +kernel)
theorem dX2_sign_15 : decode cX2_sign 15 = .ok (.if_icmp .ge 15, 3) := o_162 (by decide +kernel)
theorem dX2_sign_18 : decode cX2_sign 18 = .ok (.aload_n 0, 1) := o_42 (by decide +kernel)
theorem dX2_sign_19 : decode cX2_sign 19 = .ok (.getfield 40, 3) := o_180 (by decide +kernel)
theorem dX2_sign_22 : decode cX2_sign 22 = .ok (.aload_n 0, 1) := o_42 (by decide +kernel)
theorem dX2_sign_23 : decode cX2_sign 23 = .ok (.getfield 47, 3) := o_180 (by decide +kernel)
theorem dX2_sign_26 : decode cX2_sign 26 = .ok (.baload, 1) := o_51 (by decide +kernel)
theorem dX2_sign_27 : decode cX2_sign 27 = .ok (.goto 4, 3) := o_167 (by decide +kernel)
theorem dX2_sign_30 : decode cX2_sign 30 = .ok (.iconst (-1), 1) := o_2 (by decide +kernel)
theorem dX2_sign_31 : decode cX2_sign 31 = .ok (.ireturn, 1) := o_172 (by decide +kernel)
theorem gt_wsX2_takes_wsX20 : GoodIn wsX2_takes wsX20 := fun w h => ⟨List.mem_cons_of_mem _ (List.mem_append_right _ h), good_of_word (gq_wsX20 w h)⟩
set_option maxRecDepth 20000 in
theorem ggX2_takes_X2_sign : GoodIn wsX2_takes wsX2_sign := goodIn_ca (goodIn_s _ [(6, 2), (1, 1), (8, 1)] rfl (by decide +kernel)) gt_wsX2_takes_wsX20
set_option maxRecDepth 20000 in
theorem gX2_takes_X2_sign : GoodIn wsX2_takes (wsV RX2 130 RX2 yX2_sign wsX2_sign) := goodIn_app (goodIn_of _ (by decide +kernel)) ggX2_takes_X2_sign
theorem dX2_takes_0 : decode cX2_takes 0 = .ok (.aload_n 0, 1) := o_42 (by decide +kernel)
theorem dX2_takes_1 : decode cX2_takes 1 = .ok (.invokevirtual 130, 3) := o_182 (by decide +kernel)
theorem dX2_takes_4 : decode cX2_takes 4 = .ok (.iload_n 1, 1) := o_27 (by decide +kernel)
theorem dX2_takes_5 : decode cX2_takes 5 = .ok (.if_icmp .eq 5, 3) := o_159 (by decide +kernel)
theorem dX2_takes_8 : decode cX2_takes 8 = .ok (.iconst 0, 1) := o_3 (by decide +kernel)
theorem dX2_takes_9 : decode cX2_takes 9 = .ok (.ireturn, 1) := o_172 (by decide +kernel)
theorem dX2_takes_10 : decode cX2_takes 10 = .ok (.aload_n 0, 1) := o_42 (by decide +kernel)
theorem dX2_takes_11 : decode cX2_takes 11 = .ok (.dup, 1) := o_89 (by decide +kernel)
theorem dX2_takes_12 : decode cX2_takes 12 = .ok (.getfield 47, 3) := o_180 (by decide +kernel)
theorem dX2_takes_15 : decode cX2_takes 15 = .ok (.iconst 1, 1) := o_4 (by decide +kernel)
theorem dX2_takes_16 : decode cX2_takes 16 = .ok (.iadd, 1) := o_96 (by decide +kernel)
theorem dX2_takes_17 : decode cX2_takes 17 = .ok (.putfield 47, 3) := o_181 (by decide +kernel)
theorem dX2_takes_20 : decode cX2_takes 20 = .ok (.iconst 1, 1) := o_4 (by decide +kernel)
theorem dX2_takes_21 : decode cX2_takes 21 = .ok (.ireturn, 1) := o_172 (by decide +kernel)
theorem dX2_writes_0 : decode cX2_writes 0 = .ok (.aload_n 0, 1) := o_42 (by decide +kernel)
theorem dX2_writes_1 : decode cX2_writes 1 = .ok (.getfield 25, 3) := o_180 (by decide +kernel)
theorem dX2_writes_4 : decode cX2_writes 4 = .ok (.aload_n 0, 1) := o_42 (by decide +kernel)
theorem dX2_writes_5 : decode cX2_writes 5 = .ok (.getfield 21, 3) := o_180 (by decide +kernel)
theorem dX2_writes_8 : decode cX2_writes 8 = .ok (.arraylength, 1) := o_190 (by decide +kernel)
theorem dX2_writes_9 : decode cX2_writes 9 = .ok (.if_icmp .ge 23, 3) := o_162 (by decide +kernel)
theorem dX2_writes_12 : decode cX2_writes 12 = .ok (.aload_n 0, 1) := o_42 (by decide +kernel)
theorem dX2_writes_13 : decode cX2_writes 13 = .ok (.getfield 21, 3) := o_180 (by decide +kernel)
theorem dX2_writes_16 : decode cX2_writes 16 = .ok (.aload_n 0, 1) := o_42 (by decide +kernel)
theorem dX2_writes_17 : decode cX2_writes 17 = .ok (.getfield 25, 3) := o_180 (by decide +kernel)
theorem dX2_writes_20 : decode cX2_writes 20 = .ok (.iload_n 1, 1) := o_27 (by decide +kernel)
theorem dX2_writes_21 : decode cX2_writes 21 = .ok (.iastore, 1) := o_79 (by decide +kernel)
theorem dX2_writes_22 : decode cX2_writes 22 = .ok (.aload_n 0, 1) := o_42 (by decide +kernel)
theorem dX2_writes_23 : decode cX2_writes 23 = .ok (.dup, 1) := o_89 (by decide +kernel)
theorem dX2_writes_24 : decode cX2_writes 24 = .ok (.getfield 25, 3) := o_180 (by decide +kernel)
theorem dX2_writes_27 : decode cX2_writes 27 = .ok (.iconst 1, 1) := o_4 (by decide +kernel)
theorem dX2_writes_28 : decode cX2_writes 28 = .ok (.iadd, 1) := o_96 (by decide +kernel)
theorem dX2_writes_29 : decode cX2_writes 29 = .ok (.putfield 25, 3) := o_181 (by decide +kernel)
theorem dX2_writes_32 : decode cX2_writes 32 = .ok (.return_, 1) := o_177 (by decide +kernel)
theorem gt_wsX2_paceOf_wsX20 : GoodIn wsX2_paceOf wsX20 := fun w h => ⟨List.mem_cons_of_mem _ (List.mem_append_right _ h), good_of_word (gq_wsX20 w h)⟩
set_option maxRecDepth 20000 in
theorem ggX2_paceOf_X2_holds : GoodIn wsX2_paceOf wsX2_holds := goodIn_ca (goodIn_s _ [(9, 3)] rfl (by decide +kernel)) gt_wsX2_paceOf_wsX20
set_option maxRecDepth 20000 in
theorem gX2_paceOf_X2_holds : GoodIn wsX2_paceOf (wsV RX2 137 RX2 yX2_holds wsX2_holds) := goodIn_app (goodIn_of _ (by decide +kernel)) ggX2_paceOf_X2_holds
theorem dX2_paceOf_0 : decode cX2_paceOf 0 = .ok (.bipush 6, 2) := o_16 (by decide +kernel)
theorem dX2_paceOf_2 : decode cX2_paceOf 2 = .ok (.istore_n 2, 1) := o_61 (by decide +kernel)
theorem dX2_paceOf_3 : decode cX2_paceOf 3 = .ok (.iconst 0, 1) := o_3 (by decide +kernel)
theorem dX2_paceOf_4 : decode cX2_paceOf 4 = .ok (.istore_n 3, 1) := o_62 (by decide +kernel)
theorem dX2_paceOf_5 : decode cX2_paceOf 5 = .ok (.iconst 0, 1) := o_3 (by decide +kernel)
theorem dX2_paceOf_6 : decode cX2_paceOf 6 = .ok (.istore 4, 2) := o_54 (by decide +kernel)
theorem dX2_paceOf_8 : decode cX2_paceOf 8 = .ok (.iload 4, 2) := o_21 (by decide +kernel)
theorem dX2_paceOf_10 : decode cX2_paceOf 10 = .ok (.aload_n 0, 1) := o_42 (by decide +kernel)
theorem dX2_paceOf_11 : decode cX2_paceOf 11 = .ok (.getfield 37, 3) := o_180 (by decide +kernel)
theorem dX2_paceOf_14 : decode cX2_paceOf 14 = .ok (.if_icmp .ge 75, 3) := o_162 (by decide +kernel)
theorem dX2_paceOf_17 : decode cX2_paceOf 17 = .ok (.aload_n 0, 1) := o_42 (by decide +kernel)
theorem dX2_paceOf_18 : decode cX2_paceOf 18 = .ok (.getfield 28, 3) := o_180 (by decide +kernel)
theorem dX2_paceOf_21 : decode cX2_paceOf 21 = .ok (.iload 4, 2) := o_21 (by decide +kernel)
theorem dX2_paceOf_23 : decode cX2_paceOf 23 = .ok (.iaload, 1) := o_46 (by decide +kernel)
theorem dX2_paceOf_24 : decode cX2_paceOf 24 = .ok (.iconst 1, 1) := o_4 (by decide +kernel)
theorem dX2_paceOf_25 : decode cX2_paceOf 25 = .ok (.if_icmp .gt 50, 3) := o_163 (by decide +kernel)
theorem dX2_paceOf_28 : decode cX2_paceOf 28 = .ok (.aload_n 0, 1) := o_42 (by decide +kernel)
theorem dX2_paceOf_29 : decode cX2_paceOf 29 = .ok (.iload_n 3, 1) := o_29 (by decide +kernel)
theorem dX2_paceOf_30 : decode cX2_paceOf 30 = .ok (.aload_n 0, 1) := o_42 (by decide +kernel)
theorem dX2_paceOf_31 : decode cX2_paceOf 31 = .ok (.getfield 34, 3) := o_180 (by decide +kernel)
theorem dX2_paceOf_34 : decode cX2_paceOf 34 = .ok (.iload 4, 2) := o_21 (by decide +kernel)
theorem dX2_paceOf_36 : decode cX2_paceOf 36 = .ok (.iaload, 1) := o_46 (by decide +kernel)
theorem dX2_paceOf_37 : decode cX2_paceOf 37 = .ok (.aload_n 1, 1) := o_43 (by decide +kernel)
theorem dX2_paceOf_38 : decode cX2_paceOf 38 = .ok (.invokevirtual 137, 3) := o_182 (by decide +kernel)
theorem dX2_paceOf_41 : decode cX2_paceOf 41 = .ok (.ifCond .eq 34, 3) := o_153 (by decide +kernel)
theorem dX2_paceOf_44 : decode cX2_paceOf 44 = .ok (.iload_n 2, 1) := o_28 (by decide +kernel)
theorem dX2_paceOf_45 : decode cX2_paceOf 45 = .ok (.aload_n 0, 1) := o_42 (by decide +kernel)
theorem dX2_paceOf_46 : decode cX2_paceOf 46 = .ok (.getfield 28, 3) := o_180 (by decide +kernel)
theorem dX2_paceOf_49 : decode cX2_paceOf 49 = .ok (.iload 4, 2) := o_21 (by decide +kernel)
theorem dX2_paceOf_51 : decode cX2_paceOf 51 = .ok (.iaload, 1) := o_46 (by decide +kernel)
theorem dX2_paceOf_52 : decode cX2_paceOf 52 = .ok (.ifCond .ne 13, 3) := o_154 (by decide +kernel)
theorem dX2_paceOf_55 : decode cX2_paceOf 55 = .ok (.aload_n 0, 1) := o_42 (by decide +kernel)
theorem dX2_paceOf_56 : decode cX2_paceOf 56 = .ok (.getfield 31, 3) := o_180 (by decide +kernel)
theorem dX2_paceOf_59 : decode cX2_paceOf 59 = .ok (.iload 4, 2) := o_21 (by decide +kernel)
theorem dX2_paceOf_61 : decode cX2_paceOf 61 = .ok (.iaload, 1) := o_46 (by decide +kernel)
theorem dX2_paceOf_62 : decode cX2_paceOf 62 = .ok (.goto 11, 3) := o_167 (by decide +kernel)
theorem dX2_paceOf_65 : decode cX2_paceOf 65 = .ok (.aload_n 0, 1) := o_42 (by decide +kernel)
theorem dX2_paceOf_66 : decode cX2_paceOf 66 = .ok (.getfield 31, 3) := o_180 (by decide +kernel)
theorem dX2_paceOf_69 : decode cX2_paceOf 69 = .ok (.iload 4, 2) := o_21 (by decide +kernel)
theorem dX2_paceOf_71 : decode cX2_paceOf 71 = .ok (.iaload, 1) := o_46 (by decide +kernel)
theorem dX2_paceOf_72 : decode cX2_paceOf 72 = .ok (.ineg, 1) := o_116 (by decide +kernel)
theorem dX2_paceOf_73 : decode cX2_paceOf 73 = .ok (.iadd, 1) := o_96 (by decide +kernel)
theorem dX2_paceOf_74 : decode cX2_paceOf 74 = .ok (.istore_n 2, 1) := o_61 (by decide +kernel)
theorem dX2_paceOf_75 : decode cX2_paceOf 75 = .ok (.aload_n 0, 1) := o_42 (by decide +kernel)
theorem dX2_paceOf_76 : decode cX2_paceOf 76 = .ok (.getfield 34, 3) := o_180 (by decide +kernel)
theorem dX2_paceOf_79 : decode cX2_paceOf 79 = .ok (.iload 4, 2) := o_21 (by decide +kernel)
theorem dX2_paceOf_81 : decode cX2_paceOf 81 = .ok (.iaload, 1) := o_46 (by decide +kernel)
theorem dX2_paceOf_82 : decode cX2_paceOf 82 = .ok (.istore_n 3, 1) := o_62 (by decide +kernel)
theorem dX2_paceOf_83 : decode cX2_paceOf 83 = .ok (.iinc 4 1, 3) := o_132 (by decide +kernel)
theorem dX2_paceOf_86 : decode cX2_paceOf 86 = .ok (.goto (-78), 3) := o_167 (by decide +kernel)
theorem dX2_paceOf_89 : decode cX2_paceOf 89 = .ok (.iload_n 2, 1) := o_28 (by decide +kernel)
theorem dX2_paceOf_90 : decode cX2_paceOf 90 = .ok (.ifCond .le 7, 3) := o_158 (by decide +kernel)
theorem dX2_paceOf_93 : decode cX2_paceOf 93 = .ok (.iload_n 2, 1) := o_28 (by decide +kernel)
theorem dX2_paceOf_94 : decode cX2_paceOf 94 = .ok (.goto 4, 3) := o_167 (by decide +kernel)
theorem dX2_paceOf_97 : decode cX2_paceOf 97 = .ok (.iconst 0, 1) := o_3 (by decide +kernel)
theorem dX2_paceOf_98 : decode cX2_paceOf 98 = .ok (.ireturn, 1) := o_172 (by decide +kernel)
theorem dX2_holds_0 : decode cX2_holds 0 = .ok (.iconst 0, 1) := o_3 (by decide +kernel)
theorem dX2_holds_1 : decode cX2_holds 1 = .ok (.istore 4, 2) := o_54 (by decide +kernel)
theorem dX2_holds_3 : decode cX2_holds 3 = .ok (.iload_n 1, 1) := o_27 (by decide +kernel)
