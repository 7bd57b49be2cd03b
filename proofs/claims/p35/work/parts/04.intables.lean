theorem goodIn_s {big : List Cond} (ws : List Cond) (rs : List (Nat × Nat)) (hp : ws = (rs.map (fun q => (big.drop q.1).take q.2)).flatten) (h : ws.all goodWord = true) : GoodIn big ws := by
  intro w hw
  have h1 := List.all_eq_true.mp h w hw
  rw [hp] at hw
  obtain ⟨l, hl, hw2⟩ := List.mem_flatten.mp hw
  obtain ⟨q, -, rfl⟩ := List.mem_map.mp hl
  exact ⟨List.mem_of_mem_drop (List.mem_of_mem_take hw2), good_of_word h1⟩
/-! the law's words, each at its table and place -/
noncomputable def tabR : List (List Cond) := [k2_sels lw_privs, tables_1_1, tables_1_2, tables_1_3, tables_1_4, tables_1_5, tables_1_6, tables_1_7]
theorem tabR_in : ∀ L ∈ tabR, ∀ w ∈ L, w ∈ lw_tbl := by
  intro L hL w hw
  simp only [tabR, List.mem_cons, List.not_mem_nil, or_false] at hL
  unfold lw_tbl tables_1
  simp only [List.mem_append]
  rcases hL with rfl | rfl | rfl | rfl | rfl | rfl | rfl | rfl
  · exact Or.inl hw
  · exact Or.inr (Or.inl hw)
  · exact Or.inr (Or.inr (Or.inl hw))
  · exact Or.inr (Or.inr (Or.inr (Or.inl hw)))
  · exact Or.inr (Or.inr (Or.inr (Or.inr (Or.inl hw))))
  · exact Or.inr (Or.inr (Or.inr (Or.inr (Or.inr (Or.inl hw)))))
  · exact Or.inr (Or.inr (Or.inr (Or.inr (Or.inr (Or.inr (Or.inl hw))))))
  · exact Or.inr (Or.inr (Or.inr (Or.inr (Or.inr (Or.inr (Or.inr hw))))))
theorem in_q (ws : List Cond) (ps : List (Nat × Nat)) (hp : ws = ps.filterMap (fun q => (tabR.getD q.1 [])[q.2]?)) : ∀ w ∈ ws, w ∈ lw_tbl := by
  intro w hw
  rw [hp] at hw
  obtain ⟨⟨j, k⟩, -, hi⟩ := List.mem_filterMap.mp hw
  have hm : w ∈ tabR.getD j [] := List.mem_of_getElem? hi
  rw [List.getD_eq_getElem?_getD] at hm
  cases hj : tabR[j]? with
  | none => rw [hj] at hm; exact absurd hm List.not_mem_nil
  | some L => rw [hj] at hm; exact tabR_in L (List.mem_of_getElem? hj) w hm
theorem in_qs (ws : List Cond) (rs : List (Nat × Nat × Nat)) (hp : ws = (rs.map (fun q => ((tabR.getD q.1 []).drop q.2.1).take q.2.2)).flatten) : ∀ w ∈ ws, w ∈ lw_tbl := by
  intro w hw
  rw [hp] at hw
  obtain ⟨l, hl, hw2⟩ := List.mem_flatten.mp hw
  obtain ⟨⟨j, k, m⟩, -, rfl⟩ := List.mem_map.mp hl
  have hm : w ∈ tabR.getD j [] := List.mem_of_mem_drop (List.mem_of_mem_take hw2)
  rw [List.getD_eq_getElem?_getD] at hm
  cases hj : tabR[j]? with
  | none => rw [hj] at hm; exact absurd hm List.not_mem_nil
  | some L => rw [hj] at hm; exact tabR_in L (List.mem_of_getElem? hj) w hm
set_option maxRecDepth 20000 in
theorem wsL_in_1 : ∀ w ∈ wsL_law_r1, w ∈ lw_tbl := in_qs _ [(1, 22, 2), (1, 1, 1), (5, 8, 2), (1, 6, 1), (7, 160, 1), (1, 24, 8), (1, 2, 1), (1, 198, 4), (1, 125, 1), (1, 202, 2), (1, 179, 1)] rfl
set_option maxRecDepth 20000 in
theorem wsL_in_2 : ∀ w ∈ wsL_law_r2, w ∈ lw_tbl := in_q _ [(1, 204), (1, 205), (1, 127), (1, 206), (1, 129), (1, 39), (1, 3), (1, 207), (1, 53), (1, 208), (1, 209), (1, 210), (1, 131), (1, 4), (1, 79), (1, 180), (1, 5), (1, 33), (1, 34), (1, 35), (1, 36), (1, 54), (1, 56), (1, 58)] rfl
set_option maxRecDepth 20000 in
theorem wsL_in_3 : ∀ w ∈ wsL_law_r3, w ∈ lw_tbl := in_q _ [(1, 60), (1, 62), (1, 64), (1, 67), (1, 70), (1, 72), (1, 75), (1, 78), (1, 80), (1, 38), (1, 82), (1, 84), (1, 86), (1, 88), (1, 89), (1, 40), (1, 41), (1, 42), (1, 43), (1, 46), (1, 44), (1, 130), (1, 133), (1, 134)] rfl
set_option maxRecDepth 20000 in
theorem wsL_in_4 : ∀ w ∈ wsL_law_r4, w ∈ lw_tbl := in_qs _ [(1, 135, 2), (1, 139, 1), (1, 142, 1), (1, 145, 9), (1, 182, 3), (1, 197, 1), (1, 185, 1), (1, 187, 1), (1, 189, 1), (5, 10, 4)] rfl
set_option maxRecDepth 20000 in
theorem wsL_in_5 : ∀ w ∈ wsL_law_r5, w ∈ lw_tbl := in_qs _ [(5, 14, 24)] rfl
set_option maxRecDepth 20000 in
theorem wsL_in_6 : ∀ w ∈ wsL_law_r6, w ∈ lw_tbl := in_qs _ [(5, 38, 5), (6, 0, 1), (5, 43, 18)] rfl
set_option maxRecDepth 20000 in
theorem wsL_in_7 : ∀ w ∈ wsL_law_r7, w ∈ lw_tbl := in_qs _ [(5, 61, 24)] rfl
set_option maxRecDepth 20000 in
theorem wsL_in_8 : ∀ w ∈ wsL_law_r8, w ∈ lw_tbl := in_qs _ [(5, 85, 4), (1, 238, 2), (2, 0, 2), (1, 57, 1), (2, 2, 5), (1, 8, 1), (2, 40, 2), (1, 9, 1), (2, 50, 2), (1, 10, 1), (2, 60, 2), (1, 11, 1)] rfl
set_option maxRecDepth 20000 in
theorem wsL_in_9 : ∀ w ∈ wsL_law_r9, w ∈ lw_tbl := in_qs _ [(2, 70, 2), (1, 12, 1), (2, 80, 2), (1, 13, 1), (2, 90, 2), (1, 7, 1), (2, 7, 8), (2, 17, 1), (2, 25, 1), (2, 42, 4), (2, 52, 1)] rfl
set_option maxRecDepth 20000 in
theorem wsL_in_10 : ∀ w ∈ wsL_law_r10, w ∈ lw_tbl := in_qs _ [(2, 53, 3), (2, 62, 4), (2, 72, 4), (2, 82, 4), (2, 92, 1), (2, 97, 4), (2, 24, 1), (6, 1, 3)] rfl
set_option maxRecDepth 20000 in
theorem wsL_in_11 : ∀ w ∈ wsL_law_r11, w ∈ lw_tbl := in_q _ [(6, 4), (6, 5), (6, 7), (0, 28), (6, 8), (2, 101), (2, 102), (2, 103), (2, 104), (1, 55), (2, 15), (2, 32), (1, 63), (1, 66), (1, 69), (1, 71), (2, 105), (2, 107), (0, 0), (2, 108), (2, 109), (2, 110), (2, 111), (2, 112)] rfl
set_option maxRecDepth 20000 in
theorem wsL_in_12 : ∀ w ∈ wsL_law_r12, w ∈ lw_tbl := in_qs _ [(2, 113, 4), (2, 16, 1), (2, 117, 5), (2, 123, 1), (0, 1, 1), (2, 124, 7), (2, 133, 1), (2, 131, 1), (2, 134, 3)] rfl
set_option maxRecDepth 20000 in
theorem wsL_in_13 : ∀ w ∈ wsL_law_r13, w ∈ lw_tbl := in_q _ [(2, 137), (2, 59), (2, 131), (2, 165), (1, 68), (2, 138), (2, 139), (2, 140), (1, 65), (2, 18), (2, 19), (2, 28), (2, 29), (2, 141), (2, 49), (2, 130), (2, 132), (2, 142), (2, 143), (2, 144), (2, 26), (2, 27), (2, 145), (7, 161)] rfl
set_option maxRecDepth 20000 in
theorem wsL_in_14 : ∀ w ∈ wsL_law_r14, w ∈ lw_tbl := in_qs _ [(2, 69, 1), (2, 146, 6), (7, 162, 1), (2, 79, 1), (2, 152, 8), (1, 137, 1), (2, 160, 4), (1, 73, 1), (2, 20, 1)] rfl
set_option maxRecDepth 20000 in
theorem wsL_in_15 : ∀ w ∈ wsL_law_r15, w ∈ lw_tbl := in_q _ [(2, 21), (1, 76), (2, 164), (7, 163), (2, 89), (6, 93), (6, 94), (6, 95), (6, 96), (6, 13), (6, 15), (0, 29), (6, 16), (6, 25), (6, 27), (0, 30), (6, 28), (6, 97), (6, 99), (0, 45), (6, 100), (6, 101), (6, 103), (0, 46)] rfl
set_option maxRecDepth 20000 in
theorem wsL_in_16 : ∀ w ∈ wsL_law_r16, w ∈ lw_tbl := in_q _ [(6, 104), (6, 105), (6, 107), (0, 47), (6, 108), (6, 109), (6, 111), (0, 48), (6, 112), (6, 113), (6, 115), (0, 49), (6, 116), (6, 117), (6, 119), (0, 50), (6, 120), (6, 121), (6, 123), (0, 51), (6, 124), (6, 125), (6, 127), (0, 52)] rfl
set_option maxRecDepth 20000 in
theorem wsL_in_17 : ∀ w ∈ wsL_law_r17, w ∈ lw_tbl := in_q _ [(6, 128), (6, 129), (6, 131), (0, 53), (6, 132), (6, 133), (6, 135), (0, 54), (6, 136), (6, 137), (6, 139), (0, 55), (6, 140), (6, 141), (6, 143), (0, 56), (6, 144), (2, 166), (2, 167), (2, 168), (2, 169), (2, 170), (2, 171), (2, 172)] rfl
set_option maxRecDepth 20000 in
theorem wsL_in_18 : ∀ w ∈ wsL_law_r18, w ∈ lw_tbl := in_qs _ [(2, 173, 1), (6, 9, 4), (2, 174, 4), (2, 80, 1), (1, 74, 1), (6, 17, 4), (2, 178, 9)] rfl
set_option maxRecDepth 20000 in
theorem wsL_in_19 : ∀ w ∈ wsL_law_r19, w ∈ lw_tbl := in_qs _ [(6, 21, 4), (2, 187, 4), (6, 29, 4), (2, 191, 10), (1, 14, 1), (2, 201, 1)] rfl
set_option maxRecDepth 20000 in
theorem wsL_in_20 : ∀ w ∈ wsL_law_r20, w ∈ lw_tbl := in_q _ [(2, 202), (2, 204), (0, 2), (2, 205), (2, 207), (2, 209), (0, 3), (2, 210), (2, 211), (2, 213), (0, 4), (2, 214), (2, 215), (2, 216), (2, 217), (1, 15), (2, 218), (2, 219), (2, 220), (2, 221), (2, 222), (7, 175), (2, 223), (2, 224)] rfl
set_option maxRecDepth 20000 in
theorem wsL_in_21 : ∀ w ∈ wsL_law_r21, w ∈ lw_tbl := in_qs _ [(2, 225, 3), (7, 174, 1), (2, 229, 10), (1, 16, 1), (2, 239, 1), (3, 3, 4), (3, 0, 3), (3, 7, 1)] rfl
set_option maxRecDepth 20000 in
theorem wsL_in_22 : ∀ w ∈ wsL_law_r22, w ∈ lw_tbl := in_qs _ [(3, 8, 4), (1, 17, 1), (3, 12, 17), (3, 30, 2)] rfl
set_option maxRecDepth 20000 in
theorem wsL_in_23 : ∀ w ∈ wsL_law_r23, w ∈ lw_tbl := in_qs _ [(1, 18, 1), (3, 32, 8), (3, 41, 1), (3, 43, 1), (3, 45, 5), (1, 19, 1), (3, 50, 7)] rfl
set_option maxRecDepth 20000 in
theorem wsL_in_24 : ∀ w ∈ wsL_law_r24, w ∈ lw_tbl := in_qs _ [(3, 57, 3), (3, 61, 1), (0, 5, 1), (3, 62, 4), (3, 71, 15)] rfl
set_option maxRecDepth 20000 in
theorem wsL_in_25 : ∀ w ∈ wsL_law_r25, w ∈ lw_tbl := in_q _ [(3, 86), (3, 87), (3, 88), (3, 89), (3, 90), (3, 91), (3, 92), (3, 94), (0, 6), (3, 95), (3, 96), (3, 98), (0, 7), (3, 99), (3, 100), (3, 102), (0, 8), (3, 103), (3, 104), (3, 106), (0, 9), (3, 107), (3, 108), (3, 110)] rfl
set_option maxRecDepth 20000 in
theorem wsL_in_26 : ∀ w ∈ wsL_law_r26, w ∈ lw_tbl := in_q _ [(0, 10), (3, 116), (3, 118), (0, 12), (3, 119), (3, 111), (3, 112), (3, 114), (0, 11), (3, 115), (3, 120), (3, 122), (0, 13), (3, 123), (3, 126), (3, 128), (0, 14), (3, 129), (3, 130), (3, 131), (3, 132), (3, 133), (3, 134), (6, 33)] rfl
set_option maxRecDepth 20000 in
theorem wsL_in_27 : ∀ w ∈ wsL_law_r27, w ∈ lw_tbl := in_q _ [(6, 34), (6, 35), (6, 36), (6, 37), (6, 39), (0, 31), (6, 40), (6, 41), (6, 43), (0, 32), (6, 44), (6, 45), (6, 47), (0, 33), (6, 48), (6, 49), (6, 51), (0, 34), (6, 52), (6, 53), (6, 55), (0, 35), (6, 56), (6, 57)] rfl
set_option maxRecDepth 20000 in
theorem wsL_in_28 : ∀ w ∈ wsL_law_r28, w ∈ lw_tbl := in_q _ [(6, 59), (0, 36), (6, 60), (6, 61), (6, 63), (0, 37), (6, 64), (6, 65), (6, 67), (0, 38), (6, 68), (6, 69), (6, 71), (0, 39), (6, 72), (6, 73), (6, 75), (0, 40), (6, 76), (6, 77), (6, 79), (0, 41), (6, 80), (6, 81)] rfl
set_option maxRecDepth 20000 in
theorem wsL_in_29 : ∀ w ∈ wsL_law_r29, w ∈ lw_tbl := in_q _ [(6, 83), (0, 42), (6, 84), (6, 85), (6, 87), (0, 43), (6, 88), (6, 89), (6, 91), (0, 44), (6, 92), (3, 135), (3, 136), (3, 137), (3, 138), (1, 77), (1, 138), (1, 140), (1, 143), (1, 59), (6, 145), (6, 146), (6, 147), (6, 148)] rfl
set_option maxRecDepth 20000 in
theorem wsL_in_30 : ∀ w ∈ wsL_law_r30, w ∈ lw_tbl := in_qs _ [(6, 149, 1), (6, 151, 1), (0, 57, 1), (6, 152, 1), (3, 139, 10), (3, 150, 1), (0, 15, 1), (3, 151, 4), (3, 156, 1), (0, 16, 1), (3, 157, 1), (1, 141, 1)] rfl
set_option maxRecDepth 20000 in
theorem wsL_in_31 : ∀ w ∈ wsL_law_r31, w ∈ lw_tbl := in_qs _ [(6, 153, 5), (6, 159, 1), (0, 58, 1), (6, 160, 2), (6, 163, 1), (0, 59, 1), (6, 164, 2), (6, 167, 1), (0, 60, 1), (6, 168, 1), (3, 158, 8)] rfl
set_option maxRecDepth 20000 in
theorem wsL_in_32 : ∀ w ∈ wsL_law_r32, w ∈ lw_tbl := in_qs _ [(3, 166, 1), (3, 168, 1), (0, 17, 1), (3, 169, 1), (6, 169, 5), (6, 175, 1), (0, 61, 1), (6, 176, 1), (3, 170, 8), (6, 177, 4)] rfl
set_option maxRecDepth 20000 in
theorem wsL_in_33 : ∀ w ∈ wsL_law_r33, w ∈ lw_tbl := in_qs _ [(6, 181, 1), (6, 183, 1), (0, 62, 1), (6, 184, 1), (3, 178, 9), (3, 188, 1), (3, 187, 1), (1, 20, 1), (3, 189, 1), (3, 191, 1), (0, 18, 1), (3, 192, 5)] rfl
set_option maxRecDepth 20000 in
theorem wsL_in_34 : ∀ w ∈ wsL_law_r34, w ∈ lw_tbl := in_q _ [(3, 197), (3, 198), (3, 199), (3, 200), (3, 201), (6, 185), (6, 186), (6, 187), (6, 188), (6, 189), (6, 191), (0, 63), (6, 192), (6, 193), (6, 195), (0, 64), (6, 196), (6, 197), (6, 199), (0, 65), (6, 200), (6, 201), (6, 203), (0, 66)] rfl
set_option maxRecDepth 20000 in
theorem wsL_in_35 : ∀ w ∈ wsL_law_r35, w ∈ lw_tbl := in_qs _ [(6, 204, 1), (3, 202, 8), (1, 144, 1), (6, 205, 5), (6, 211, 1), (0, 67, 1), (6, 212, 1), (3, 210, 5), (3, 216, 1)] rfl
set_option maxRecDepth 20000 in
theorem wsL_in_36 : ∀ w ∈ wsL_law_r36, w ∈ lw_tbl := in_q _ [(0, 19), (3, 217), (3, 218), (3, 223), (3, 219), (3, 221), (0, 20), (3, 222), (3, 224), (3, 226), (0, 21), (3, 227), (3, 228), (3, 230), (0, 22), (3, 231), (6, 213), (6, 214), (6, 215), (6, 216), (6, 217), (6, 219), (0, 68), (6, 220)] rfl
set_option maxRecDepth 20000 in
theorem wsL_in_37 : ∀ w ∈ wsL_law_r37, w ∈ lw_tbl := in_q _ [(6, 221), (6, 223), (0, 69), (6, 224), (6, 225), (6, 227), (0, 70), (6, 228), (3, 232), (3, 233), (3, 234), (3, 235), (3, 236), (3, 238), (0, 23), (3, 239), (4, 0), (4, 2), (0, 24), (4, 3), (1, 81), (4, 4), (4, 5), (4, 6)] rfl
set_option maxRecDepth 20000 in
theorem wsL_in_38 : ∀ w ∈ wsL_law_r38, w ∈ lw_tbl := in_qs _ [(6, 229, 5), (6, 235, 1), (0, 71, 1), (6, 236, 1), (4, 7, 4), (6, 237, 3), (7, 0, 2), (7, 3, 1), (0, 72, 1), (7, 4, 1), (4, 11, 4)] rfl
set_option maxRecDepth 20000 in
theorem wsL_in_39 : ∀ w ∈ wsL_law_r39, w ∈ lw_tbl := in_qs _ [(4, 15, 3), (4, 19, 1), (0, 25, 1), (4, 20, 1), (7, 5, 6), (4, 21, 4), (1, 61, 1), (7, 11, 5), (7, 17, 1), (0, 73, 1)] rfl
set_option maxRecDepth 20000 in
theorem wsL_in_40 : ∀ w ∈ wsL_law_r40, w ∈ lw_tbl := in_qs _ [(7, 18, 1), (4, 25, 4), (7, 19, 5), (7, 25, 1), (0, 74, 1), (7, 26, 1), (4, 29, 4), (7, 27, 4), (4, 33, 3)] rfl
set_option maxRecDepth 20000 in
theorem wsL_in_41 : ∀ w ∈ wsL_law_r41, w ∈ lw_tbl := in_qs _ [(4, 36, 1), (1, 83, 1), (1, 47, 1), (4, 37, 8), (7, 31, 4), (4, 45, 5), (4, 51, 1), (0, 26, 1), (4, 52, 2)] rfl
set_option maxRecDepth 20000 in
theorem wsL_in_42 : ∀ w ∈ wsL_law_r42, w ∈ lw_tbl := in_qs _ [(4, 55, 1), (0, 27, 1), (4, 56, 1), (1, 45, 1), (7, 35, 5), (7, 41, 1), (0, 75, 1), (7, 42, 1), (4, 57, 8), (7, 43, 4)] rfl
set_option maxRecDepth 20000 in
theorem wsL_in_43 : ∀ w ∈ wsL_law_r43, w ∈ lw_tbl := in_qs _ [(7, 47, 2), (7, 50, 1), (0, 76, 1), (7, 51, 2), (7, 54, 1), (0, 77, 1), (7, 55, 1), (4, 65, 4), (7, 56, 4), (4, 69, 4), (1, 85, 1), (7, 60, 2)] rfl
set_option maxRecDepth 20000 in
theorem wsL_in_44 : ∀ w ∈ wsL_law_r44, w ∈ lw_tbl := in_qs _ [(7, 62, 2), (4, 73, 4), (7, 64, 4), (4, 77, 4), (1, 87, 1), (7, 68, 4), (4, 81, 4), (7, 72, 1)] rfl
set_option maxRecDepth 20000 in
theorem wsL_in_45 : ∀ w ∈ wsL_law_r45, w ∈ lw_tbl := in_qs _ [(7, 73, 3), (4, 85, 4), (1, 188, 1), (1, 186, 1), (4, 89, 11), (7, 76, 4)] rfl
set_option maxRecDepth 20000 in
theorem wsL_in_46 : ∀ w ∈ wsL_law_r46, w ∈ lw_tbl := in_qs _ [(7, 80, 1), (7, 82, 1), (0, 78, 1), (7, 83, 1), (4, 100, 14), (7, 84, 4), (4, 114, 2)] rfl
set_option maxRecDepth 20000 in
theorem wsL_in_47 : ∀ w ∈ wsL_law_r47, w ∈ lw_tbl := in_qs _ [(4, 116, 2), (7, 88, 4), (4, 118, 5), (4, 125, 2), (4, 123, 1), (4, 147, 2), (4, 123, 1), (4, 127, 5), (4, 122, 1), (4, 124, 1)] rfl
set_option maxRecDepth 20000 in
theorem wsL_in_48 : ∀ w ∈ wsL_law_r48, w ∈ lw_tbl := in_q _ [(4, 132), (4, 133), (4, 134), (4, 135), (4, 139), (4, 140), (4, 141), (4, 142), (4, 143), (2, 30), (2, 31), (4, 144), (4, 149), (4, 152), (4, 153), (4, 150), (4, 171), (4, 172), (4, 172), (4, 154), (4, 149), (4, 151), (4, 150), (4, 155)] rfl
set_option maxRecDepth 20000 in
theorem wsL_in_49 : ∀ w ∈ wsL_law_r49, w ∈ lw_tbl := in_qs _ [(4, 156, 3), (7, 164, 1), (4, 159, 4), (2, 39, 1), (4, 163, 5), (4, 173, 1), (4, 176, 1), (4, 174, 1), (4, 177, 5), (4, 174, 1), (4, 196, 1)] rfl
set_option maxRecDepth 20000 in
theorem wsL_in_50 : ∀ w ∈ wsL_law_r50, w ∈ lw_tbl := in_q _ [(4, 197), (4, 197), (4, 182), (4, 169), (4, 183), (4, 184), (4, 185), (4, 173), (4, 175), (4, 186), (4, 187), (4, 188), (4, 189), (2, 22), (2, 23), (4, 190), (4, 194), (4, 195), (7, 92), (7, 93), (7, 94), (7, 95), (7, 96), (7, 98)] rfl
set_option maxRecDepth 20000 in
theorem wsL_in_51 : ∀ w ∈ wsL_law_r51, w ∈ lw_tbl := in_q _ [(0, 79), (7, 99), (7, 100), (7, 102), (0, 80), (7, 103), (7, 104), (7, 106), (0, 81), (7, 107), (7, 108), (7, 110), (0, 82), (7, 111), (7, 112), (7, 114), (0, 83), (7, 115), (7, 116), (7, 118), (0, 84), (7, 119), (7, 120), (7, 122)] rfl
set_option maxRecDepth 20000 in
theorem wsL_in_52 : ∀ w ∈ wsL_law_r52, w ∈ lw_tbl := in_qs _ [(0, 85, 1), (7, 123, 2), (7, 126, 1), (0, 86, 1), (7, 127, 1), (4, 198, 8), (7, 128, 4), (4, 206, 6)] rfl
set_option maxRecDepth 20000 in
theorem wsL_in_53 : ∀ w ∈ wsL_law_r53, w ∈ lw_tbl := in_qs _ [(4, 212, 1), (2, 5, 1), (2, 40, 1), (2, 50, 1), (2, 60, 1), (2, 70, 1), (7, 132, 4), (4, 213, 4), (7, 136, 4), (4, 217, 6)] rfl
set_option maxRecDepth 20000 in
theorem wsL_in_54 : ∀ w ∈ wsL_law_r54, w ∈ lw_tbl := in_qs _ [(4, 223, 4), (1, 21, 1), (4, 227, 1), (7, 140, 4), (4, 228, 8), (7, 144, 5), (7, 150, 1)] rfl
set_option maxRecDepth 20000 in
theorem wsL_in_55 : ∀ w ∈ wsL_law_r55, w ∈ lw_tbl := in_qs _ [(0, 87, 1), (7, 151, 1), (4, 236, 4), (7, 152, 4), (5, 0, 8), (7, 156, 4)] rfl
theorem wsL_inX11 : ∀ w ∈ wsX110, w ∈ lw_tbl := in_q _ [(1, 211), (1, 213), (1, 215), (1, 217), (1, 219), (1, 221), (1, 223), (1, 225), (1, 227), (1, 229), (1, 231), (1, 233), (1, 235)] rfl
theorem wsL_inX12 : ∀ w ∈ wsX120, w ∈ lw_tbl := in_q _ [(5, 89), (5, 91), (5, 93), (5, 95), (5, 97), (5, 99), (5, 101), (5, 103), (5, 105), (5, 107), (5, 109), (5, 111), (5, 113), (5, 115), (5, 117), (5, 119), (5, 121), (5, 123), (5, 125), (5, 127), (5, 129), (5, 131), (5, 133), (5, 135), (5, 137), (5, 139), (5, 141), (5, 143), (5, 145), (5, 147), (5, 149), (5, 151), (5, 153), (5, 155), (5, 157), (5, 159), (5, 161), (5, 163), (5, 165), (5, 167), (5, 169), (5, 171), (5, 173), (5, 175), (5, 177), (5, 179), (5, 181), (5, 183), (5, 185), (5, 187), (5, 189), (5, 191), (5, 193), (5, 195), (5, 197), (5, 199), (5, 201), (5, 203), (5, 205), (5, 207), (5, 209), (5, 211), (5, 213), (5, 215), (5, 217), (5, 219), (5, 221), (5, 223), (5, 225), (5, 227), (5, 229), (5, 231), (5, 233), (5, 235), (5, 237)] rfl
theorem wsL_inX1 : ∀ w ∈ wsX10, w ∈ lw_tbl := in_q _ [(1, 90), (1, 92), (1, 94), (1, 96), (1, 98), (1, 100), (1, 102), (1, 104), (1, 106), (1, 108), (1, 110), (1, 112), (1, 114), (1, 116), (1, 118), (1, 120), (1, 122)] rfl
theorem wsL_inX5 : ∀ w ∈ wsX50, w ∈ lw_tbl := in_q _ [(1, 48), (1, 50)] rfl
theorem wsL_inX2 : ∀ w ∈ wsX20, w ∈ lw_tbl := in_q _ [(1, 154), (1, 156), (1, 158), (1, 160), (1, 162), (1, 164), (1, 166), (1, 168), (1, 170), (1, 172), (1, 174), (1, 176)] rfl
theorem wsL_inX9 : ∀ w ∈ wsX90, w ∈ lw_tbl := in_q _ [(1, 190), (1, 192), (1, 194)] rfl
theorem wsL_inX8 : ∀ w ∈ wsX80, w ∈ lw_tbl := in_q _ [(2, 33), (2, 35), (2, 37)] rfl
theorem wsL_inX3 : ∀ w ∈ wsX30, w ∈ lw_tbl := in_qs _ [(2, 46, 3)] rfl
theorem wsL_inX0 : ∀ w ∈ wsX00, w ∈ lw_tbl := in_qs _ [(2, 56, 3)] rfl
theorem wsL_inX6 : ∀ w ∈ wsX60, w ∈ lw_tbl := in_qs _ [(2, 66, 3)] rfl
theorem wsL_inX7 : ∀ w ∈ wsX70, w ∈ lw_tbl := in_qs _ [(2, 76, 3)] rfl
theorem wsL_inX10 : ∀ w ∈ wsX100, w ∈ lw_tbl := in_qs _ [(2, 86, 3)] rfl
theorem wsL_inX4 : ∀ w ∈ wsX40, w ∈ lw_tbl := in_qs _ [(2, 93, 3)] rfl
theorem wsL_law_in : ∀ w ∈ wsL_law, w ∈ lw_tbl := fun w h => (List.mem_append.mp h).elim (fun h => (List.mem_append.mp h).elim (fun h => (List.mem_append.mp h).elim (fun h => (List.mem_append.mp h).elim (fun h => (List.mem_append.mp h).elim (fun h => (List.mem_append.mp h).elim (fun h => (List.mem_append.mp h).elim (fun h => (List.mem_append.mp h).elim (fun h => (List.mem_append.mp h).elim (fun h => (List.mem_append.mp h).elim (fun h => (List.mem_append.mp h).elim (fun h => (List.mem_append.mp h).elim (fun h => (List.mem_append.mp h).elim (fun h => (List.mem_append.mp h).elim (fun h => (List.mem_append.mp h).elim (fun h => wsL_in_1 w h) (fun h => (List.mem_append.mp h).elim (fun h => wsL_in_2 w h) (fun h => (List.mem_append.mp h).elim (fun h => wsL_in_3 w h) (fun h => (List.mem_append.mp h).elim (fun h => wsL_in_4 w h) (fun h => (List.mem_append.mp h).elim (fun h => wsL_in_5 w h) (fun h => (List.mem_append.mp h).elim (fun h => wsL_in_6 w h) (fun h => (List.mem_append.mp h).elim (fun h => wsL_in_7 w h) (fun h => (List.mem_append.mp h).elim (fun h => wsL_in_8 w h) (fun h => (List.mem_append.mp h).elim (fun h => wsL_in_9 w h) (fun h => (List.mem_append.mp h).elim (fun h => wsL_in_10 w h) (fun h => (List.mem_append.mp h).elim (fun h => wsL_in_11 w h) (fun h => (List.mem_append.mp h).elim (fun h => wsL_in_12 w h) (fun h => (List.mem_append.mp h).elim (fun h => wsL_in_13 w h) (fun h => (List.mem_append.mp h).elim (fun h => wsL_in_14 w h) (fun h => (List.mem_append.mp h).elim (fun h => wsL_in_15 w h) (fun h => (List.mem_append.mp h).elim (fun h => wsL_in_16 w h) (fun h => (List.mem_append.mp h).elim (fun h => wsL_in_17 w h) (fun h => (List.mem_append.mp h).elim (fun h => wsL_in_18 w h) (fun h => (List.mem_append.mp h).elim (fun h => wsL_in_19 w h) (fun h => (List.mem_append.mp h).elim (fun h => wsL_in_20 w h) (fun h => (List.mem_append.mp h).elim (fun h => wsL_in_21 w h) (fun h => (List.mem_append.mp h).elim (fun h => wsL_in_22 w h) (fun h => (List.mem_append.mp h).elim (fun h => wsL_in_23 w h) (fun h => (List.mem_append.mp h).elim (fun h => wsL_in_24 w h) (fun h => (List.mem_append.mp h).elim (fun h => wsL_in_25 w h) (fun h => (List.mem_append.mp h).elim (fun h => wsL_in_26 w h) (fun h => (List.mem_append.mp h).elim (fun h => wsL_in_27 w h) (fun h => (List.mem_append.mp h).elim (fun h => wsL_in_28 w h) (fun h => (List.mem_append.mp h).elim (fun h => wsL_in_29 w h) (fun h => (List.mem_append.mp h).elim (fun h => wsL_in_30 w h) (fun h => (List.mem_append.mp h).elim (fun h => wsL_in_31 w h) (fun h => (List.mem_append.mp h).elim (fun h => wsL_in_32 w h) (fun h => (List.mem_append.mp h).elim (fun h => wsL_in_33 w h) (fun h => (List.mem_append.mp h).elim (fun h => wsL_in_34 w h) (fun h => (List.mem_append.mp h).elim (fun h => wsL_in_35 w h) (fun h => (List.mem_append.mp h).elim (fun h => wsL_in_36 w h) (fun h => (List.mem_append.mp h).elim (fun h => wsL_in_37 w h) (fun h => (List.mem_append.mp h).elim (fun h => wsL_in_38 w h) (fun h => (List.mem_append.mp h).elim (fun h => wsL_in_39 w h) (fun h => (List.mem_append.mp h).elim (fun h => wsL_in_40 w h) (fun h => (List.mem_append.mp h).elim (fun h => wsL_in_41 w h) (fun h => (List.mem_append.mp h).elim (fun h => wsL_in_42 w h) (fun h => (List.mem_append.mp h).elim (fun h => wsL_in_43 w h) (fun h => (List.mem_append.mp h).elim (fun h => wsL_in_44 w h) (fun h => (List.mem_append.mp h).elim (fun h => wsL_in_45 w h) (fun h => (List.mem_append.mp h).elim (fun h => wsL_in_46 w h) (fun h => (List.mem_append.mp h).elim (fun h => wsL_in_47 w h) (fun h => (List.mem_append.mp h).elim (fun h => wsL_in_48 w h) (fun h => (List.mem_append.mp h).elim (fun h => wsL_in_49 w h) (fun h => (List.mem_append.mp h).elim (fun h => wsL_in_50 w h) (fun h => (List.mem_append.mp h).elim (fun h => wsL_in_51 w h) (fun h => (List.mem_append.mp h).elim (fun h => wsL_in_52 w h) (fun h => (List.mem_append.mp h).elim (fun h => wsL_in_53 w h) (fun h => (List.mem_append.mp h).elim (fun h => wsL_in_54 w h) (fun h => wsL_in_55 w h))))))))))))))))))))))))))))))))))))))))))))))))))))))) (fun h => wsL_inX11 w h)) (fun h => wsL_inX12 w h)) (fun h => wsL_inX1 w h)) (fun h => wsL_inX5 w h)) (fun h => wsL_inX2 w h)) (fun h => wsL_inX9 w h)) (fun h => wsL_inX8 w h)) (fun h => wsL_inX3 w h)) (fun h => wsL_inX0 w h)) (fun h => wsL_inX6 w h)) (fun h => wsL_inX7 w h)) (fun h => wsL_inX10 w h)) (fun h => wsL_inX4 w h)) (fun h => absurd h List.not_mem_nil)
theorem inlX0 : ∀ w ∈ wsX00, w ∈ wsL_law := fun _ h => List.mem_append_left _ (List.mem_append_left _ (List.mem_append_left _ (List.mem_append_left _ (List.mem_append_left _ (List.mem_append_right _ h)))))
theorem inX0 : ∀ w ∈ wsX00, w ∈ lw_tbl := wsL_inX0
theorem inlX1 : ∀ w ∈ wsX10, w ∈ wsL_law := fun _ h => List.mem_append_left _ (List.mem_append_left _ (List.mem_append_left _ (List.mem_append_left _ (List.mem_append_left _ (List.mem_append_left _ (List.mem_append_left _ (List.mem_append_left _ (List.mem_append_left _ (List.mem_append_left _ (List.mem_append_left _ (List.mem_append_right _ h)))))))))))
theorem inX1 : ∀ w ∈ wsX10, w ∈ lw_tbl := wsL_inX1
theorem inlX2 : ∀ w ∈ wsX20, w ∈ wsL_law := fun _ h => List.mem_append_left _ (List.mem_append_left _ (List.mem_append_left _ (List.mem_append_left _ (List.mem_append_left _ (List.mem_append_left _ (List.mem_append_left _ (List.mem_append_left _ (List.mem_append_left _ (List.mem_append_right _ h)))))))))
theorem inX2 : ∀ w ∈ wsX20, w ∈ lw_tbl := wsL_inX2
theorem inlX3 : ∀ w ∈ wsX30, w ∈ wsL_law := fun _ h => List.mem_append_left _ (List.mem_append_left _ (List.mem_append_left _ (List.mem_append_left _ (List.mem_append_left _ (List.mem_append_left _ (List.mem_append_right _ h))))))
theorem inX3 : ∀ w ∈ wsX30, w ∈ lw_tbl := wsL_inX3
theorem inlX4 : ∀ w ∈ wsX40, w ∈ wsL_law := fun _ h => List.mem_append_left _ (List.mem_append_right _ h)
theorem inX4 : ∀ w ∈ wsX40, w ∈ lw_tbl := wsL_inX4
theorem inlX5 : ∀ w ∈ wsX50, w ∈ wsL_law := fun _ h => List.mem_append_left _ (List.mem_append_left _ (List.mem_append_left _ (List.mem_append_left _ (List.mem_append_left _ (List.mem_append_left _ (List.mem_append_left _ (List.mem_append_left _ (List.mem_append_left _ (List.mem_append_left _ (List.mem_append_right _ h))))))))))
theorem inX5 : ∀ w ∈ wsX50, w ∈ lw_tbl := wsL_inX5
theorem inlX6 : ∀ w ∈ wsX60, w ∈ wsL_law := fun _ h => List.mem_append_left _ (List.mem_append_left _ (List.mem_append_left _ (List.mem_append_left _ (List.mem_append_right _ h))))
theorem inX6 : ∀ w ∈ wsX60, w ∈ lw_tbl := wsL_inX6
theorem inlX7 : ∀ w ∈ wsX70, w ∈ wsL_law := fun _ h => List.mem_append_left _ (List.mem_append_left _ (List.mem_append_left _ (List.mem_append_right _ h)))
theorem inX7 : ∀ w ∈ wsX70, w ∈ lw_tbl := wsL_inX7
theorem inlX8 : ∀ w ∈ wsX80, w ∈ wsL_law := fun _ h => List.mem_append_left _ (List.mem_append_left _ (List.mem_append_left _ (List.mem_append_left _ (List.mem_append_left _ (List.mem_append_left _ (List.mem_append_left _ (List.mem_append_right _ h)))))))
theorem inX8 : ∀ w ∈ wsX80, w ∈ lw_tbl := wsL_inX8
theorem inlX9 : ∀ w ∈ wsX90, w ∈ wsL_law := fun _ h => List.mem_append_left _ (List.mem_append_left _ (List.mem_append_left _ (List.mem_append_left _ (List.mem_append_left _ (List.mem_append_left _ (List.mem_append_left _ (List.mem_append_left _ (List.mem_append_right _ h))))))))
theorem inX9 : ∀ w ∈ wsX90, w ∈ lw_tbl := wsL_inX9
theorem inlX10 : ∀ w ∈ wsX100, w ∈ wsL_law := fun _ h => List.mem_append_left _ (List.mem_append_left _ (List.mem_append_right _ h))
theorem inX10 : ∀ w ∈ wsX100, w ∈ lw_tbl := wsL_inX10
theorem inlX11 : ∀ w ∈ wsX110, w ∈ wsL_law := fun _ h => List.mem_append_left _ (List.mem_append_left _ (List.mem_append_left _ (List.mem_append_left _ (List.mem_append_left _ (List.mem_append_left _ (List.mem_append_left _ (List.mem_append_left _ (List.mem_append_left _ (List.mem_append_left _ (List.mem_append_left _ (List.mem_append_left _ (List.mem_append_left _ (List.mem_append_right _ h)))))))))))))
theorem inX11 : ∀ w ∈ wsX110, w ∈ lw_tbl := wsL_inX11
theorem inlX12 : ∀ w ∈ wsX120, w ∈ wsL_law := fun _ h => List.mem_append_left _ (List.mem_append_left _ (List.mem_append_left _ (List.mem_append_left _ (List.mem_append_left _ (List.mem_append_left _ (List.mem_append_left _ (List.mem_append_left _ (List.mem_append_left _ (List.mem_append_left _ (List.mem_append_left _ (List.mem_append_left _ (List.mem_append_right _ h))))))))))))
theorem inX12 : ∀ w ∈ wsX120, w ∈ lw_tbl := wsL_inX12
theorem inJx145de : ∀ w ∈ wsJx145de0, w ∈ lw_tbl := in_qs _ [] rfl
theorem inJx9f9b0 : ∀ w ∈ wsJx9f9b00, w ∈ lw_tbl := in_qs _ [] rfl
theorem inJ11 : ∀ w ∈ wsJ110, w ∈ lw_tbl := in_qs _ [] rfl
theorem inJxb160c : ∀ w ∈ wsJxb160c0, w ∈ lw_tbl := in_qs _ [] rfl
theorem inJ9 : ∀ w ∈ wsJ90, w ∈ lw_tbl := in_qs _ [] rfl
theorem inJ0 : ∀ w ∈ wsJ00, w ∈ lw_tbl := in_qs _ [] rfl
theorem inJ1 : ∀ w ∈ wsJ10, w ∈ lw_tbl := in_qs _ [] rfl
theorem inJ2 : ∀ w ∈ wsJ20, w ∈ lw_tbl := in_qs _ [] rfl
theorem inJ10 : ∀ w ∈ wsJ100, w ∈ lw_tbl := in_qs _ [] rfl
theorem inJxfd54e : ∀ w ∈ wsJxfd54e0, w ∈ lw_tbl := in_qs _ [] rfl
theorem inJx3cf43 : ∀ w ∈ wsJx3cf430, w ∈ lw_tbl := in_qs _ [] rfl
theorem inJ7 : ∀ w ∈ wsJ70, w ∈ lw_tbl := in_qs _ [] rfl
theorem inJ3 : ∀ w ∈ wsJ30, w ∈ lw_tbl := in_qs _ [] rfl
set_option maxRecDepth 20000 in
theorem ggX0_init_X4_init : GoodIn wsX0_init wsX4_init := goodIn_r _ [4, 5, 6, 7, 8, 9, 10, 11, 12, 13, 14, 15, 16, 17, 18, 19, 20, 21, 22, 23, 24, 25, 26, 27, 28, 29, 30, 31] (by decide +kernel) (by decide +kernel)
set_option maxRecDepth 20000 in
theorem gX0_init_X4_init : GoodIn wsX0_init (wsX4_init) := ggX0_init_X4_init
