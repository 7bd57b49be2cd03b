set_option maxRecDepth 20000 in
theorem ggL_X4_mowing : GoodIn lw_tbl wsX4_mowing := goodIn_q _ [(46, 14), (8, 17), (46, 15), (40, 8), (40, 9), (1, 6), (40, 10), (2, 19), (2, 20), (63, 0), (63, 1), (63, 2), (63, 3), (63, 4), (63, 5), (63, 6), (63, 7), (63, 8), (63, 9), (63, 10), (63, 11), (63, 12), (63, 13), (63, 14), (63, 15), (63, 16), (63, 17), (63, 18), (63, 19), (63, 20), (63, 21), (63, 22), (63, 23), (63, 24), (63, 25), (63, 26), (63, 27), (63, 28), (63, 29), (63, 30), (63, 31), (63, 32), (63, 33), (63, 34), (63, 35), (63, 36), (63, 37), (63, 38), (63, 39), (62, 0), (62, 1), (62, 2), (62, 3), (62, 4), (62, 5), (62, 6), (62, 7), (62, 8), (62, 9), (62, 10), (62, 11), (62, 12), (62, 13), (62, 14), (62, 15), (62, 16), (62, 17), (62, 18), (62, 19), (62, 20), (62, 21), (62, 22), (62, 23), (62, 24), (62, 25), (62, 26), (62, 27), (62, 28), (62, 29), (62, 30), (62, 31), (62, 32), (62, 33), (62, 34), (62, 35), (62, 36), (62, 37), (62, 38), (62, 39), (67, 0), (67, 1), (67, 2), (67, 3), (67, 4), (67, 5), (67, 6), (67, 7), (67, 8), (67, 9), (67, 10), (67, 11), (67, 12), (67, 13), (67, 14), (67, 15), (67, 16), (67, 17), (67, 18), (67, 19), (67, 20), (67, 21), (67, 22), (67, 23), (67, 24), (67, 25), (67, 26), (67, 27), (67, 28), (67, 29), (67, 30), (67, 31), (67, 32), (67, 33), (67, 34), (67, 35), (67, 36), (67, 37), (67, 38), (67, 39), (64, 0), (64, 1), (64, 2), (64, 3), (64, 4), (64, 5), (64, 6), (64, 7), (64, 8), (64, 9), (64, 10), (64, 11), (64, 12), (64, 13), (64, 14), (64, 15), (64, 16), (64, 17), (64, 18), (64, 19), (64, 20), (64, 21), (64, 22), (64, 23), (64, 24), (64, 25), (64, 26), (64, 27), (64, 28), (64, 29), (64, 30), (64, 31), (64, 32), (64, 33), (64, 34), (64, 35), (64, 36), (64, 37), (64, 38), (64, 39), (65, 0), (65, 1), (65, 2), (65, 3), (65, 4), (65, 5), (65, 6), (65, 7), (65, 8), (65, 9), (65, 10), (65, 11), (65, 12), (65, 13), (65, 14), (65, 15), (65, 16), (65, 17), (65, 18), (65, 19), (65, 20), (65, 21), (65, 22), (65, 23), (65, 24), (65, 25), (65, 26), (65, 27), (65, 28), (65, 29), (65, 30), (65, 31), (65, 32), (65, 33), (65, 34), (65, 35), (65, 36), (65, 37), (65, 38), (65, 39), (61, 0), (61, 1), (61, 2), (61, 3), (61, 4), (61, 5), (61, 6), (61, 7), (61, 8), (61, 9), (61, 10), (61, 11), (61, 12), (61, 13), (61, 14), (61, 15), (61, 16), (61, 17), (61, 18), (61, 19), (61, 20), (61, 21), (61, 22), (61, 23), (61, 24), (61, 25), (61, 26), (61, 27), (61, 28), (61, 29), (61, 30), (61, 31), (61, 32), (61, 33), (61, 34), (61, 35), (61, 36), (61, 37), (61, 38), (61, 39), (66, 0), (66, 1), (66, 2), (66, 3), (66, 4), (66, 5), (66, 6), (66, 7), (66, 8), (66, 9), (66, 10), (66, 11), (66, 12), (66, 13), (66, 14), (66, 15), (66, 16), (66, 17), (66, 18), (66, 19), (66, 20), (66, 21), (66, 22), (66, 23), (66, 24), (66, 25), (66, 26), (66, 27), (66, 28), (66, 29), (66, 30), (66, 31), (66, 32), (66, 33), (66, 34), (66, 35), (66, 36), (66, 37), (66, 38), (66, 39), (58, 0), (58, 1), (58, 2), (58, 3), (58, 4), (58, 5), (58, 6), (58, 7), (58, 8), (58, 9), (58, 10), (58, 11), (58, 12), (58, 13), (58, 14), (58, 15), (58, 16), (58, 17), (58, 18), (58, 19), (58, 20), (58, 21), (58, 22), (58, 23), (58, 24), (58, 25), (58, 26), (58, 27), (58, 28), (58, 29), (58, 30), (58, 31), (58, 32), (58, 33), (58, 34), (58, 35), (58, 36), (58, 37), (58, 38), (58, 39)] rfl (by decide +kernel)
set_option maxRecDepth 20000 in
theorem ggL_X4_whetting : GoodIn lw_tbl wsX4_whetting := goodIn_q _ [(47, 16), (8, 18), (46, 15), (40, 8), (40, 9), (1, 6), (40, 10), (2, 19), (2, 20), (47, 17), (46, 11), (46, 12), (46, 13), (8, 8), (46, 14), (8, 17), (46, 16), (46, 17), (46, 18), (7, 17), (46, 19), (46, 20), (46, 21), (12, 14), (47, 18), (46, 23), (47, 0), (47, 1), (7, 23), (47, 2), (47, 3), (47, 4), (47, 5), (47, 6), (47, 7), (8, 5), (47, 8), (47, 9), (47, 10), (47, 11), (63, 0), (63, 1), (63, 2), (63, 3), (63, 4), (63, 5), (63, 6), (63, 7), (63, 8), (63, 9), (63, 10), (63, 11), (63, 12), (63, 13), (63, 14), (63, 15), (63, 16), (63, 17), (63, 18), (63, 19), (63, 20), (63, 21), (63, 22), (63, 23), (63, 24), (63, 25), (63, 26), (63, 27), (63, 28), (63, 29), (63, 30), (63, 31), (63, 32), (63, 33), (63, 34), (63, 35), (63, 36), (63, 37), (63, 38), (63, 39), (62, 0), (62, 1), (62, 2), (62, 3), (62, 4), (62, 5), (62, 6), (62, 7), (62, 8), (62, 9), (62, 10), (62, 11), (62, 12), (62, 13), (62, 14), (62, 15), (62, 16), (62, 17), (62, 18), (62, 19), (62, 20), (62, 21), (62, 22), (62, 23), (62, 24), (62, 25), (62, 26), (62, 27), (62, 28), (62, 29), (62, 30), (62, 31), (62, 32), (62, 33), (62, 34), (62, 35), (62, 36), (62, 37), (62, 38), (62, 39), (67, 0), (67, 1), (67, 2), (67, 3), (67, 4), (67, 5), (67, 6), (67, 7), (67, 8), (67, 9), (67, 10), (67, 11), (67, 12), (67, 13), (67, 14), (67, 15), (67, 16), (67, 17), (67, 18), (67, 19), (67, 20), (67, 21), (67, 22), (67, 23), (67, 24), (67, 25), (67, 26), (67, 27), (67, 28), (67, 29), (67, 30), (67, 31), (67, 32), (67, 33), (67, 34), (67, 35), (67, 36), (67, 37), (67, 38), (67, 39), (64, 0), (64, 1), (64, 2), (64, 3), (64, 4), (64, 5), (64, 6), (64, 7), (64, 8), (64, 9), (64, 10), (64, 11), (64, 12), (64, 13), (64, 14), (64, 15), (64, 16), (64, 17), (64, 18), (64, 19), (64, 20), (64, 21), (64, 22), (64, 23), (64, 24), (64, 25), (64, 26), (64, 27), (64, 28), (64, 29), (64, 30), (64, 31), (64, 32), (64, 33), (64, 34), (64, 35), (64, 36), (64, 37), (64, 38), (64, 39), (65, 0), (65, 1), (65, 2), (65, 3), (65, 4), (65, 5), (65, 6), (65, 7), (65, 8), (65, 9), (65, 10), (65, 11), (65, 12), (65, 13), (65, 14), (65, 15), (65, 16), (65, 17), (65, 18), (65, 19), (65, 20), (65, 21), (65, 22), (65, 23), (65, 24), (65, 25), (65, 26), (65, 27), (65, 28), (65, 29), (65, 30), (65, 31), (65, 32), (65, 33), (65, 34), (65, 35), (65, 36), (65, 37), (65, 38), (65, 39), (61, 0), (61, 1), (61, 2), (61, 3), (61, 4), (61, 5), (61, 6), (61, 7), (61, 8), (61, 9), (61, 10), (61, 11), (61, 12), (61, 13), (61, 14), (61, 15), (61, 16), (61, 17), (61, 18), (61, 19), (61, 20), (61, 21), (61, 22), (61, 23), (61, 24), (61, 25), (61, 26), (61, 27), (61, 28), (61, 29), (61, 30), (61, 31), (61, 32), (61, 33), (61, 34), (61, 35), (61, 36), (61, 37), (61, 38), (61, 39), (66, 0), (66, 1), (66, 2), (66, 3), (66, 4), (66, 5), (66, 6), (66, 7), (66, 8), (66, 9), (66, 10), (66, 11), (66, 12), (66, 13), (66, 14), (66, 15), (66, 16), (66, 17), (66, 18), (66, 19), (66, 20), (66, 21), (66, 22), (66, 23), (66, 24), (66, 25), (66, 26), (66, 27), (66, 28), (66, 29), (66, 30), (66, 31), (66, 32), (66, 33), (66, 34), (66, 35), (66, 36), (66, 37), (66, 38), (66, 39), (58, 0), (58, 1), (58, 2), (58, 3), (58, 4), (58, 5), (58, 6), (58, 7), (58, 8), (58, 9), (58, 10), (58, 11), (58, 12), (58, 13), (58, 14), (58, 15), (58, 16), (58, 17), (58, 18), (58, 19), (58, 20), (58, 21), (58, 22), (58, 23), (58, 24), (58, 25), (58, 26), (58, 27), (58, 28), (58, 29), (58, 30), (58, 31), (58, 32), (58, 33), (58, 34), (58, 35), (58, 36), (58, 37), (58, 38), (58, 39)] rfl (by decide +kernel)
set_option maxRecDepth 20000 in
theorem ggL_X4_telling : GoodIn lw_tbl wsX4_telling := goodIn_q _ [(48, 23), (46, 15), (40, 8), (40, 9), (1, 6), (40, 10), (2, 19), (2, 20), (49, 0), (47, 13), (47, 14), (47, 15), (8, 8), (47, 16), (8, 18), (47, 17), (46, 11), (46, 12), (46, 13), (46, 14), (8, 17), (46, 16), (46, 17), (46, 18), (7, 17), (46, 19), (46, 20), (46, 21), (12, 14), (47, 18), (46, 23), (47, 0), (47, 1), (7, 23), (47, 2), (47, 3), (47, 4), (47, 5), (47, 6), (47, 7), (8, 5), (47, 8), (47, 9), (47, 10), (47, 11), (47, 19), (49, 1), (47, 21), (47, 22), (47, 23), (48, 0), (48, 1), (48, 2), (48, 3), (13, 0), (48, 4), (7, 14), (48, 5), (48, 6), (48, 7), (48, 8), (48, 9), (48, 10), (48, 11), (48, 12), (48, 13), (58, 0), (58, 1), (58, 2), (58, 3), (58, 4), (58, 5), (58, 6), (58, 7), (58, 8), (58, 9), (58, 10), (58, 11), (58, 12), (58, 13), (58, 14), (58, 15), (58, 16), (58, 17), (58, 18), (58, 19), (58, 20), (58, 21), (58, 22), (58, 23), (58, 24), (58, 25), (58, 26), (58, 27), (58, 28), (58, 29), (58, 30), (58, 31), (58, 32), (58, 33), (58, 34), (58, 35), (58, 36), (58, 37), (58, 38), (58, 39), (63, 0), (63, 1), (63, 2), (63, 3), (63, 4), (63, 5), (63, 6), (63, 7), (63, 8), (63, 9), (63, 10), (63, 11), (63, 12), (63, 13), (63, 14), (63, 15), (63, 16), (63, 17), (63, 18), (63, 19), (63, 20), (63, 21), (63, 22), (63, 23), (63, 24), (63, 25), (63, 26), (63, 27), (63, 28), (63, 29), (63, 30), (63, 31), (63, 32), (63, 33), (63, 34), (63, 35), (63, 36), (63, 37), (63, 38), (63, 39), (62, 0), (62, 1), (62, 2), (62, 3), (62, 4), (62, 5), (62, 6), (62, 7), (62, 8), (62, 9), (62, 10), (62, 11), (62, 12), (62, 13), (62, 14), (62, 15), (62, 16), (62, 17), (62, 18), (62, 19), (62, 20), (62, 21), (62, 22), (62, 23), (62, 24), (62, 25), (62, 26), (62, 27), (62, 28), (62, 29), (62, 30), (62, 31), (62, 32), (62, 33), (62, 34), (62, 35), (62, 36), (62, 37), (62, 38), (62, 39), (67, 0), (67, 1), (67, 2), (67, 3), (67, 4), (67, 5), (67, 6), (67, 7), (67, 8), (67, 9), (67, 10), (67, 11), (67, 12), (67, 13), (67, 14), (67, 15), (67, 16), (67, 17), (67, 18), (67, 19), (67, 20), (67, 21), (67, 22), (67, 23), (67, 24), (67, 25), (67, 26), (67, 27), (67, 28), (67, 29), (67, 30), (67, 31), (67, 32), (67, 33), (67, 34), (67, 35), (67, 36), (67, 37), (67, 38), (67, 39), (64, 0), (64, 1), (64, 2), (64, 3), (64, 4), (64, 5), (64, 6), (64, 7), (64, 8), (64, 9), (64, 10), (64, 11), (64, 12), (64, 13), (64, 14), (64, 15), (64, 16), (64, 17), (64, 18), (64, 19), (64, 20), (64, 21), (64, 22), (64, 23), (64, 24), (64, 25), (64, 26), (64, 27), (64, 28), (64, 29), (64, 30), (64, 31), (64, 32), (64, 33), (64, 34), (64, 35), (64, 36), (64, 37), (64, 38), (64, 39), (65, 0), (65, 1), (65, 2), (65, 3), (65, 4), (65, 5), (65, 6), (65, 7), (65, 8), (65, 9), (65, 10), (65, 11), (65, 12), (65, 13), (65, 14), (65, 15), (65, 16), (65, 17), (65, 18), (65, 19), (65, 20), (65, 21), (65, 22), (65, 23), (65, 24), (65, 25), (65, 26), (65, 27), (65, 28), (65, 29), (65, 30), (65, 31), (65, 32), (65, 33), (65, 34), (65, 35), (65, 36), (65, 37), (65, 38), (65, 39), (61, 0), (61, 1), (61, 2), (61, 3), (61, 4), (61, 5), (61, 6), (61, 7), (61, 8), (61, 9), (61, 10), (61, 11), (61, 12), (61, 13), (61, 14), (61, 15), (61, 16), (61, 17), (61, 18), (61, 19), (61, 20), (61, 21), (61, 22), (61, 23), (61, 24), (61, 25), (61, 26), (61, 27), (61, 28), (61, 29), (61, 30), (61, 31), (61, 32), (61, 33), (61, 34), (61, 35), (61, 36), (61, 37), (61, 38), (61, 39), (66, 0), (66, 1), (66, 2), (66, 3), (66, 4), (66, 5), (66, 6), (66, 7), (66, 8), (66, 9), (66, 10), (66, 11), (66, 12), (66, 13), (66, 14), (66, 15), (66, 16), (66, 17), (66, 18), (66, 19), (66, 20), (66, 21), (66, 22), (66, 23), (66, 24), (66, 25), (66, 26), (66, 27), (66, 28), (66, 29), (66, 30), (66, 31), (66, 32), (66, 33), (66, 34), (66, 35), (66, 36), (66, 37), (66, 38), (66, 39)] rfl (by decide +kernel)
theorem wsLk_t : ∀ w ∈ wsLk, w ∈ tables_1 := List.forall_mem_cons.mpr ⟨List.mem_of_getElem? (i := 856) (by decide +kernel), List.forall_mem_cons.mpr ⟨List.mem_of_getElem? (i := 857) (by decide +kernel), List.forall_mem_cons.mpr ⟨List.mem_of_getElem? (i := 309) (by decide +kernel), List.forall_mem_cons.mpr ⟨List.mem_of_getElem? (i := 279) (by decide +kernel), List.forall_mem_cons.mpr ⟨List.mem_of_getElem? (i := 843) (by decide +kernel), List.forall_mem_cons.mpr ⟨List.mem_of_getElem? (i := 865) (by decide +kernel), List.forall_mem_cons.mpr ⟨List.mem_of_getElem? (i := 866) (by decide +kernel), List.forall_mem_cons.mpr ⟨List.mem_of_getElem? (i := 329) (by decide +kernel), List.forall_mem_cons.mpr ⟨List.mem_of_getElem? (i := 299) (by decide +kernel), List.forall_mem_cons.mpr ⟨List.mem_of_getElem? (i := 888) (by decide +kernel), List.forall_mem_cons.mpr ⟨List.mem_of_getElem? (i := 889) (by decide +kernel), List.forall_mem_cons.mpr ⟨List.mem_of_getElem? (i := 870) (by decide +kernel), List.forall_mem_cons.mpr ⟨List.mem_of_getElem? (i := 911) (by decide +kernel), List.forall_mem_cons.mpr ⟨List.mem_of_getElem? (i := 912) (by decide +kernel), List.forall_mem_cons.mpr ⟨List.mem_of_getElem? (i := 319) (by decide +kernel), List.forall_mem_cons.mpr ⟨List.mem_of_getElem? (i := 289) (by decide +kernel), List.forall_mem_cons.mpr ⟨List.mem_of_getElem? (i := 894) (by decide +kernel), List.forall_mem_cons.mpr ⟨List.mem_of_getElem? (i := 7) (by decide +kernel), fun _ h => absurd h List.not_mem_nil⟩⟩⟩⟩⟩⟩⟩⟩⟩⟩⟩⟩⟩⟩⟩⟩⟩⟩
theorem wsAct_in : GoodIn lw_tbl wsAct := goodIn_app (goodIn_sub (fun w h => List.mem_append_right _ (wsLk_t w h)) (by decide +kernel)) (goodIn_app ggL_X4_mowing (goodIn_app ggL_X4_whetting ggL_X4_telling))
theorem gL_X11_acte : GoodIn lw_tbl (wsV RL 144 RX11 yX11_act wsX11_acte) := goodIn_app (goodIn_q _ [(46, 6), (46, 7), (46, 8), (0, 2)] rfl (by decide +kernel)) (goodIn_app ggL_X11_act wsAct_in)
theorem lg_cmp_rf {x : Int64} : lg_cmp x x = 0 := by
  unfold lg_cmp
  rw [if_neg (fun h => by have := Int64.lt_iff_toInt_lt.mp h; omega), if_pos rfl]
theorem kv_law_X11_act : KV RL lw_tbl room_1 144 RX11 yX11_act wsX11_acte (rmz 8) 3 := ⟨_, _, _, _, gL_X11_acte, rfl, by decide +kernel, by decide⟩
theorem kv_law_X11_alone : KV RL lw_tbl room_1 86 RX11 yX11_alone wsX11_alone (rmz 6) 1 := ⟨_, _, _, _, gL_X11_alone, rfl, by decide +kernel, by decide⟩
theorem kv_law_X11_apart : KV RL lw_tbl room_1 77 RX11 yX11_apart wsX11_apart (rmz 7) 2 := ⟨_, _, _, _, gL_X11_apart, rfl, by decide +kernel, by decide⟩
theorem kv_law_X11_book : KV RL lw_tbl room_1 124 RX11 yX11_book wsX11_book (rmz 1) 1 := ⟨_, _, _, _, gL_X11_book, rfl, by decide +kernel, by decide⟩
theorem kv_law_X11_count : KV RL lw_tbl room_1 156 RX11 yX11_count wsX11_count (rmz 0) 1 := ⟨_, _, _, _, gL_X11_count, rfl, by decide +kernel, by decide⟩
theorem kv_law_X11_done : KV RL lw_tbl room_1 65 RX11 yX11_done wsX11_done (rmz 5) 0 := ⟨_, _, _, _, gL_X11_done, rfl, by decide +kernel, by decide⟩
theorem kv_law_X11_feed : KV RL lw_tbl room_1 35 RX11 yX11_feed wsX11_feed (rmz 0) 1 := ⟨_, _, _, _, gL_X11_feed, rfl, by decide +kernel, by decide⟩
theorem kv_law_X11_field : KV RL lw_tbl room_1 40 RX11 yX11_field wsX11_field (rmr 24 5 142) 0 := ⟨_, _, _, _, gL_X11_field, rfl, by decide +kernel, by decide⟩
theorem kv_law_X11_image : KV RL lw_tbl room_1 136 RX11 yX11_image wsX11_image (rmz 3) 0 := ⟨_, _, _, _, gL_X11_image, rfl, by decide +kernel, by decide⟩
theorem kv_law_X11_item : KV RL lw_tbl room_1 166 RX11 yX11_item wsX11_item (rmz 1) 3 := ⟨_, _, _, _, gL_X11_item, rfl, by decide +kernel, by decide⟩
theorem kv_law_X11_judge : KV RL lw_tbl room_1 132 RX11 yX11_judge wsX11_judge (rmz 1) 2 := ⟨_, _, _, _, gL_X11_judge, rfl, by decide +kernel, by decide⟩
theorem kv_law_X11_looked : KV RL lw_tbl room_1 128 RX11 yX11_looked wsX11_looked (rmz 5) 0 := ⟨_, _, _, _, gL_X11_looked, rfl, by decide +kernel, by decide⟩
theorem kv_law_X11_mean : KV RL lw_tbl room_1 111 RX11 yX11_mean wsX11_mean (rmz 6) 2 := ⟨_, _, _, _, gL_X11_mean, rfl, by decide +kernel, by decide⟩
theorem kv_law_X11_minute : KV RL lw_tbl room_1 49 RX11 yX11_minute wsX11_minute (rmz 5) 0 := ⟨_, _, _, _, gL_X11_minute, rfl, by decide +kernel, by decide⟩
theorem kv_law_X11_mower : KV RL lw_tbl room_1 13 RX11 yX11_mower wsX11_mower (rmr 6 1 3) 2 := ⟨_, _, _, _, gL_X11_mower, rfl, by decide +kernel, by decide⟩
theorem kv_law_X11_odds : KV RL lw_tbl room_1 106 RX11 yX11_odds wsX11_odds (rmz 6) 3 := ⟨_, _, _, _, gL_X11_odds, rfl, by decide +kernel, by decide⟩
theorem kv_law_X11_of : KV RL lw_tbl room_1 18 RX11 yX11_of wsX11_of (rmz 4) 2 := ⟨_, _, _, _, gL_X11_of, rfl, by decide +kernel, by decide⟩
theorem kv_law_X11_on : KV RL lw_tbl room_1 61 RX11 yX11_on wsX11_on (rmz 6) 2 := ⟨_, _, _, _, gL_X11_on, rfl, by decide +kernel, by decide⟩
theorem kv_law_X11_order : KV RL lw_tbl room_1 69 RX11 yX11_order wsX11_order (rmz 7) 2 := ⟨_, _, _, _, gL_X11_order, rfl, by decide +kernel, by decide⟩
theorem kv_law_X11_pause : KV RL lw_tbl room_1 57 RX11 yX11_pause wsX11_pause (rmz 3) 1 := ⟨_, _, _, _, gL_X11_pause, rfl, by decide +kernel, by decide⟩
theorem kv_law_X11_paused : KV RL lw_tbl room_1 94 RX11 yX11_paused wsX11_paused (rmz 7) 2 := ⟨_, _, _, _, gL_X11_paused, rfl, by decide +kernel, by decide⟩
theorem kv_law_X11_place : KV RL lw_tbl room_1 31 RX11 yX11_place wsX11_place (rmz 2) 2 := ⟨_, _, _, _, gL_X11_place, rfl, by decide +kernel, by decide⟩
theorem kv_law_X11_plan : KV RL lw_tbl room_1 116 RX11 yX11_plan wsX11_plan (rmz 1) 1 := ⟨_, _, _, _, gL_X11_plan, rfl, by decide +kernel, by decide⟩
theorem kv_law_X11_planned : KV RL lw_tbl room_1 120 RX11 yX11_planned wsX11_planned (rmz 5) 0 := ⟨_, _, _, _, gL_X11_planned, rfl, by decide +kernel, by decide⟩
theorem kv_law_X11_read : KV RL lw_tbl room_1 171 RX11 yX11_read wsX11_read (rmz 1) 2 := ⟨_, _, _, _, gL_X11_read, rfl, by decide +kernel, by decide⟩
theorem kv_law_X11_rest : KV RL lw_tbl room_1 90 RX11 yX11_rest wsX11_rest (rmz 7) 2 := ⟨_, _, _, _, gL_X11_rest, rfl, by decide +kernel, by decide⟩
theorem kv_law_X11_row : KV RL lw_tbl room_1 27 RX11 yX11_row wsX11_row (rmz 1) 3 := ⟨_, _, _, _, gL_X11_row, rfl, by decide +kernel, by decide⟩
theorem kv_law_X11_see : KV RL lw_tbl room_1 98 RX11 yX11_see wsX11_see (rmz 1) 3 := ⟨_, _, _, _, gL_X11_see, rfl, by decide +kernel, by decide⟩
theorem kv_law_X11_set : KV RL lw_tbl room_1 22 RX11 yX11_set wsX11_set (rmz 1) 3 := ⟨_, _, _, _, gL_X11_set, rfl, by decide +kernel, by decide⟩
theorem kv_law_X11_shift : KV RL lw_tbl room_1 175 RX11 yX11_shift wsX11_shift (rmz 1) 5 := ⟨_, _, _, _, gL_X11_shift, rfl, by decide +kernel, by decide⟩
theorem kv_law_X11_stop : KV RL lw_tbl room_1 81 RX11 yX11_stop wsX11_stop (rmz 6) 4 := ⟨_, _, _, _, gL_X11_stop, rfl, by decide +kernel, by decide⟩
theorem kv_law_X11_taken : KV RL lw_tbl room_1 152 RX11 yX11_taken wsX11_taken (rmz 1) 2 := ⟨_, _, _, _, gL_X11_taken, rfl, by decide +kernel, by decide⟩
theorem kv_law_X11_tape : KV RL lw_tbl room_1 160 RX11 yX11_tape wsX11_tape (rmz 2) 3 := ⟨_, _, _, _, gL_X11_tape, rfl, by decide +kernel, by decide⟩
theorem kv_law_X11_told : KV RL lw_tbl room_1 45 RX11 yX11_told wsX11_told (rmz 0) 1 := ⟨_, _, _, _, gL_X11_told, rfl, by decide +kernel, by decide⟩
theorem kv_law_X11_trace : KV RL lw_tbl room_1 148 RX11 yX11_trace wsX11_trace (rmz 1) 1 := ⟨_, _, _, _, gL_X11_trace, rfl, by decide +kernel, by decide⟩
theorem kv_law_X11_undo : KV RL lw_tbl room_1 140 RX11 yX11_undo wsX11_undo (rmz 3) 0 := ⟨_, _, _, _, gL_X11_undo, rfl, by decide +kernel, by decide⟩
theorem kv_law_X11_whet : KV RL lw_tbl room_1 53 RX11 yX11_whet wsX11_whet (rmz 3) 0 := ⟨_, _, _, _, gL_X11_whet, rfl, by decide +kernel, by decide⟩
theorem kv_law_X11_whets : KV RL lw_tbl room_1 73 RX11 yX11_whets wsX11_whets (rmz 7) 2 := ⟨_, _, _, _, gL_X11_whets, rfl, by decide +kernel, by decide⟩
theorem kv_law_X11_who : KV RL lw_tbl room_1 102 RX11 yX11_who wsX11_who (rmz 6) 0 := ⟨_, _, _, _, gL_X11_who, rfl, by decide +kernel, by decide⟩
theorem kv_law_X12_act : KV RL lw_tbl room_1 147 RX12 yX12_act wsX12_act (rmz 8) 3 := ⟨_, _, _, _, gL_X12_act, rfl, by decide +kernel, by decide⟩
theorem kv_law_X12_alone : KV RL lw_tbl room_1 89 RX12 yX12_alone wsX12_alone (rmz 9) 1 := ⟨_, _, _, _, gL_X12_alone, rfl, by decide +kernel, by decide⟩
theorem kv_law_X12_apart : KV RL lw_tbl room_1 80 RX12 yX12_apart wsX12_apart (rmz 9) 2 := ⟨_, _, _, _, gL_X12_apart, rfl, by decide +kernel, by decide⟩
theorem kv_law_X12_book : KV RL lw_tbl room_1 127 RX12 yX12_book wsX12_book (rmz 2) 1 := ⟨_, _, _, _, gL_X12_book, rfl, by decide +kernel, by decide⟩
theorem kv_law_X12_count : KV RL lw_tbl room_1 159 RX12 yX12_count wsX12_count (rmz 0) 1 := ⟨_, _, _, _, gL_X12_count, rfl, by decide +kernel, by decide⟩
theorem kv_law_X12_done : KV RL lw_tbl room_1 68 RX12 yX12_done wsX12_done (rmz 8) 0 := ⟨_, _, _, _, gL_X12_done, rfl, by decide +kernel, by decide⟩
theorem kv_law_X12_feed : KV RL lw_tbl room_1 39 RX12 yX12_feed wsX12_feed (rmz 1) 1 := ⟨_, _, _, _, gL_X12_feed, rfl, by decide +kernel, by decide⟩
theorem kv_law_X12_field : KV RL lw_tbl room_1 44 RX12 yX12_field wsX12_field (rmz 7) 0 := ⟨_, _, _, _, gL_X12_field, rfl, by decide +kernel, by decide⟩
theorem kv_law_X12_image : KV RL lw_tbl room_1 139 RX12 yX12_image wsX12_image (rmz 0) 0 := ⟨_, _, _, _, gL_X12_image, rfl, by decide +kernel, by decide⟩
theorem kv_law_X12_item : KV RL lw_tbl room_1 170 RX12 yX12_item wsX12_item (rmz 2) 3 := ⟨_, _, _, _, gL_X12_item, rfl, by decide +kernel, by decide⟩
theorem kv_law_X12_judge : KV RL lw_tbl room_1 135 RX12 yX12_judge wsX12_judge (rmz 2) 2 := ⟨_, _, _, _, gL_X12_judge, rfl, by decide +kernel, by decide⟩
theorem kv_law_X12_looked : KV RL lw_tbl room_1 131 RX12 yX12_looked wsX12_looked (rmz 7) 0 := ⟨_, _, _, _, gL_X12_looked, rfl, by decide +kernel, by decide⟩
theorem kv_law_X12_mean : KV RL lw_tbl room_1 115 RX12 yX12_mean wsX12_mean (rmz 9) 2 := ⟨_, _, _, _, gL_X12_mean, rfl, by decide +kernel, by decide⟩
theorem kv_law_X12_minute : KV RL lw_tbl room_1 52 RX12 yX12_minute wsX12_minute (rmz 7) 0 := ⟨_, _, _, _, gL_X12_minute, rfl, by decide +kernel, by decide⟩
theorem kv_law_X12_mower : KV RL lw_tbl room_1 17 RX12 yX12_mower wsX12_mower (rmz 1) 2 := ⟨_, _, _, _, gL_X12_mower, rfl, by decide +kernel, by decide⟩
theorem kv_law_X12_odds : KV RL lw_tbl room_1 110 RX12 yX12_odds wsX12_odds (rmz 8) 3 := ⟨_, _, _, _, gL_X12_odds, rfl, by decide +kernel, by decide⟩
theorem kv_law_X12_of : KV RL lw_tbl room_1 21 RX12 yX12_of wsX12_of (rmz 6) 2 := ⟨_, _, _, _, gL_X12_of, rfl, by decide +kernel, by decide⟩
theorem kv_law_X12_on : KV RL lw_tbl room_1 64 RX12 yX12_on wsX12_on (rmz 8) 2 := ⟨_, _, _, _, gL_X12_on, rfl, by decide +kernel, by decide⟩
theorem kv_law_X12_order : KV RL lw_tbl room_1 72 RX12 yX12_order wsX12_order (rmz 9) 2 := ⟨_, _, _, _, gL_X12_order, rfl, by decide +kernel, by decide⟩
theorem kv_law_X12_pause : KV RL lw_tbl room_1 60 RX12 yX12_pause wsX12_pause (rmz 2) 1 := ⟨_, _, _, _, gL_X12_pause, rfl, by decide +kernel, by decide⟩
theorem kv_law_X12_paused : KV RL lw_tbl room_1 97 RX12 yX12_paused wsX12_paused (rmz 8) 2 := ⟨_, _, _, _, gL_X12_paused, rfl, by decide +kernel, by decide⟩
theorem kv_law_X12_place : KV RL lw_tbl room_1 34 RX12 yX12_place wsX12_place (rmz 2) 2 := ⟨_, _, _, _, gL_X12_place, rfl, by decide +kernel, by decide⟩
theorem kv_law_X12_plan : KV RL lw_tbl room_1 119 RX12 yX12_plan wsX12_plan (rmz 1) 1 := ⟨_, _, _, _, gL_X12_plan, rfl, by decide +kernel, by decide⟩
theorem kv_law_X12_planned : KV RL lw_tbl room_1 123 RX12 yX12_planned wsX12_planned (rmz 8) 0 := ⟨_, _, _, _, gL_X12_planned, rfl, by decide +kernel, by decide⟩
theorem kv_law_X12_read : KV RL lw_tbl room_1 174 RX12 yX12_read wsX12_read (rmz 2) 2 := ⟨_, _, _, _, gL_X12_read, rfl, by decide +kernel, by decide⟩
theorem kv_law_X12_rest : KV RL lw_tbl room_1 93 RX12 yX12_rest wsX12_rest (rmz 9) 2 := ⟨_, _, _, _, gL_X12_rest, rfl, by decide +kernel, by decide⟩
theorem kv_law_X12_row : KV RL lw_tbl room_1 30 RX12 yX12_row wsX12_row (rmz 2) 3 := ⟨_, _, _, _, gL_X12_row, rfl, by decide +kernel, by decide⟩
theorem kv_law_X12_see : KV RL lw_tbl room_1 101 RX12 yX12_see wsX12_see (rmz 2) 3 := ⟨_, _, _, _, gL_X12_see, rfl, by decide +kernel, by decide⟩
theorem kv_law_X12_set : KV RL lw_tbl room_1 26 RX12 yX12_set wsX12_set (rmz 2) 3 := ⟨_, _, _, _, gL_X12_set, rfl, by decide +kernel, by decide⟩
theorem kv_law_X12_shift : KV RL lw_tbl room_1 179 RX12 yX12_shift wsX12_shift (rmz 2) 5 := ⟨_, _, _, _, gL_X12_shift, rfl, by decide +kernel, by decide⟩
theorem kv_law_X12_stop : KV RL lw_tbl room_1 85 RX12 yX12_stop wsX12_stop (rmz 8) 4 := ⟨_, _, _, _, gL_X12_stop, rfl, by decide +kernel, by decide⟩
theorem kv_law_X12_taken : KV RL lw_tbl room_1 155 RX12 yX12_taken wsX12_taken (rmz 2) 2 := ⟨_, _, _, _, gL_X12_taken, rfl, by decide +kernel, by decide⟩
theorem kv_law_X12_tape : KV RL lw_tbl room_1 163 RX12 yX12_tape wsX12_tape (rmz 2) 3 := ⟨_, _, _, _, gL_X12_tape, rfl, by decide +kernel, by decide⟩
theorem kv_law_X12_told : KV RL lw_tbl room_1 48 RX12 yX12_told wsX12_told (rmz 3) 1 := ⟨_, _, _, _, gL_X12_told, rfl, by decide +kernel, by decide⟩
theorem kv_law_X12_trace : KV RL lw_tbl room_1 151 RX12 yX12_trace wsX12_trace (rmz 1) 1 := ⟨_, _, _, _, gL_X12_trace, rfl, by decide +kernel, by decide⟩
theorem kv_law_X12_undo : KV RL lw_tbl room_1 143 RX12 yX12_undo wsX12_undo (rmz 0) 0 := ⟨_, _, _, _, gL_X12_undo, rfl, by decide +kernel, by decide⟩
theorem kv_law_X12_whet : KV RL lw_tbl room_1 56 RX12 yX12_whet wsX12_whet (rmz 2) 0 := ⟨_, _, _, _, gL_X12_whet, rfl, by decide +kernel, by decide⟩
theorem kv_law_X12_whets : KV RL lw_tbl room_1 76 RX12 yX12_whets wsX12_whets (rmz 9) 2 := ⟨_, _, _, _, gL_X12_whets, rfl, by decide +kernel, by decide⟩
theorem kv_law_X12_who : KV RL lw_tbl room_1 105 RX12 yX12_who wsX12_who (rmz 9) 0 := ⟨_, _, _, _, gL_X12_who, rfl, by decide +kernel, by decide⟩
set_option maxHeartbeats 4000000 in
theorem lwd_0 {M : Mx} {L : Nat} {xs : Nat → Int32} {j : Nat} {σ : Sg} {kn : Nat × Nat} {i r : Int32} (S : LSt M L xs (j + 1) σ kn) (hq : ∀ (r9 : Int32) (σ9 : Sg), (Fr [74, 103, 104, 105, 106, 107, 108, 109, 110] [0, 2] σ σ9) → ((gi σ9 74 0).toInt = (gi σ 74 0).toInt ∨ (gi σ9 74 0).toInt = (gi σ 74 0).toInt + 1) → ((((xs (i + 1).toNatClampNeg).toInt < 0 ∨ 6 < (xs (i + 1).toNatClampNeg).toInt) → r9.toInt = -1 ∧ (gi σ9 74 0).toInt = (gi σ 74 0).toInt) ∧ (0 ≤ (xs (i + 1).toNatClampNeg).toInt → (xs (i + 1).toNatClampNeg).toInt ≤ 6 → (((xs (i + 2).toNatClampNeg).toInt < 0 ∨ 9 < (xs (i + 2).toNatClampNeg).toInt) → r9.toInt = -2 ∧ (gi σ9 74 0).toInt = (gi σ 74 0).toInt) ∧ (0 ≤ (xs (i + 2).toNatClampNeg).toInt → (xs (i + 2).toNatClampNeg).toInt ≤ 9 → (6 ≤ (gi σ 74 0).toInt → r9.toInt = -4 ∧ (gi σ9 74 0).toInt = (gi σ 74 0).toInt) ∧ ((gi σ 74 0).toInt < 6 → r9.toInt = (gi σ 74 0).toInt ∧ (gi σ9 74 0).toInt = (gi σ 74 0).toInt + 1)))) → (F_X12_mower (xs (i + 1).toNatClampNeg) (xs (i + 2).toNatClampNeg) σ = (r9, σ9)) → REL σ9 ∧ r = r9) (hi : i.toInt = 6 * (j : Int)) (hL : 6 * j + 6 ≤ L) (h3 : L ≤ 3072) (next : ∀ M2 σ2 kn2, LSt M2 L xs (j + 1) σ2 kn2 → REL σ2 → PS M2 1381 (lwv i) [] σ2 kn2) : PS M 218 (lwv i) [.int r] σ kn := by
  obtain ⟨C, hS, hI, hU, hN0, hw, hk1, hk2, hN⟩ := id S
  refine P_pop C dL_law_218 rfl ?_
  refine P_aload_n C dL_law_219 2 rfl ?_
  refine P_cell C hS (n := 1) rfl dL_law_220 dL_law_221 dL_law_222 dL_law_223 dL_law_224 rfl rfl (lw_in hi hL h3 (by decide) (by decide)) ?_
  refine P_cell C hS (n := 2) rfl dL_law_225 dL_law_226 dL_law_227 dL_law_228 dL_law_229 rfl rfl (lw_in hi hL h3 (by decide) (by decide)) ?_
  refine P_ci (R_v (ci := 12) C kv_law_X12_mower (As := [.int (xs (i + 1).toNatClampNeg), .int (xs (i + 2).toNatClampNeg)]) rfl kd_74 rfl (fxl fx_74) (Nat.le_of_ble_eq_true rfl) dL_law_230 ⟨by show kn.1 + 0 ≤ 600000; omega, by show kn.2 + 0 ≤ 7302250; omega⟩ (L3_X12_mower (Qk := fun r9 σ9 => INV (mV M) σ9 ∧ (Fr [74, 103, 104, 105, 106, 107, 108, 109, 110] [0, 2] σ σ9) ∧ ((gi σ9 74 0).toInt = (gi σ 74 0).toInt ∨ (gi σ9 74 0).toInt = (gi σ 74 0).toInt + 1) ∧ ((((xs (i + 1).toNatClampNeg).toInt < 0 ∨ 6 < (xs (i + 1).toNatClampNeg).toInt) → r9.toInt = -1 ∧ (gi σ9 74 0).toInt = (gi σ 74 0).toInt) ∧ (0 ≤ (xs (i + 1).toNatClampNeg).toInt → (xs (i + 1).toNatClampNeg).toInt ≤ 6 → (((xs (i + 2).toNatClampNeg).toInt < 0 ∨ 9 < (xs (i + 2).toNatClampNeg).toInt) → r9.toInt = -2 ∧ (gi σ9 74 0).toInt = (gi σ 74 0).toInt) ∧ (0 ≤ (xs (i + 2).toNatClampNeg).toInt → (xs (i + 2).toNatClampNeg).toInt ≤ 9 → (6 ≤ (gi σ 74 0).toInt → r9.toInt = -4 ∧ (gi σ9 74 0).toInt = (gi σ 74 0).toInt) ∧ ((gi σ 74 0).toInt < 6 → r9.toInt = (gi σ 74 0).toInt ∧ (gi σ9 74 0).toInt = (gi σ 74 0).toInt + 1)))) ∧ (F_X12_mower (xs (i + 1).toNatClampNeg) (xs (i + 2).toNatClampNeg) σ = (r9, σ9))) hI (fun _ _ h g0 g1 g2 g3 => ⟨h, g0, g1, g2, g3⟩))) ?_
  rintro r2 σ2 ⟨hI2, e2_0, e2_1, e2_2, e2_3⟩
  refine P_pop C dL_law_233 rfl ?_
  refine P_goto C (tgt := 1381) dL_law_234 (by decide) ?_
  exact next M σ2 _ ⟨C, hS, hI2, hU, hN0, hw, hk1, hk2, hN⟩ (hq r2 σ2 e2_0 e2_1 e2_2 e2_3).1
set_option maxHeartbeats 4000000 in
theorem lwd_6 {M : Mx} {L : Nat} {xs : Nat → Int32} {j : Nat} {σ : Sg} {kn : Nat × Nat} {i r : Int32} (S : LSt M L xs (j + 1) σ kn) (hq : ∀ (r9 : Int32) (σ9 : Sg), (Fr [74, 117, 118, 119, 120, 121, 122, 123] [11, 12, 13, 14, 15, 24, 25, 26] σ σ9) → ((gi σ9 74 12).toInt < (gi σ9 74 11).toInt) → ((gi σ9 74 50).toInt < (gi σ9 74 11).toInt) → REL σ9) (hi : i.toInt = 6 * (j : Int)) (hL : 6 * j + 6 ≤ L) (h3 : L ≤ 3072) (next : ∀ M2 σ2 kn2, LSt M2 L xs (j + 1) σ2 kn2 → REL σ2 → PS M2 1381 (lwv i) [] σ2 kn2) : PS M 416 (lwv i) [.int r] σ kn := by
  obtain ⟨C, hS, hI, hU, hN0, hw, hk1, hk2, hN⟩ := id S
  refine P_pop C dL_law_416 rfl ?_
  refine P_aload_n C dL_law_417 2 rfl ?_
  refine P_ci (R_v (ci := 12) C kv_law_X12_field (As := []) rfl kd_74 rfl (fxl fx_74) (Nat.le_of_ble_eq_true rfl) dL_law_418 ⟨by show kn.1 + 0 ≤ 600000; omega, by show kn.2 + 0 ≤ 7302250; omega⟩ (L3_X12_field (Qk := fun r9 σ9 => INV (mV M) σ9 ∧ (Fr [74, 117, 118, 119, 120, 121, 122, 123] [11, 12, 13, 14, 15, 24, 25, 26] σ σ9) ∧ ((gi σ9 74 12).toInt < (gi σ9 74 11).toInt) ∧ ((gi σ9 74 50).toInt < (gi σ9 74 11).toInt)) hI (fun _ _ h g0 g1 g2 => ⟨h, g0, g1, g2⟩))) ?_
  rintro r2 σ2 ⟨hI2, e2_0, e2_1, e2_2⟩
  refine P_pop C dL_law_421 rfl ?_
  refine P_goto C (tgt := 1381) dL_law_422 (by decide) ?_
  exact next M σ2 _ ⟨C, hS, hI2, hU, hN0, hw, hk1, hk2, hN⟩ (hq r2 σ2 e2_0 e2_1 e2_2)
set_option maxHeartbeats 4000000 in
theorem lwc_0 {M : Mx} {L : Nat} {xs : Nat → Int32} {j : Nat} {σ : Sg} {kn : Nat × Nat} {i : Int32} (S : LSt M L xs j σ kn) (hc : REL σ) (hi : i.toInt = 6 * (j : Int)) (hL : 6 * j + 6 ≤ L) (h3 : L ≤ 3072) (next : ∀ M2 σ2 kn2, LSt M2 L xs (j + 1) σ2 kn2 → REL σ2 → PS M2 1381 (lwv i) [] σ2 kn2) : PS M 204 (lwv i) [] σ kn := by
  obtain ⟨C, hS, hI, hU, hN0, hw, hk1, hk2, hN⟩ := id S
  refine P_aload_n C dL_law_204 1 rfl ?_
  refine P_cell C hS (n := 1) rfl dL_law_205 dL_law_206 dL_law_207 dL_law_208 dL_law_209 rfl rfl (lw_in hi hL h3 (by decide) (by decide)) ?_
  refine P_cell C hS (n := 2) rfl dL_law_210 dL_law_211 dL_law_212 dL_law_213 dL_law_214 rfl rfl (lw_in hi hL h3 (by decide) (by decide)) ?_
  refine P_ciW (R_v (ci := 11) C kv_law_X11_mower (As := [.int (xs (i + 1).toNatClampNeg), .int (xs (i + 2).toNatClampNeg)]) rfl kd_0 rfl (fxl fx_0) (Nat.le_of_ble_eq_true rfl) dL_law_215 (LS_k S (by omega) (Nat.le_of_ble_eq_true rfl) (Nat.le_of_ble_eq_true rfl)) (L3_X11_mower hU hw hI)) (lwv_lo i) (fun _ V2 σ2 h9 => h9.1) ?_
  rintro r1 V2 σ1 ⟨hv, hw2, hI1, e1_0, e1_1, e1_2⟩
  have S2 := LS_v (kn' := (kn.1 + 1, kn.2 + 3)) S hv hw2 hI1 (by show kn.1 + 1 ≤ _; omega) (by show kn.2 + 3 ≤ _; omega)
  refine lwd_0 S2 (fun r9 σ9 g0 g1 g2 g3 => RC_mower hc hI e1_0 e1_1 e1_2 g0 g1 g2 g3) hi (by omega) (by omega) next
set_option maxHeartbeats 4000000 in
theorem lwc_1 {M : Mx} {L : Nat} {xs : Nat → Int32} {j : Nat} {σ : Sg} {kn : Nat × Nat} {i : Int32} (S : LSt M L xs j σ kn) (hc : REL σ) (hi : i.toInt = 6 * (j : Int)) (hL : 6 * j + 6 ≤ L) (h3 : L ≤ 3072) (next : ∀ M2 σ2 kn2, LSt M2 L xs (j + 1) σ2 kn2 → REL σ2 → PS M2 1381 (lwv i) [] σ2 kn2) : PS M 237 (lwv i) [] σ kn := by
  obtain ⟨C, hS, hI, hU, hN0, hw, hk1, hk2, hN⟩ := id S
  refine P_aload_n C dL_law_237 1 rfl ?_
  refine P_cell C hS (n := 1) rfl dL_law_238 dL_law_239 dL_law_240 dL_law_241 dL_law_242 rfl rfl (lw_in hi hL h3 (by decide) (by decide)) ?_
  refine P_cell C hS (n := 2) rfl dL_law_243 dL_law_244 dL_law_245 dL_law_246 dL_law_247 rfl rfl (lw_in hi hL h3 (by decide) (by decide)) ?_
  refine P_ci (R_v (ci := 11) C kv_law_X11_of (As := [.int (xs (i + 1).toNatClampNeg), .int (xs (i + 2).toNatClampNeg)]) rfl kd_0 rfl (fxl fx_0) (Nat.le_of_ble_eq_true rfl) dL_law_248 (LS_k S (by omega) (Nat.le_of_ble_eq_true rfl) (Nat.le_of_ble_eq_true rfl)) (L3_X11_of (Qk := fun r9 σ9 => INV (mV M) σ9 ∧ (FX (fun id => id = 16) (fun _ _ => False) σ σ9)) hI (fun _ _ h g0 => ⟨h, g0⟩))) ?_
  rintro r1 σ1 ⟨hI1, e1_0⟩
  refine P_pop C dL_law_251 rfl ?_
  refine P_aload_n C dL_law_252 2 rfl ?_
  refine P_cell C hS (n := 1) rfl dL_law_253 dL_law_254 dL_law_255 dL_law_256 dL_law_257 rfl rfl (lw_in hi hL h3 (by decide) (by decide)) ?_
  refine P_cell C hS (n := 2) rfl dL_law_258 dL_law_259 dL_law_260 dL_law_261 dL_law_262 rfl rfl (lw_in hi hL h3 (by decide) (by decide)) ?_
  refine P_ci (R_v (ci := 12) C kv_law_X12_of (As := [.int (xs (i + 1).toNatClampNeg), .int (xs (i + 2).toNatClampNeg)]) rfl kd_74 rfl (fxl fx_74) (Nat.le_of_ble_eq_true rfl) dL_law_263 (by have h9 := LS_k S (by omega) (c := 0) (n := 0) (Nat.le_of_ble_eq_true rfl) (Nat.le_of_ble_eq_true rfl); exact h9) (L3_X12_of (Qk := fun r9 σ9 => INV (mV M) σ9 ∧ (Fr [74, 129] [30] σ1 σ9)) hI1 (fun _ _ h g0 => ⟨h, g0⟩))) ?_
  rintro r2 σ2 ⟨hI2, e2_0⟩
  refine P_pop C dL_law_266 rfl ?_
  refine P_goto C (tgt := 1381) dL_law_267 (by decide) ?_
  exact next M σ2 _ (LS_s S hI2 rfl rfl) (RC_of hc hI e1_0 e2_0)
set_option maxHeartbeats 4000000 in
theorem lwc_2 {M : Mx} {L : Nat} {xs : Nat → Int32} {j : Nat} {σ : Sg} {kn : Nat × Nat} {i : Int32} (S : LSt M L xs j σ kn) (hc : REL σ) (hi : i.toInt = 6 * (j : Int)) (hL : 6 * j + 6 ≤ L) (h3 : L ≤ 3072) (next : ∀ M2 σ2 kn2, LSt M2 L xs (j + 1) σ2 kn2 → REL σ2 → PS M2 1381 (lwv i) [] σ2 kn2) : PS M 270 (lwv i) [] σ kn := by
  obtain ⟨C, hS, hI, hU, hN0, hw, hk1, hk2, hN⟩ := id S
  refine P_aload_n C dL_law_270 1 rfl ?_
  refine P_cell C hS (n := 1) rfl dL_law_271 dL_law_272 dL_law_273 dL_law_274 dL_law_275 rfl rfl (lw_in hi hL h3 (by decide) (by decide)) ?_
  refine P_cell C hS (n := 2) rfl dL_law_276 dL_law_277 dL_law_278 dL_law_279 dL_law_280 rfl rfl (lw_in hi hL h3 (by decide) (by decide)) ?_
  refine P_cell C hS (n := 3) rfl dL_law_281 dL_law_282 dL_law_283 dL_law_284 dL_law_285 rfl rfl (lw_in hi hL h3 (by decide) (by decide)) ?_
  refine P_ci (R_v (ci := 11) C kv_law_X11_set (As := [.int (xs (i + 1).toNatClampNeg), .int (xs (i + 2).toNatClampNeg), .int (xs (i + 3).toNatClampNeg)]) rfl kd_0 rfl (fxl fx_0) (Nat.le_of_ble_eq_true rfl) dL_law_286 (LS_k S (by omega) (Nat.le_of_ble_eq_true rfl) (Nat.le_of_ble_eq_true rfl)) (L3_X11_set (Qk := fun r9 σ9 => INV (mV M) σ9 ∧ (FX (fun id => id = 4 ∨ id = 5 ∨ id = 6 ∨ id = 7) (fun _ _ => False) σ σ9)) hI (fun _ _ h g0 => ⟨h, g0⟩))) ?_
  rintro r1 σ1 ⟨hI1, e1_0⟩
  refine P_pop C dL_law_289 rfl ?_
  refine P_aload_n C dL_law_290 2 rfl ?_
  refine P_cell C hS (n := 1) rfl dL_law_291 dL_law_292 dL_law_293 dL_law_294 dL_law_295 rfl rfl (lw_in hi hL h3 (by decide) (by decide)) ?_
  refine P_cell C hS (n := 2) rfl dL_law_296 dL_law_297 dL_law_298 dL_law_299 dL_law_300 rfl rfl (lw_in hi hL h3 (by decide) (by decide)) ?_
  refine P_cell C hS (n := 3) rfl dL_law_301 dL_law_302 dL_law_303 dL_law_304 dL_law_305 rfl rfl (lw_in hi hL h3 (by decide) (by decide)) ?_
  refine P_ci (R_v (ci := 12) C kv_law_X12_set (As := [.int (xs (i + 1).toNatClampNeg), .int (xs (i + 2).toNatClampNeg), .int (xs (i + 3).toNatClampNeg)]) rfl kd_74 rfl (fxl fx_74) (Nat.le_of_ble_eq_true rfl) dL_law_306 (by have h9 := LS_k S (by omega) (c := 0) (n := 0) (Nat.le_of_ble_eq_true rfl) (Nat.le_of_ble_eq_true rfl); exact h9) (L3_X12_set (Qk := fun r9 σ9 => INV (mV M) σ9 ∧ (Fr [105, 106, 107, 108] [] σ1 σ9)) hI1 (fun _ _ h g0 => ⟨h, g0⟩))) ?_
  rintro r2 σ2 ⟨hI2, e2_0⟩
  refine P_pop C dL_law_309 rfl ?_
  refine P_goto C (tgt := 1381) dL_law_310 (by decide) ?_
  exact next M σ2 _ (LS_s S hI2 rfl rfl) (RC_set hc hI e1_0 e2_0)
set_option maxHeartbeats 4000000 in
theorem lwc_3 {M : Mx} {L : Nat} {xs : Nat → Int32} {j : Nat} {σ : Sg} {kn : Nat × Nat} {i : Int32} (S : LSt M L xs j σ kn) (hc : REL σ) (hi : i.toInt = 6 * (j : Int)) (hL : 6 * j + 6 ≤ L) (h3 : L ≤ 3072) (next : ∀ M2 σ2 kn2, LSt M2 L xs (j + 1) σ2 kn2 → REL σ2 → PS M2 1381 (lwv i) [] σ2 kn2) : PS M 313 (lwv i) [] σ kn := by
  obtain ⟨C, hS, hI, hU, hN0, hw, hk1, hk2, hN⟩ := id S
  refine P_aload_n C dL_law_313 1 rfl ?_
  refine P_cell C hS (n := 1) rfl dL_law_314 dL_law_315 dL_law_316 dL_law_317 dL_law_318 rfl rfl (lw_in hi hL h3 (by decide) (by decide)) ?_
  refine P_cell C hS (n := 2) rfl dL_law_319 dL_law_320 dL_law_321 dL_law_322 dL_law_323 rfl rfl (lw_in hi hL h3 (by decide) (by decide)) ?_
  refine P_cell C hS (n := 3) rfl dL_law_324 dL_law_325 dL_law_326 dL_law_327 dL_law_328 rfl rfl (lw_in hi hL h3 (by decide) (by decide)) ?_
  refine P_ci (R_v (ci := 11) C kv_law_X11_row (As := [.int (xs (i + 1).toNatClampNeg), .int (xs (i + 2).toNatClampNeg), .int (xs (i + 3).toNatClampNeg)]) rfl kd_0 rfl (fxl fx_0) (Nat.le_of_ble_eq_true rfl) dL_law_329 (LS_k S (by omega) (Nat.le_of_ble_eq_true rfl) (Nat.le_of_ble_eq_true rfl)) (L3_X11_row (Qk := fun r9 σ9 => INV (mV M) σ9 ∧ (FX (fun id => id = 8) (fun _ _ => False) σ σ9) ∧ (F_X11_row (xs (i + 1).toNatClampNeg) (xs (i + 2).toNatClampNeg) (xs (i + 3).toNatClampNeg) σ = (r9, σ9))) hI (fun _ _ h g0 g1 => ⟨h, g0, g1⟩))) ?_
  rintro r1 σ1 ⟨hI1, e1_0, e1_1⟩
  refine P_pop C dL_law_332 rfl ?_
  refine P_aload_n C dL_law_333 2 rfl ?_
  refine P_cell C hS (n := 1) rfl dL_law_334 dL_law_335 dL_law_336 dL_law_337 dL_law_338 rfl rfl (lw_in hi hL h3 (by decide) (by decide)) ?_
  refine P_cell C hS (n := 2) rfl dL_law_339 dL_law_340 dL_law_341 dL_law_342 dL_law_343 rfl rfl (lw_in hi hL h3 (by decide) (by decide)) ?_
  refine P_cell C hS (n := 3) rfl dL_law_344 dL_law_345 dL_law_346 dL_law_347 dL_law_348 rfl rfl (lw_in hi hL h3 (by decide) (by decide)) ?_
  refine P_ci (R_v (ci := 12) C kv_law_X12_row (As := [.int (xs (i + 1).toNatClampNeg), .int (xs (i + 2).toNatClampNeg), .int (xs (i + 3).toNatClampNeg)]) rfl kd_74 rfl (fxl fx_74) (Nat.le_of_ble_eq_true rfl) dL_law_349 (by have h9 := LS_k S (by omega) (c := 0) (n := 0) (Nat.le_of_ble_eq_true rfl) (Nat.le_of_ble_eq_true rfl); exact h9) (L3_X12_row (Qk := fun r9 σ9 => INV (mV M) σ9 ∧ (Fr [109] [] σ1 σ9) ∧ (F_X12_row (xs (i + 1).toNatClampNeg) (xs (i + 2).toNatClampNeg) (xs (i + 3).toNatClampNeg) σ1 = (r9, σ9))) hI1 (fun _ _ h g0 g1 => ⟨h, g0, g1⟩))) ?_
  rintro r2 σ2 ⟨hI2, e2_0, e2_1⟩
  refine P_pop C dL_law_352 rfl ?_
  refine P_goto C (tgt := 1381) dL_law_353 (by decide) ?_
  exact next M σ2 _ (LS_s S hI2 rfl rfl) (RC_row hc hI e1_0 e1_1 e2_0 e2_1).1
set_option maxHeartbeats 4000000 in
theorem lwc_4 {M : Mx} {L : Nat} {xs : Nat → Int32} {j : Nat} {σ : Sg} {kn : Nat × Nat} {i : Int32} (S : LSt M L xs j σ kn) (hc : REL σ) (hi : i.toInt = 6 * (j : Int)) (hL : 6 * j + 6 ≤ L) (h3 : L ≤ 3072) (next : ∀ M2 σ2 kn2, LSt M2 L xs (j + 1) σ2 kn2 → REL σ2 → PS M2 1381 (lwv i) [] σ2 kn2) : PS M 356 (lwv i) [] σ kn := by
  obtain ⟨C, hS, hI, hU, hN0, hw, hk1, hk2, hN⟩ := id S
  refine P_aload_n C dL_law_356 1 rfl ?_
  refine P_cell C hS (n := 1) rfl dL_law_357 dL_law_358 dL_law_359 dL_law_360 dL_law_361 rfl rfl (lw_in hi hL h3 (by decide) (by decide)) ?_
  refine P_cell C hS (n := 2) rfl dL_law_362 dL_law_363 dL_law_364 dL_law_365 dL_law_366 rfl rfl (lw_in hi hL h3 (by decide) (by decide)) ?_
  refine P_ci (R_v (ci := 11) C kv_law_X11_place (As := [.int (xs (i + 1).toNatClampNeg), .int (xs (i + 2).toNatClampNeg)]) rfl kd_0 rfl (fxl fx_0) (Nat.le_of_ble_eq_true rfl) dL_law_367 (LS_k S (by omega) (Nat.le_of_ble_eq_true rfl) (Nat.le_of_ble_eq_true rfl)) (L3_X11_place (Qk := fun r9 σ9 => INV (mV M) σ9 ∧ (FX (fun id => id = 3) (fun _ _ => False) σ σ9) ∧ (F_X11_place (xs (i + 1).toNatClampNeg) (xs (i + 2).toNatClampNeg) σ = (r9, σ9))) hI (fun _ _ h g0 g1 => ⟨h, g0, g1⟩))) ?_
  rintro r1 σ1 ⟨hI1, e1_0, e1_1⟩
  refine P_pop C dL_law_370 rfl ?_
  refine P_aload_n C dL_law_371 2 rfl ?_
  refine P_cell C hS (n := 1) rfl dL_law_372 dL_law_373 dL_law_374 dL_law_375 dL_law_376 rfl rfl (lw_in hi hL h3 (by decide) (by decide)) ?_
  refine P_cell C hS (n := 2) rfl dL_law_377 dL_law_378 dL_law_379 dL_law_380 dL_law_381 rfl rfl (lw_in hi hL h3 (by decide) (by decide)) ?_
  refine P_ci (R_v (ci := 12) C kv_law_X12_place (As := [.int (xs (i + 1).toNatClampNeg), .int (xs (i + 2).toNatClampNeg)]) rfl kd_74 rfl (fxl fx_74) (Nat.le_of_ble_eq_true rfl) dL_law_382 (by have h9 := LS_k S (by omega) (c := 0) (n := 0) (Nat.le_of_ble_eq_true rfl) (Nat.le_of_ble_eq_true rfl); exact h9) (L3_X12_place (Qk := fun r9 σ9 => INV (mV M) σ9 ∧ (Fr [110] [] σ1 σ9) ∧ (F_X12_place (xs (i + 1).toNatClampNeg) (xs (i + 2).toNatClampNeg) σ1 = (r9, σ9))) hI1 (fun _ _ h g0 g1 => ⟨h, g0, g1⟩))) ?_
  rintro r2 σ2 ⟨hI2, e2_0, e2_1⟩
  refine P_pop C dL_law_385 rfl ?_
  refine P_goto C (tgt := 1381) dL_law_386 (by decide) ?_
  exact next M σ2 _ (LS_s S hI2 rfl rfl) (RC_place hc hI e1_0 e1_1 e2_0 e2_1).1
set_option maxHeartbeats 4000000 in
theorem lwc_5 {M : Mx} {L : Nat} {xs : Nat → Int32} {j : Nat} {σ : Sg} {kn : Nat × Nat} {i : Int32} (S : LSt M L xs j σ kn) (hc : REL σ) (hi : i.toInt = 6 * (j : Int)) (hL : 6 * j + 6 ≤ L) (h3 : L ≤ 3072) (next : ∀ M2 σ2 kn2, LSt M2 L xs (j + 1) σ2 kn2 → REL σ2 → PS M2 1381 (lwv i) [] σ2 kn2) : PS M 389 (lwv i) [] σ kn := by
  obtain ⟨C, hS, hI, hU, hN0, hw, hk1, hk2, hN⟩ := id S
  refine P_aload_n C dL_law_389 1 rfl ?_
  refine P_cell C hS (n := 1) rfl dL_law_390 dL_law_391 dL_law_392 dL_law_393 dL_law_394 rfl rfl (lw_in hi hL h3 (by decide) (by decide)) ?_
  refine P_ci (R_v (ci := 11) C kv_law_X11_feed (As := [.int (xs (i + 1).toNatClampNeg)]) rfl kd_0 rfl (fxl fx_0) (Nat.le_of_ble_eq_true rfl) dL_law_395 (LS_k S (by omega) (Nat.le_of_ble_eq_true rfl) (Nat.le_of_ble_eq_true rfl)) (L3_X11_feed (Qk := fun r9 σ9 => INV (mV M) σ9 ∧ (FX (fun id => id = 50) (fun id k => (id = 0 ∧ k = 7)) σ σ9)) hI (fun _ _ h g0 => ⟨h, g0⟩))) ?_
  rintro r1 σ1 ⟨hI1, e1_0⟩
  refine P_pop C dL_law_398 rfl ?_
  refine P_aload_n C dL_law_399 2 rfl ?_
  refine P_cell C hS (n := 1) rfl dL_law_400 dL_law_401 dL_law_402 dL_law_403 dL_law_404 rfl rfl (lw_in hi hL h3 (by decide) (by decide)) ?_
  refine P_ci (R_v (ci := 12) C kv_law_X12_feed (As := [.int (xs (i + 1).toNatClampNeg)]) rfl kd_74 rfl (fxl fx_74) (Nat.le_of_ble_eq_true rfl) dL_law_405 (by have h9 := LS_k S (by omega) (c := 0) (n := 0) (Nat.le_of_ble_eq_true rfl) (Nat.le_of_ble_eq_true rfl); exact h9) (L3_X12_feed (Qk := fun r9 σ9 => INV (mV M) σ9 ∧ (Fr [74, 116] [13] σ1 σ9)) hI1 (fun _ _ h g0 => ⟨h, g0⟩))) ?_
  rintro r2 σ2 ⟨hI2, e2_0⟩
  refine P_pop C dL_law_408 rfl ?_
  refine P_goto C (tgt := 1381) dL_law_409 (by decide) ?_
  exact next M σ2 _ (LS_s S hI2 rfl rfl) (RC_feed hc hI e1_0 e2_0)
set_option maxHeartbeats 4000000 in
theorem lwc_6 {M : Mx} {L : Nat} {xs : Nat → Int32} {j : Nat} {σ : Sg} {kn : Nat × Nat} {i : Int32} (S : LSt M L xs j σ kn) (hc : REL σ) (hi : i.toInt = 6 * (j : Int)) (hL : 6 * j + 6 ≤ L) (h3 : L ≤ 3072) (next : ∀ M2 σ2 kn2, LSt M2 L xs (j + 1) σ2 kn2 → REL σ2 → PS M2 1381 (lwv i) [] σ2 kn2) : PS M 412 (lwv i) [] σ kn := by
  obtain ⟨C, hS, hI, hU, hN0, hw, hk1, hk2, hN⟩ := id S
  refine P_aload_n C dL_law_412 1 rfl ?_
  refine P_ciW (R_vN (ci := 11) C hN0 kv_law_X11_field (As := []) rfl kd_0 rfl (fxl fx_0) (Nat.le_of_ble_eq_true rfl) dL_law_413 (LS_k S (by omega) (Nat.le_of_ble_eq_true rfl) (Nat.le_of_ble_eq_true rfl)) (L3_X11_field hU hw hI)) (lwv_lo i) (fun _ V2 σ2 h9 => h9.1) ?_
  rintro r1 V2 σ1 ⟨hv, hw2, hI1, e1_0⟩
  have S2 := LS_v (kn' := (kn.1 + 5, kn.2 + 142)) S hv hw2 hI1 (by show kn.1 + 5 ≤ _; omega) (by show kn.2 + 142 ≤ _; omega)
  refine lwd_6 S2 (fun r9 σ9 g0 g1 g2 => RC_field hc hI e1_0 g0 g1 g2) hi (by omega) (by omega) next
set_option maxHeartbeats 4000000 in
theorem lwc_7 {M : Mx} {L : Nat} {xs : Nat → Int32} {j : Nat} {σ : Sg} {kn : Nat × Nat} {i : Int32} (S : LSt M L xs j σ kn) (hc : REL σ) (hi : i.toInt = 6 * (j : Int)) (hL : 6 * j + 6 ≤ L) (h3 : L ≤ 3072) (next : ∀ M2 σ2 kn2, LSt M2 L xs (j + 1) σ2 kn2 → REL σ2 → PS M2 1381 (lwv i) [] σ2 kn2) : PS M 425 (lwv i) [] σ kn := by
  obtain ⟨C, hS, hI, hU, hN0, hw, hk1, hk2, hN⟩ := id S
  refine P_aload_n C dL_law_425 1 rfl ?_
  refine P_cell C hS (n := 1) rfl dL_law_426 dL_law_427 dL_law_428 dL_law_429 dL_law_430 rfl rfl (lw_in hi hL h3 (by decide) (by decide)) ?_
  refine P_ci (R_v (ci := 11) C kv_law_X11_told (As := [.int (xs (i + 1).toNatClampNeg)]) rfl kd_0 rfl (fxl fx_0) (Nat.le_of_ble_eq_true rfl) dL_law_431 (LS_k S (by omega) (Nat.le_of_ble_eq_true rfl) (Nat.le_of_ble_eq_true rfl)) (L3_X11_told (Qk := fun r9 σ9 => INV (mV M) σ9 ∧ (FX (fun id => False) (fun _ _ => False) σ σ9)) hI (fun _ _ h g0 => ⟨h, g0⟩))) ?_
  rintro r1 σ1 ⟨hI1, e1_0⟩
  refine P_pop C dL_law_434 rfl ?_
  refine P_aload_n C dL_law_435 2 rfl ?_
  refine P_cell C hS (n := 1) rfl dL_law_436 dL_law_437 dL_law_438 dL_law_439 dL_law_440 rfl rfl (lw_in hi hL h3 (by decide) (by decide)) ?_
  refine P_ci (R_v (ci := 12) C kv_law_X12_told (As := [.int (xs (i + 1).toNatClampNeg)]) rfl kd_74 rfl (fxl fx_74) (Nat.le_of_ble_eq_true rfl) dL_law_441 (by have h9 := LS_k S (by omega) (c := 0) (n := 0) (Nat.le_of_ble_eq_true rfl) (Nat.le_of_ble_eq_true rfl); exact h9) (L3_X12_told (Qk := fun r9 σ9 => INV (mV M) σ9 ∧ (Fr [] [] σ1 σ9)) hI1 (fun _ _ h g0 => ⟨h, g0⟩))) ?_
  rintro r2 σ2 ⟨hI2, e2_0⟩
  refine P_pop C dL_law_444 rfl ?_
  refine P_goto C (tgt := 1381) dL_law_445 (by decide) ?_
  exact next M σ2 _ (LS_s S hI2 rfl rfl) (RC_told hc hI e1_0 e2_0)
set_option maxHeartbeats 4000000 in
theorem lwc_8 {M : Mx} {L : Nat} {xs : Nat → Int32} {j : Nat} {σ : Sg} {kn : Nat × Nat} {i : Int32} (S : LSt M L xs j σ kn) (hc : REL σ) (hi : i.toInt = 6 * (j : Int)) (hL : 6 * j + 6 ≤ L) (h3 : L ≤ 3072) (next : ∀ M2 σ2 kn2, LSt M2 L xs (j + 1) σ2 kn2 → REL σ2 → PS M2 1381 (lwv i) [] σ2 kn2) : PS M 448 (lwv i) [] σ kn := by
  obtain ⟨C, hS, hI, hU, hN0, hw, hk1, hk2, hN⟩ := id S
  refine P_aload_n C dL_law_448 1 rfl ?_
  refine P_ci (R_v (ci := 11) C kv_law_X11_minute (As := []) rfl kd_0 rfl (fxl fx_0) (Nat.le_of_ble_eq_true rfl) dL_law_449 (LS_k S (by omega) (Nat.le_of_ble_eq_true rfl) (Nat.le_of_ble_eq_true rfl)) (L3_X11_minute (Qk := fun r9 σ9 => INV (mV M) σ9 ∧ (FX (fun id => id = 15 ∨ id = 16 ∨ id = 4 ∨ id = 5 ∨ id = 6 ∨ id = 7) (fun id k => (id = 1 ∧ k = 9)) σ σ9) ∧ ((gi σ9 1 9).toInt ≤ 9999) ∧ (MNA (gi σ 1 9) (gi σ9 1 9))) hI (fun _ _ h g0 g1 g2 => ⟨h, g0, g1, g2⟩))) ?_
  rintro r1 σ1 ⟨hI1, e1_0, e1_1, e1_2⟩
  refine P_pop C dL_law_452 rfl ?_
  refine P_aload_n C dL_law_453 2 rfl ?_
  refine P_ci (R_v (ci := 12) C kv_law_X12_minute (As := []) rfl kd_74 rfl (fxl fx_74) (Nat.le_of_ble_eq_true rfl) dL_law_454 (by have h9 := LS_k S (by omega) (c := 0) (n := 0) (Nat.le_of_ble_eq_true rfl) (Nat.le_of_ble_eq_true rfl); exact h9) (L3_X12_minute (Qk := fun r9 σ9 => INV (mV M) σ9 ∧ (Fr [74, 105, 106, 107, 108, 129, 131, 132] [1, 30] σ1 σ9) ∧ ((gi σ9 74 1).toInt ≤ 9999) ∧ (MNA (gi σ1 74 1) (gi σ9 74 1))) hI1 (fun _ _ h g0 g1 g2 => ⟨h, g0, g1, g2⟩))) ?_
  rintro r2 σ2 ⟨hI2, e2_0, e2_1, e2_2⟩
  refine P_pop C dL_law_457 rfl ?_
  refine P_goto C (tgt := 1381) dL_law_458 (by decide) ?_
  exact next M σ2 _ (LS_s S hI2 rfl rfl) (RC_minute hc hI e1_0 e1_1 e1_2 e2_0 e2_1 e2_2)
set_option maxHeartbeats 4000000 in
theorem lwc_9 {M : Mx} {L : Nat} {xs : Nat → Int32} {j : Nat} {σ : Sg} {kn : Nat × Nat} {i : Int32} (S : LSt M L xs j σ kn) (hc : REL σ) (hi : i.toInt = 6 * (j : Int)) (hL : 6 * j + 6 ≤ L) (h3 : L ≤ 3072) (next : ∀ M2 σ2 kn2, LSt M2 L xs (j + 1) σ2 kn2 → REL σ2 → PS M2 1381 (lwv i) [] σ2 kn2) : PS M 461 (lwv i) [] σ kn := by
  obtain ⟨C, hS, hI, hU, hN0, hw, hk1, hk2, hN⟩ := id S
  refine P_aload_n C dL_law_461 1 rfl ?_
  refine P_ci (R_v (ci := 11) C kv_law_X11_whet (As := []) rfl kd_0 rfl (fxl fx_0) (Nat.le_of_ble_eq_true rfl) dL_law_462 (LS_k S (by omega) (Nat.le_of_ble_eq_true rfl) (Nat.le_of_ble_eq_true rfl)) (L3_X11_whet (Qk := fun r9 σ9 => INV (mV M) σ9 ∧ (FX (fun id => id = 5 ∨ id = 6 ∨ id = 7) (fun id k => (id = 1 ∧ k = 9)) σ σ9) ∧ ((gi σ9 1 9).toInt ≤ 9999) ∧ (WHA r9 (gi σ 1 9) (gi σ9 1 9))) hI (fun _ _ h g0 g1 g2 => ⟨h, g0, g1, g2⟩))) ?_
  rintro r1 σ1 ⟨hI1, e1_0, e1_1, e1_2⟩
  refine P_pop C dL_law_465 rfl ?_
  refine P_aload_n C dL_law_466 2 rfl ?_
  refine P_ci (R_v (ci := 12) C kv_law_X12_whet (As := []) rfl kd_74 rfl (fxl fx_74) (Nat.le_of_ble_eq_true rfl) dL_law_467 (by have h9 := LS_k S (by omega) (c := 0) (n := 0) (Nat.le_of_ble_eq_true rfl) (Nat.le_of_ble_eq_true rfl); exact h9) (L3_X12_whet (Qk := fun r9 σ9 => INV (mV M) σ9 ∧ (Fr [74, 106, 107, 108] [1] σ1 σ9) ∧ ((gi σ9 74 1).toInt ≤ 9999) ∧ (WHA r9 (gi σ1 74 1) (gi σ9 74 1))) hI1 (fun _ _ h g0 g1 g2 => ⟨h, g0, g1, g2⟩))) ?_
  rintro r2 σ2 ⟨hI2, e2_0, e2_1, e2_2⟩
  refine P_pop C dL_law_470 rfl ?_
  refine P_goto C (tgt := 1381) dL_law_471 (by decide) ?_
  exact next M σ2 _ (LS_s S hI2 rfl rfl) (RC_whet hc hI e1_0 e1_1 e1_2 e2_0 e2_1 e2_2).1
set_option maxHeartbeats 4000000 in
theorem lwc_10 {M : Mx} {L : Nat} {xs : Nat → Int32} {j : Nat} {σ : Sg} {kn : Nat × Nat} {i : Int32} (S : LSt M L xs j σ kn) (hc : REL σ) (hi : i.toInt = 6 * (j : Int)) (hL : 6 * j + 6 ≤ L) (h3 : L ≤ 3072) (next : ∀ M2 σ2 kn2, LSt M2 L xs (j + 1) σ2 kn2 → REL σ2 → PS M2 1381 (lwv i) [] σ2 kn2) : PS M 474 (lwv i) [] σ kn := by
  obtain ⟨C, hS, hI, hU, hN0, hw, hk1, hk2, hN⟩ := id S
  refine P_aload_n C dL_law_474 1 rfl ?_
  refine P_cell C hS (n := 1) rfl dL_law_475 dL_law_476 dL_law_477 dL_law_478 dL_law_479 rfl rfl (lw_in hi hL h3 (by decide) (by decide)) ?_
  refine P_ci (R_v (ci := 11) C kv_law_X11_pause (As := [.int (xs (i + 1).toNatClampNeg)]) rfl kd_0 rfl (fxl fx_0) (Nat.le_of_ble_eq_true rfl) dL_law_480 (LS_k S (by omega) (Nat.le_of_ble_eq_true rfl) (Nat.le_of_ble_eq_true rfl)) (L3_X11_pause (Qk := fun r9 σ9 => INV (mV M) σ9 ∧ (FX (fun id => id = 6 ∨ id = 7) (fun id k => (id = 1 ∧ k = 9)) σ σ9) ∧ ((gi σ9 1 9).toInt ≤ 9999) ∧ (PAA r9 (xs (i + 1).toNatClampNeg) (gi σ 1 9) (gi σ9 1 9))) hI (fun _ _ h g0 g1 g2 => ⟨h, g0, g1, g2⟩))) ?_
  rintro r1 σ1 ⟨hI1, e1_0, e1_1, e1_2⟩
  refine P_pop C dL_law_483 rfl ?_
  refine P_aload_n C dL_law_484 2 rfl ?_
  refine P_cell C hS (n := 1) rfl dL_law_485 dL_law_486 dL_law_487 dL_law_488 dL_law_489 rfl rfl (lw_in hi hL h3 (by decide) (by decide)) ?_
  refine P_ci (R_v (ci := 12) C kv_law_X12_pause (As := [.int (xs (i + 1).toNatClampNeg)]) rfl kd_74 rfl (fxl fx_74) (Nat.le_of_ble_eq_true rfl) dL_law_490 (by have h9 := LS_k S (by omega) (c := 0) (n := 0) (Nat.le_of_ble_eq_true rfl) (Nat.le_of_ble_eq_true rfl); exact h9) (L3_X12_pause (Qk := fun r9 σ9 => INV (mV M) σ9 ∧ (Fr [74, 107, 108] [1] σ1 σ9) ∧ ((gi σ9 74 1).toInt ≤ 9999) ∧ (PAA r9 (xs (i + 1).toNatClampNeg) (gi σ1 74 1) (gi σ9 74 1))) hI1 (fun _ _ h g0 g1 g2 => ⟨h, g0, g1, g2⟩))) ?_
  rintro r2 σ2 ⟨hI2, e2_0, e2_1, e2_2⟩
  refine P_pop C dL_law_493 rfl ?_
  refine P_goto C (tgt := 1381) dL_law_494 (by decide) ?_
  exact next M σ2 _ (LS_s S hI2 rfl rfl) (RC_pause hc hI e1_0 e1_1 e1_2 e2_0 e2_1 e2_2).1
set_option maxHeartbeats 4000000 in
theorem lwc_11 {M : Mx} {L : Nat} {xs : Nat → Int32} {j : Nat} {σ : Sg} {kn : Nat × Nat} {i : Int32} (S : LSt M L xs j σ kn) (hc : REL σ) (hi : i.toInt = 6 * (j : Int)) (hL : 6 * j + 6 ≤ L) (h3 : L ≤ 3072) (next : ∀ M2 σ2 kn2, LSt M2 L xs (j + 1) σ2 kn2 → REL σ2 → PS M2 1381 (lwv i) [] σ2 kn2) : PS M 497 (lwv i) [] σ kn := by
  obtain ⟨C, hS, hI, hU, hN0, hw, hk1, hk2, hN⟩ := id S
  refine P_aload_n C dL_law_497 1 rfl ?_
  refine P_cell C hS (n := 1) rfl dL_law_498 dL_law_499 dL_law_500 dL_law_501 dL_law_502 rfl rfl (lw_in hi hL h3 (by decide) (by decide)) ?_
  refine P_cell C hS (n := 2) rfl dL_law_503 dL_law_504 dL_law_505 dL_law_506 dL_law_507 rfl rfl (lw_in hi hL h3 (by decide) (by decide)) ?_
  refine P_ci (R_v (ci := 11) C kv_law_X11_on (As := [.int (xs (i + 1).toNatClampNeg), .int (xs (i + 2).toNatClampNeg)]) rfl kd_0 rfl (fxl fx_0) (Nat.le_of_ble_eq_true rfl) dL_law_508 (LS_k S (by omega) (Nat.le_of_ble_eq_true rfl) (Nat.le_of_ble_eq_true rfl)) (L3_X11_on (Qk := fun r9 σ9 => INV (mV M) σ9 ∧ (FX (fun id => id = 34 ∨ id = 35 ∨ id = 36 ∨ id = 37 ∨ id = 38 ∨ id = 39 ∨ id = 40 ∨ id = 47 ∨ id = 48) (fun id k => (id = 33 ∧ k = 1) ∨ (id = 33 ∧ k = 3) ∨ (id = 33 ∧ k = 9) ∨ (id = 33 ∧ k = 10) ∨ (id = 33 ∧ k = 11)) σ σ9)) hI (fun _ _ h g0 => ⟨h, g0⟩))) ?_
  rintro r1 σ1 ⟨hI1, e1_0⟩
  refine P_pop C dL_law_511 rfl ?_
  refine P_aload_n C dL_law_512 2 rfl ?_
  refine P_cell C hS (n := 1) rfl dL_law_513 dL_law_514 dL_law_515 dL_law_516 dL_law_517 rfl rfl (lw_in hi hL h3 (by decide) (by decide)) ?_
  refine P_cell C hS (n := 2) rfl dL_law_518 dL_law_519 dL_law_520 dL_law_521 dL_law_522 rfl rfl (lw_in hi hL h3 (by decide) (by decide)) ?_
  refine P_ci (R_v (ci := 12) C kv_law_X12_on (As := [.int (xs (i + 1).toNatClampNeg), .int (xs (i + 2).toNatClampNeg)]) rfl kd_74 rfl (fxl fx_74) (Nat.le_of_ble_eq_true rfl) dL_law_523 (by have h9 := LS_k S (by omega) (c := 0) (n := 0) (Nat.le_of_ble_eq_true rfl) (Nat.le_of_ble_eq_true rfl); exact h9) (L3_X12_on (Qk := fun r9 σ9 => INV (mV M) σ9 ∧ (Fr [74, 105, 106, 107, 108, 129, 131, 132, 134, 135, 136, 137] [1, 30, 33] σ1 σ9) ∧ ((gi σ9 74 1).toInt = (gi σ1 74 1).toInt)) hI1 (fun _ _ h g0 g1 => ⟨h, g0, g1⟩))) ?_
  rintro r2 σ2 ⟨hI2, e2_0, e2_1⟩
  refine P_pop C dL_law_526 rfl ?_
  refine P_goto C (tgt := 1381) dL_law_527 (by decide) ?_
  exact next M σ2 _ (LS_s S hI2 rfl rfl) (RC_on hc hI e1_0 e2_0 e2_1)
set_option maxHeartbeats 4000000 in
theorem lwc_12 {M : Mx} {L : Nat} {xs : Nat → Int32} {j : Nat} {σ : Sg} {kn : Nat × Nat} {i : Int32} (S : LSt M L xs j σ kn) (hc : REL σ) (hi : i.toInt = 6 * (j : Int)) (hL : 6 * j + 6 ≤ L) (h3 : L ≤ 3072) (next : ∀ M2 σ2 kn2, LSt M2 L xs (j + 1) σ2 kn2 → REL σ2 → PS M2 1381 (lwv i) [] σ2 kn2) : PS M 530 (lwv i) [] σ kn := by
  obtain ⟨C, hS, hI, hU, hN0, hw, hk1, hk2, hN⟩ := id S
  refine P_aload_n C dL_law_530 1 rfl ?_
  refine P_ci (R_v (ci := 11) C kv_law_X11_done (As := []) rfl kd_0 rfl (fxl fx_0) (Nat.le_of_ble_eq_true rfl) dL_law_531 (LS_k S (by omega) (Nat.le_of_ble_eq_true rfl) (Nat.le_of_ble_eq_true rfl)) (L3_X11_done (Qk := fun r9 σ9 => INV (mV M) σ9 ∧ (FX (fun id => id = 34 ∨ id = 35 ∨ id = 36 ∨ id = 37 ∨ id = 38 ∨ id = 39 ∨ id = 40 ∨ id = 47 ∨ id = 48) (fun id k => (id = 33 ∧ k = 1) ∨ (id = 33 ∧ k = 3) ∨ (id = 33 ∧ k = 9) ∨ (id = 33 ∧ k = 10) ∨ (id = 33 ∧ k = 11)) σ σ9)) hI (fun _ _ h g0 => ⟨h, g0⟩))) ?_
  rintro r1 σ1 ⟨hI1, e1_0⟩
  refine P_pop C dL_law_534 rfl ?_
  refine P_aload_n C dL_law_535 2 rfl ?_
  refine P_ci (R_v (ci := 12) C kv_law_X12_done (As := []) rfl kd_74 rfl (fxl fx_74) (Nat.le_of_ble_eq_true rfl) dL_law_536 (by have h9 := LS_k S (by omega) (c := 0) (n := 0) (Nat.le_of_ble_eq_true rfl) (Nat.le_of_ble_eq_true rfl); exact h9) (L3_X12_done (Qk := fun r9 σ9 => INV (mV M) σ9 ∧ (Fr [74, 105, 106, 107, 108, 129, 131, 132, 134, 135, 136, 137] [1, 30, 33] σ1 σ9) ∧ ((gi σ9 74 1).toInt = (gi σ1 74 1).toInt)) hI1 (fun _ _ h g0 g1 => ⟨h, g0, g1⟩))) ?_
  rintro r2 σ2 ⟨hI2, e2_0, e2_1⟩
  refine P_pop C dL_law_539 rfl ?_
  refine P_goto C (tgt := 1381) dL_law_540 (by decide) ?_
  exact next M σ2 _ (LS_s S hI2 rfl rfl) (RC_done hc hI e1_0 e2_0 e2_1)
set_option maxHeartbeats 4000000 in
theorem lwc_13 {M : Mx} {L : Nat} {xs : Nat → Int32} {j : Nat} {σ : Sg} {kn : Nat × Nat} {i : Int32} (S : LSt M L xs j σ kn) (hc : REL σ) (hi : i.toInt = 6 * (j : Int)) (hL : 6 * j + 6 ≤ L) (h3 : L ≤ 3072) (next : ∀ M2 σ2 kn2, LSt M2 L xs (j + 1) σ2 kn2 → REL σ2 → PS M2 1381 (lwv i) [] σ2 kn2) : PS M 543 (lwv i) [] σ kn := by
  obtain ⟨C, hS, hI, hU, hN0, hw, hk1, hk2, hN⟩ := id S
  refine P_aload_n C dL_law_543 1 rfl ?_
  refine P_cell C hS (n := 1) rfl dL_law_544 dL_law_545 dL_law_546 dL_law_547 dL_law_548 rfl rfl (lw_in hi hL h3 (by decide) (by decide)) ?_
  refine P_cell C hS (n := 2) rfl dL_law_549 dL_law_550 dL_law_551 dL_law_552 dL_law_553 rfl rfl (lw_in hi hL h3 (by decide) (by decide)) ?_
  refine P_ci (R_v (ci := 11) C kv_law_X11_order (As := [.int (xs (i + 1).toNatClampNeg), .int (xs (i + 2).toNatClampNeg)]) rfl kd_0 rfl (fxl fx_0) (Nat.le_of_ble_eq_true rfl) dL_law_554 (LS_k S (by omega) (Nat.le_of_ble_eq_true rfl) (Nat.le_of_ble_eq_true rfl)) (L3_X11_order (Qk := fun r9 σ9 => INV (mV M) σ9 ∧ (FX (fun id => id = 34 ∨ id = 35 ∨ id = 36 ∨ id = 37 ∨ id = 38 ∨ id = 39 ∨ id = 40 ∨ id = 47 ∨ id = 48 ∨ id = 66 ∨ id = 67) (fun id k => (id = 33 ∧ k = 1) ∨ (id = 33 ∧ k = 3) ∨ (id = 33 ∧ k = 9) ∨ (id = 33 ∧ k = 10) ∨ (id = 33 ∧ k = 11)) σ σ9)) hI (fun _ _ h g0 => ⟨h, g0⟩))) ?_
  rintro r1 σ1 ⟨hI1, e1_0⟩
  refine P_pop C dL_law_557 rfl ?_
  refine P_aload_n C dL_law_558 2 rfl ?_
  refine P_cell C hS (n := 1) rfl dL_law_559 dL_law_560 dL_law_561 dL_law_562 dL_law_563 rfl rfl (lw_in hi hL h3 (by decide) (by decide)) ?_
  refine P_cell C hS (n := 2) rfl dL_law_564 dL_law_565 dL_law_566 dL_law_567 dL_law_568 rfl rfl (lw_in hi hL h3 (by decide) (by decide)) ?_
  refine P_ci (R_v (ci := 12) C kv_law_X12_order (As := [.int (xs (i + 1).toNatClampNeg), .int (xs (i + 2).toNatClampNeg)]) rfl kd_74 rfl (fxl fx_74) (Nat.le_of_ble_eq_true rfl) dL_law_569 (by have h9 := LS_k S (by omega) (c := 0) (n := 0) (Nat.le_of_ble_eq_true rfl) (Nat.le_of_ble_eq_true rfl); exact h9) (L3_X12_order (Qk := fun r9 σ9 => INV (mV M) σ9 ∧ (Fr [74, 105, 106, 107, 108, 110, 129, 131, 132, 134, 135, 136, 137, 138, 139] [1, 30, 33] σ1 σ9) ∧ ((gi σ9 74 1).toInt = (gi σ1 74 1).toInt) ∧ (CD σ1 σ9 110 110 6)) hI1 (fun _ _ h g0 g1 g2 => ⟨h, g0, g1, g2⟩))) ?_
  rintro r2 σ2 ⟨hI2, e2_0, e2_1, e2_2⟩
  refine P_pop C dL_law_572 rfl ?_
  refine P_goto C (tgt := 1381) dL_law_573 (by decide) ?_
  exact next M σ2 _ (LS_s S hI2 rfl rfl) (RC_order hc hI e1_0 e2_0 e2_1 e2_2)
set_option maxHeartbeats 4000000 in
theorem lwc_14 {M : Mx} {L : Nat} {xs : Nat → Int32} {j : Nat} {σ : Sg} {kn : Nat × Nat} {i : Int32} (S : LSt M L xs j σ kn) (hc : REL σ) (hi : i.toInt = 6 * (j : Int)) (hL : 6 * j + 6 ≤ L) (h3 : L ≤ 3072) (next : ∀ M2 σ2 kn2, LSt M2 L xs (j + 1) σ2 kn2 → REL σ2 → PS M2 1381 (lwv i) [] σ2 kn2) : PS M 576 (lwv i) [] σ kn := by
  obtain ⟨C, hS, hI, hU, hN0, hw, hk1, hk2, hN⟩ := id S
  refine P_aload_n C dL_law_576 1 rfl ?_
  refine P_cell C hS (n := 1) rfl dL_law_577 dL_law_578 dL_law_579 dL_law_580 dL_law_581 rfl rfl (lw_in hi hL h3 (by decide) (by decide)) ?_
  refine P_cell C hS (n := 2) rfl dL_law_582 dL_law_583 dL_law_584 dL_law_585 dL_law_586 rfl rfl (lw_in hi hL h3 (by decide) (by decide)) ?_
  refine P_ci (R_v (ci := 11) C kv_law_X11_whets (As := [.int (xs (i + 1).toNatClampNeg), .int (xs (i + 2).toNatClampNeg)]) rfl kd_0 rfl (fxl fx_0) (Nat.le_of_ble_eq_true rfl) dL_law_587 (LS_k S (by omega) (Nat.le_of_ble_eq_true rfl) (Nat.le_of_ble_eq_true rfl)) (L3_X11_whets (Qk := fun r9 σ9 => INV (mV M) σ9 ∧ (FX (fun id => id = 34 ∨ id = 35 ∨ id = 36 ∨ id = 37 ∨ id = 38 ∨ id = 39 ∨ id = 40 ∨ id = 47 ∨ id = 48) (fun id k => (id = 33 ∧ k = 1) ∨ (id = 33 ∧ k = 3) ∨ (id = 33 ∧ k = 9) ∨ (id = 33 ∧ k = 10) ∨ (id = 33 ∧ k = 11)) σ σ9)) hI (fun _ _ h g0 => ⟨h, g0⟩))) ?_
  rintro r1 σ1 ⟨hI1, e1_0⟩
  refine P_pop C dL_law_590 rfl ?_
  refine P_aload_n C dL_law_591 2 rfl ?_
  refine P_cell C hS (n := 1) rfl dL_law_592 dL_law_593 dL_law_594 dL_law_595 dL_law_596 rfl rfl (lw_in hi hL h3 (by decide) (by decide)) ?_
  refine P_cell C hS (n := 2) rfl dL_law_597 dL_law_598 dL_law_599 dL_law_600 dL_law_601 rfl rfl (lw_in hi hL h3 (by decide) (by decide)) ?_
  refine P_ci (R_v (ci := 12) C kv_law_X12_whets (As := [.int (xs (i + 1).toNatClampNeg), .int (xs (i + 2).toNatClampNeg)]) rfl kd_74 rfl (fxl fx_74) (Nat.le_of_ble_eq_true rfl) dL_law_602 (by have h9 := LS_k S (by omega) (c := 0) (n := 0) (Nat.le_of_ble_eq_true rfl) (Nat.le_of_ble_eq_true rfl); exact h9) (L3_X12_whets (Qk := fun r9 σ9 => INV (mV M) σ9 ∧ (Fr [74, 105, 106, 107, 108, 129, 131, 132, 134, 135, 136, 137] [1, 30, 33] σ1 σ9) ∧ ((gi σ9 74 1).toInt = (gi σ1 74 1).toInt)) hI1 (fun _ _ h g0 g1 => ⟨h, g0, g1⟩))) ?_
  rintro r2 σ2 ⟨hI2, e2_0, e2_1⟩
  refine P_pop C dL_law_605 rfl ?_
  refine P_goto C (tgt := 1381) dL_law_606 (by decide) ?_
  exact next M σ2 _ (LS_s S hI2 rfl rfl) (RC_whets hc hI e1_0 e2_0 e2_1)
set_option maxHeartbeats 4000000 in
theorem lwc_15 {M : Mx} {L : Nat} {xs : Nat → Int32} {j : Nat} {σ : Sg} {kn : Nat × Nat} {i : Int32} (S : LSt M L xs j σ kn) (hc : REL σ) (hi : i.toInt = 6 * (j : Int)) (hL : 6 * j + 6 ≤ L) (h3 : L ≤ 3072) (next : ∀ M2 σ2 kn2, LSt M2 L xs (j + 1) σ2 kn2 → REL σ2 → PS M2 1381 (lwv i) [] σ2 kn2) : PS M 609 (lwv i) [] σ kn := by
  obtain ⟨C, hS, hI, hU, hN0, hw, hk1, hk2, hN⟩ := id S
  refine P_aload_n C dL_law_609 1 rfl ?_
  refine P_cell C hS (n := 1) rfl dL_law_610 dL_law_611 dL_law_612 dL_law_613 dL_law_614 rfl rfl (lw_in hi hL h3 (by decide) (by decide)) ?_
  refine P_cell C hS (n := 2) rfl dL_law_615 dL_law_616 dL_law_617 dL_law_618 dL_law_619 rfl rfl (lw_in hi hL h3 (by decide) (by decide)) ?_
  refine P_ci (R_v (ci := 11) C kv_law_X11_apart (As := [.int (xs (i + 1).toNatClampNeg), .int (xs (i + 2).toNatClampNeg)]) rfl kd_0 rfl (fxl fx_0) (Nat.le_of_ble_eq_true rfl) dL_law_620 (LS_k S (by omega) (Nat.le_of_ble_eq_true rfl) (Nat.le_of_ble_eq_true rfl)) (L3_X11_apart (Qk := fun r9 σ9 => INV (mV M) σ9 ∧ (FX (fun id => id = 34 ∨ id = 35 ∨ id = 36 ∨ id = 37 ∨ id = 38 ∨ id = 39 ∨ id = 40 ∨ id = 47 ∨ id = 48) (fun id k => (id = 33 ∧ k = 1) ∨ (id = 33 ∧ k = 3) ∨ (id = 33 ∧ k = 9) ∨ (id = 33 ∧ k = 10) ∨ (id = 33 ∧ k = 11)) σ σ9)) hI (fun _ _ h g0 => ⟨h, g0⟩))) ?_
  rintro r1 σ1 ⟨hI1, e1_0⟩
  refine P_pop C dL_law_623 rfl ?_
  refine P_aload_n C dL_law_624 2 rfl ?_
  refine P_cell C hS (n := 1) rfl dL_law_625 dL_law_626 dL_law_627 dL_law_628 dL_law_629 rfl rfl (lw_in hi hL h3 (by decide) (by decide)) ?_
  refine P_cell C hS (n := 2) rfl dL_law_630 dL_law_631 dL_law_632 dL_law_633 dL_law_634 rfl rfl (lw_in hi hL h3 (by decide) (by decide)) ?_
  refine P_ci (R_v (ci := 12) C kv_law_X12_apart (As := [.int (xs (i + 1).toNatClampNeg), .int (xs (i + 2).toNatClampNeg)]) rfl kd_74 rfl (fxl fx_74) (Nat.le_of_ble_eq_true rfl) dL_law_635 (by have h9 := LS_k S (by omega) (c := 0) (n := 0) (Nat.le_of_ble_eq_true rfl) (Nat.le_of_ble_eq_true rfl); exact h9) (L3_X12_apart (Qk := fun r9 σ9 => INV (mV M) σ9 ∧ (Fr [74, 105, 106, 107, 108, 129, 131, 132, 134, 135, 136, 137] [1, 28, 30, 33] σ1 σ9) ∧ ((gi σ9 74 1).toInt = (gi σ1 74 1).toInt)) hI1 (fun _ _ h g0 g1 => ⟨h, g0, g1⟩))) ?_
  rintro r2 σ2 ⟨hI2, e2_0, e2_1⟩
  refine P_pop C dL_law_638 rfl ?_
  refine P_goto C (tgt := 1381) dL_law_639 (by decide) ?_
  exact next M σ2 _ (LS_s S hI2 rfl rfl) (RC_apart hc hI e1_0 e2_0 e2_1)
set_option maxHeartbeats 4000000 in
theorem lwc_16 {M : Mx} {L : Nat} {xs : Nat → Int32} {j : Nat} {σ : Sg} {kn : Nat × Nat} {i : Int32} (S : LSt M L xs j σ kn) (hc : REL σ) (hi : i.toInt = 6 * (j : Int)) (hL : 6 * j + 6 ≤ L) (h3 : L ≤ 3072) (next : ∀ M2 σ2 kn2, LSt M2 L xs (j + 1) σ2 kn2 → REL σ2 → PS M2 1381 (lwv i) [] σ2 kn2) : PS M 642 (lwv i) [] σ kn := by
  obtain ⟨C, hS, hI, hU, hN0, hw, hk1, hk2, hN⟩ := id S
  refine P_aload_n C dL_law_642 1 rfl ?_
  refine P_cell C hS (n := 1) rfl dL_law_643 dL_law_644 dL_law_645 dL_law_646 dL_law_647 rfl rfl (lw_in hi hL h3 (by decide) (by decide)) ?_
  refine P_cell C hS (n := 2) rfl dL_law_648 dL_law_649 dL_law_650 dL_law_651 dL_law_652 rfl rfl (lw_in hi hL h3 (by decide) (by decide)) ?_
  refine P_cell C hS (n := 3) rfl dL_law_653 dL_law_654 dL_law_655 dL_law_656 dL_law_657 rfl rfl (lw_in hi hL h3 (by decide) (by decide)) ?_
  refine P_cell C hS (n := 4) rfl dL_law_658 dL_law_659 dL_law_660 dL_law_661 dL_law_662 rfl rfl (lw_in hi hL h3 (by decide) (by decide)) ?_
  refine P_ci (R_v (ci := 11) C kv_law_X11_stop (As := [.int (xs (i + 1).toNatClampNeg), .int (xs (i + 2).toNatClampNeg), .int (xs (i + 3).toNatClampNeg), .int (xs (i + 4).toNatClampNeg)]) rfl kd_0 rfl (fxl fx_0) (Nat.le_of_ble_eq_true rfl) dL_law_663 (LS_k S (by omega) (Nat.le_of_ble_eq_true rfl) (Nat.le_of_ble_eq_true rfl)) (L3_X11_stop (Qk := fun r9 σ9 => INV (mV M) σ9 ∧ (FX (fun id => id = 34 ∨ id = 35 ∨ id = 36 ∨ id = 37 ∨ id = 38 ∨ id = 39 ∨ id = 40 ∨ id = 47 ∨ id = 48 ∨ id = 68) (fun id k => (id = 33 ∧ k = 1) ∨ (id = 33 ∧ k = 3) ∨ (id = 33 ∧ k = 9) ∨ (id = 33 ∧ k = 10) ∨ (id = 33 ∧ k = 11)) σ σ9)) hI (fun _ _ h g0 => ⟨h, g0⟩))) ?_
  rintro r1 σ1 ⟨hI1, e1_0⟩
  refine P_pop C dL_law_666 rfl ?_
  refine P_aload_n C dL_law_667 2 rfl ?_
  refine P_cell C hS (n := 1) rfl dL_law_668 dL_law_669 dL_law_670 dL_law_671 dL_law_672 rfl rfl (lw_in hi hL h3 (by decide) (by decide)) ?_
  refine P_cell C hS (n := 2) rfl dL_law_673 dL_law_674 dL_law_675 dL_law_676 dL_law_677 rfl rfl (lw_in hi hL h3 (by decide) (by decide)) ?_
  refine P_cell C hS (n := 3) rfl dL_law_678 dL_law_679 dL_law_680 dL_law_681 dL_law_682 rfl rfl (lw_in hi hL h3 (by decide) (by decide)) ?_
  refine P_cell C hS (n := 4) rfl dL_law_683 dL_law_684 dL_law_685 dL_law_686 dL_law_687 rfl rfl (lw_in hi hL h3 (by decide) (by decide)) ?_
  refine P_ci (R_v (ci := 12) C kv_law_X12_stop (As := [.int (xs (i + 1).toNatClampNeg), .int (xs (i + 2).toNatClampNeg), .int (xs (i + 3).toNatClampNeg), .int (xs (i + 4).toNatClampNeg)]) rfl kd_74 rfl (fxl fx_74) (Nat.le_of_ble_eq_true rfl) dL_law_688 (by have h9 := LS_k S (by omega) (c := 0) (n := 0) (Nat.le_of_ble_eq_true rfl) (Nat.le_of_ble_eq_true rfl); exact h9) (L3_X12_stop (Qk := fun r9 σ9 => INV (mV M) σ9 ∧ (Fr [74, 105, 106, 107, 108, 129, 131, 132, 134, 135, 136, 137, 140] [1, 30, 33] σ1 σ9) ∧ ((gi σ9 74 1).toInt = (gi σ1 74 1).toInt)) hI1 (fun _ _ h g0 g1 => ⟨h, g0, g1⟩))) ?_
  rintro r2 σ2 ⟨hI2, e2_0, e2_1⟩
  refine P_pop C dL_law_691 rfl ?_
  refine P_goto C (tgt := 1381) dL_law_692 (by decide) ?_
  exact next M σ2 _ (LS_s S hI2 rfl rfl) (RC_stop hc hI e1_0 e2_0 e2_1)
set_option maxHeartbeats 4000000 in
theorem lwc_17 {M : Mx} {L : Nat} {xs : Nat → Int32} {j : Nat} {σ : Sg} {kn : Nat × Nat} {i : Int32} (S : LSt M L xs j σ kn) (hc : REL σ) (hi : i.toInt = 6 * (j : Int)) (hL : 6 * j + 6 ≤ L) (h3 : L ≤ 3072) (next : ∀ M2 σ2 kn2, LSt M2 L xs (j + 1) σ2 kn2 → REL σ2 → PS M2 1381 (lwv i) [] σ2 kn2) : PS M 695 (lwv i) [] σ kn := by
  obtain ⟨C, hS, hI, hU, hN0, hw, hk1, hk2, hN⟩ := id S
  refine P_aload_n C dL_law_695 1 rfl ?_
  refine P_cell C hS (n := 1) rfl dL_law_696 dL_law_697 dL_law_698 dL_law_699 dL_law_700 rfl rfl (lw_in hi hL h3 (by decide) (by decide)) ?_
  refine P_ci (R_v (ci := 11) C kv_law_X11_alone (As := [.int (xs (i + 1).toNatClampNeg)]) rfl kd_0 rfl (fxl fx_0) (Nat.le_of_ble_eq_true rfl) dL_law_701 (LS_k S (by omega) (Nat.le_of_ble_eq_true rfl) (Nat.le_of_ble_eq_true rfl)) (L3_X11_alone (Qk := fun r9 σ9 => INV (mV M) σ9 ∧ (FX (fun id => id = 34 ∨ id = 35 ∨ id = 36 ∨ id = 37 ∨ id = 38 ∨ id = 39 ∨ id = 40 ∨ id = 47 ∨ id = 48) (fun id k => (id = 33 ∧ k = 1) ∨ (id = 33 ∧ k = 3) ∨ (id = 33 ∧ k = 9) ∨ (id = 33 ∧ k = 10) ∨ (id = 33 ∧ k = 11)) σ σ9)) hI (fun _ _ h g0 => ⟨h, g0⟩))) ?_
  rintro r1 σ1 ⟨hI1, e1_0⟩
  refine P_pop C dL_law_704 rfl ?_
  refine P_aload_n C dL_law_705 2 rfl ?_
  refine P_cell C hS (n := 1) rfl dL_law_706 dL_law_707 dL_law_708 dL_law_709 dL_law_710 rfl rfl (lw_in hi hL h3 (by decide) (by decide)) ?_
  refine P_ci (R_v (ci := 12) C kv_law_X12_alone (As := [.int (xs (i + 1).toNatClampNeg)]) rfl kd_74 rfl (fxl fx_74) (Nat.le_of_ble_eq_true rfl) dL_law_711 (by have h9 := LS_k S (by omega) (c := 0) (n := 0) (Nat.le_of_ble_eq_true rfl) (Nat.le_of_ble_eq_true rfl); exact h9) (L3_X12_alone (Qk := fun r9 σ9 => INV (mV M) σ9 ∧ (Fr [74, 105, 106, 107, 108, 110, 129, 131, 132, 134, 135, 136, 137, 138] [1, 2, 30, 33] σ1 σ9) ∧ ((gi σ9 74 1).toInt = (gi σ1 74 1).toInt) ∧ (CD σ1 σ9 110 110 6)) hI1 (fun _ _ h g0 g1 g2 => ⟨h, g0, g1, g2⟩))) ?_
  rintro r2 σ2 ⟨hI2, e2_0, e2_1, e2_2⟩
  refine P_pop C dL_law_714 rfl ?_
  refine P_goto C (tgt := 1381) dL_law_715 (by decide) ?_
  exact next M σ2 _ (LS_s S hI2 rfl rfl) (RC_alone hc hI e1_0 e2_0 e2_1 e2_2)
set_option maxHeartbeats 4000000 in
theorem lwc_18 {M : Mx} {L : Nat} {xs : Nat → Int32} {j : Nat} {σ : Sg} {kn : Nat × Nat} {i : Int32} (S : LSt M L xs j σ kn) (hc : REL σ) (hi : i.toInt = 6 * (j : Int)) (hL : 6 * j + 6 ≤ L) (h3 : L ≤ 3072) (next : ∀ M2 σ2 kn2, LSt M2 L xs (j + 1) σ2 kn2 → REL σ2 → PS M2 1381 (lwv i) [] σ2 kn2) : PS M 718 (lwv i) [] σ kn := by
  obtain ⟨C, hS, hI, hU, hN0, hw, hk1, hk2, hN⟩ := id S
  refine P_aload_n C dL_law_718 1 rfl ?_
  refine P_cell C hS (n := 1) rfl dL_law_719 dL_law_720 dL_law_721 dL_law_722 dL_law_723 rfl rfl (lw_in hi hL h3 (by decide) (by decide)) ?_
  refine P_cell C hS (n := 2) rfl dL_law_724 dL_law_725 dL_law_726 dL_law_727 dL_law_728 rfl rfl (lw_in hi hL h3 (by decide) (by decide)) ?_
  refine P_ci (R_v (ci := 11) C kv_law_X11_rest (As := [.int (xs (i + 1).toNatClampNeg), .int (xs (i + 2).toNatClampNeg)]) rfl kd_0 rfl (fxl fx_0) (Nat.le_of_ble_eq_true rfl) dL_law_729 (LS_k S (by omega) (Nat.le_of_ble_eq_true rfl) (Nat.le_of_ble_eq_true rfl)) (L3_X11_rest (Qk := fun r9 σ9 => INV (mV M) σ9 ∧ (FX (fun id => id = 34 ∨ id = 35 ∨ id = 36 ∨ id = 37 ∨ id = 38 ∨ id = 39 ∨ id = 40 ∨ id = 47 ∨ id = 48) (fun id k => (id = 33 ∧ k = 1) ∨ (id = 33 ∧ k = 3) ∨ (id = 33 ∧ k = 9) ∨ (id = 33 ∧ k = 10) ∨ (id = 33 ∧ k = 11)) σ σ9)) hI (fun _ _ h g0 => ⟨h, g0⟩))) ?_
  rintro r1 σ1 ⟨hI1, e1_0⟩
  refine P_pop C dL_law_732 rfl ?_
  refine P_aload_n C dL_law_733 2 rfl ?_
  refine P_cell C hS (n := 1) rfl dL_law_734 dL_law_735 dL_law_736 dL_law_737 dL_law_738 rfl rfl (lw_in hi hL h3 (by decide) (by decide)) ?_
  refine P_cell C hS (n := 2) rfl dL_law_739 dL_law_740 dL_law_741 dL_law_742 dL_law_743 rfl rfl (lw_in hi hL h3 (by decide) (by decide)) ?_
  refine P_ci (R_v (ci := 12) C kv_law_X12_rest (As := [.int (xs (i + 1).toNatClampNeg), .int (xs (i + 2).toNatClampNeg)]) rfl kd_74 rfl (fxl fx_74) (Nat.le_of_ble_eq_true rfl) dL_law_744 (by have h9 := LS_k S (by omega) (c := 0) (n := 0) (Nat.le_of_ble_eq_true rfl) (Nat.le_of_ble_eq_true rfl); exact h9) (L3_X12_rest (Qk := fun r9 σ9 => INV (mV M) σ9 ∧ (Fr [74, 105, 106, 107, 108, 129, 131, 132, 134, 135, 136, 137] [1, 30, 33] σ1 σ9) ∧ ((gi σ9 74 1).toInt = (gi σ1 74 1).toInt)) hI1 (fun _ _ h g0 g1 => ⟨h, g0, g1⟩))) ?_
  rintro r2 σ2 ⟨hI2, e2_0, e2_1⟩
  refine P_pop C dL_law_747 rfl ?_
  refine P_goto C (tgt := 1381) dL_law_748 (by decide) ?_
  exact next M σ2 _ (LS_s S hI2 rfl rfl) (RC_rest hc hI e1_0 e2_0 e2_1)
set_option maxHeartbeats 4000000 in
theorem lwc_19 {M : Mx} {L : Nat} {xs : Nat → Int32} {j : Nat} {σ : Sg} {kn : Nat × Nat} {i : Int32} (S : LSt M L xs j σ kn) (hc : REL σ) (hi : i.toInt = 6 * (j : Int)) (hL : 6 * j + 6 ≤ L) (h3 : L ≤ 3072) (next : ∀ M2 σ2 kn2, LSt M2 L xs (j + 1) σ2 kn2 → REL σ2 → PS M2 1381 (lwv i) [] σ2 kn2) : PS M 751 (lwv i) [] σ kn := by
  obtain ⟨C, hS, hI, hU, hN0, hw, hk1, hk2, hN⟩ := id S
  refine P_aload_n C dL_law_751 1 rfl ?_
  refine P_cell C hS (n := 1) rfl dL_law_752 dL_law_753 dL_law_754 dL_law_755 dL_law_756 rfl rfl (lw_in hi hL h3 (by decide) (by decide)) ?_
  refine P_cell C hS (n := 2) rfl dL_law_757 dL_law_758 dL_law_759 dL_law_760 dL_law_761 rfl rfl (lw_in hi hL h3 (by decide) (by decide)) ?_
  refine P_ci (R_v (ci := 11) C kv_law_X11_paused (As := [.int (xs (i + 1).toNatClampNeg), .int (xs (i + 2).toNatClampNeg)]) rfl kd_0 rfl (fxl fx_0) (Nat.le_of_ble_eq_true rfl) dL_law_762 (LS_k S (by omega) (Nat.le_of_ble_eq_true rfl) (Nat.le_of_ble_eq_true rfl)) (L3_X11_paused (Qk := fun r9 σ9 => INV (mV M) σ9 ∧ (FX (fun id => id = 34 ∨ id = 35 ∨ id = 36 ∨ id = 37 ∨ id = 38 ∨ id = 39 ∨ id = 40 ∨ id = 47 ∨ id = 48) (fun id k => (id = 33 ∧ k = 1) ∨ (id = 33 ∧ k = 3) ∨ (id = 33 ∧ k = 9) ∨ (id = 33 ∧ k = 10) ∨ (id = 33 ∧ k = 11)) σ σ9)) hI (fun _ _ h g0 => ⟨h, g0⟩))) ?_
  rintro r1 σ1 ⟨hI1, e1_0⟩
  refine P_pop C dL_law_765 rfl ?_
  refine P_aload_n C dL_law_766 2 rfl ?_
  refine P_cell C hS (n := 1) rfl dL_law_767 dL_law_768 dL_law_769 dL_law_770 dL_law_771 rfl rfl (lw_in hi hL h3 (by decide) (by decide)) ?_
  refine P_cell C hS (n := 2) rfl dL_law_772 dL_law_773 dL_law_774 dL_law_775 dL_law_776 rfl rfl (lw_in hi hL h3 (by decide) (by decide)) ?_
  refine P_ci (R_v (ci := 12) C kv_law_X12_paused (As := [.int (xs (i + 1).toNatClampNeg), .int (xs (i + 2).toNatClampNeg)]) rfl kd_74 rfl (fxl fx_74) (Nat.le_of_ble_eq_true rfl) dL_law_777 (by have h9 := LS_k S (by omega) (c := 0) (n := 0) (Nat.le_of_ble_eq_true rfl) (Nat.le_of_ble_eq_true rfl); exact h9) (L3_X12_paused (Qk := fun r9 σ9 => INV (mV M) σ9 ∧ (Fr [74, 105, 106, 107, 108, 129, 131, 132, 134, 135, 136, 137] [1, 30, 33] σ1 σ9) ∧ ((gi σ9 74 1).toInt = (gi σ1 74 1).toInt)) hI1 (fun _ _ h g0 g1 => ⟨h, g0, g1⟩))) ?_
  rintro r2 σ2 ⟨hI2, e2_0, e2_1⟩
  refine P_pop C dL_law_780 rfl ?_
  refine P_goto C (tgt := 1381) dL_law_781 (by decide) ?_
  exact next M σ2 _ (LS_s S hI2 rfl rfl) (RC_paused hc hI e1_0 e2_0 e2_1)
set_option maxHeartbeats 4000000 in
theorem lwc_20 {M : Mx} {L : Nat} {xs : Nat → Int32} {j : Nat} {σ : Sg} {kn : Nat × Nat} {i : Int32} (S : LSt M L xs j σ kn) (hc : REL σ) (hi : i.toInt = 6 * (j : Int)) (hL : 6 * j + 6 ≤ L) (h3 : L ≤ 3072) (next : ∀ M2 σ2 kn2, LSt M2 L xs (j + 1) σ2 kn2 → REL σ2 → PS M2 1381 (lwv i) [] σ2 kn2) : PS M 784 (lwv i) [] σ kn := by
  obtain ⟨C, hS, hI, hU, hN0, hw, hk1, hk2, hN⟩ := id S
  refine P_aload_n C dL_law_784 1 rfl ?_
  refine P_cell C hS (n := 1) rfl dL_law_785 dL_law_786 dL_law_787 dL_law_788 dL_law_789 rfl rfl (lw_in hi hL h3 (by decide) (by decide)) ?_
  refine P_cell C hS (n := 2) rfl dL_law_790 dL_law_791 dL_law_792 dL_law_793 dL_law_794 rfl rfl (lw_in hi hL h3 (by decide) (by decide)) ?_
  refine P_cell C hS (n := 3) rfl dL_law_795 dL_law_796 dL_law_797 dL_law_798 dL_law_799 rfl rfl (lw_in hi hL h3 (by decide) (by decide)) ?_
  refine P_ci (R_v (ci := 11) C kv_law_X11_see (As := [.int (xs (i + 1).toNatClampNeg), .int (xs (i + 2).toNatClampNeg), .int (xs (i + 3).toNatClampNeg)]) rfl kd_0 rfl (fxl fx_0) (Nat.le_of_ble_eq_true rfl) dL_law_800 (LS_k S (by omega) (Nat.le_of_ble_eq_true rfl) (Nat.le_of_ble_eq_true rfl)) (L3_X11_see (Qk := fun r9 σ9 => INV (mV M) σ9 ∧ (FX (fun id => id = 10) (fun id k => (id = 9 ∧ k = 1)) σ σ9) ∧ ((gi σ9 9 1).toInt % 3 = 0) ∧ (SEA r9 (xs (i + 1).toNatClampNeg) (xs (i + 2).toNatClampNeg) (xs (i + 3).toNatClampNeg) (gi σ 1 1).toInt ((gi σ 9 1).toInt / 3) ((gi σ9 9 1).toInt / 3))) hI (fun _ _ h g0 g1 g2 => ⟨h, g0, g1, g2⟩))) ?_
  rintro r1 σ1 ⟨hI1, e1_0, e1_1, e1_2⟩
  refine P_pop C dL_law_803 rfl ?_
  refine P_aload_n C dL_law_804 2 rfl ?_
  refine P_cell C hS (n := 1) rfl dL_law_805 dL_law_806 dL_law_807 dL_law_808 dL_law_809 rfl rfl (lw_in hi hL h3 (by decide) (by decide)) ?_
  refine P_cell C hS (n := 2) rfl dL_law_810 dL_law_811 dL_law_812 dL_law_813 dL_law_814 rfl rfl (lw_in hi hL h3 (by decide) (by decide)) ?_
  refine P_cell C hS (n := 3) rfl dL_law_815 dL_law_816 dL_law_817 dL_law_818 dL_law_819 rfl rfl (lw_in hi hL h3 (by decide) (by decide)) ?_
  refine P_ci (R_v (ci := 12) C kv_law_X12_see (As := [.int (xs (i + 1).toNatClampNeg), .int (xs (i + 2).toNatClampNeg), .int (xs (i + 3).toNatClampNeg)]) rfl kd_74 rfl (fxl fx_74) (Nat.le_of_ble_eq_true rfl) dL_law_820 (by have h9 := LS_k S (by omega) (c := 0) (n := 0) (Nat.le_of_ble_eq_true rfl) (Nat.le_of_ble_eq_true rfl); exact h9) (L3_X12_see (Qk := fun r9 σ9 => INV (mV M) σ9 ∧ (Fr [74, 142, 143, 144] [41] σ1 σ9) ∧ (SEA r9 (xs (i + 1).toNatClampNeg) (xs (i + 2).toNatClampNeg) (xs (i + 3).toNatClampNeg) (gi σ1 74 0).toInt (gi σ1 74 41).toInt (gi σ9 74 41).toInt)) hI1 (fun _ _ h g0 g1 => ⟨h, g0, g1⟩))) ?_
  rintro r2 σ2 ⟨hI2, e2_0, e2_1⟩
  refine P_pop C dL_law_823 rfl ?_
  refine P_goto C (tgt := 1381) dL_law_824 (by decide) ?_
  exact next M σ2 _ (LS_s S hI2 rfl rfl) (RC_see hc hI e1_0 e1_1 e1_2 e2_0 e2_1).1
set_option maxHeartbeats 4000000 in
theorem lwc_21 {M : Mx} {L : Nat} {xs : Nat → Int32} {j : Nat} {σ : Sg} {kn : Nat × Nat} {i : Int32} (S : LSt M L xs j σ kn) (hc : REL σ) (hi : i.toInt = 6 * (j : Int)) (hL : 6 * j + 6 ≤ L) (h3 : L ≤ 3072) (next : ∀ M2 σ2 kn2, LSt M2 L xs (j + 1) σ2 kn2 → REL σ2 → PS M2 1381 (lwv i) [] σ2 kn2) : PS M 827 (lwv i) [] σ kn := by
  obtain ⟨C, hS, hI, hU, hN0, hw, hk1, hk2, hN⟩ := id S
  refine P_aload_n C dL_law_827 1 rfl ?_
  refine P_ci (R_v (ci := 11) C kv_law_X11_who (As := []) rfl kd_0 rfl (fxl fx_0) (Nat.le_of_ble_eq_true rfl) dL_law_828 (LS_k S (by omega) (Nat.le_of_ble_eq_true rfl) (Nat.le_of_ble_eq_true rfl)) (L3_X11_who (Qk := fun r9 σ9 => INV (mV M) σ9 ∧ (FX (fun id => id = 34 ∨ id = 35 ∨ id = 36 ∨ id = 37 ∨ id = 38 ∨ id = 39 ∨ id = 40 ∨ id = 47 ∨ id = 48) (fun id k => (id = 33 ∧ k = 1) ∨ (id = 33 ∧ k = 3) ∨ (id = 33 ∧ k = 9) ∨ (id = 33 ∧ k = 10) ∨ (id = 33 ∧ k = 11)) σ σ9)) hI (fun _ _ h g0 => ⟨h, g0⟩))) ?_
  rintro r1 σ1 ⟨hI1, e1_0⟩
  refine P_pop C dL_law_831 rfl ?_
  refine P_aload_n C dL_law_832 2 rfl ?_
  refine P_ci (R_v (ci := 12) C kv_law_X12_who (As := []) rfl kd_74 rfl (fxl fx_74) (Nat.le_of_ble_eq_true rfl) dL_law_833 (by have h9 := LS_k S (by omega) (c := 0) (n := 0) (Nat.le_of_ble_eq_true rfl) (Nat.le_of_ble_eq_true rfl); exact h9) (L3_X12_who (Qk := fun r9 σ9 => INV (mV M) σ9 ∧ (Fr [74, 105, 106, 107, 108, 129, 131, 132, 134, 135, 136, 137] [1, 30, 33] σ1 σ9) ∧ ((gi σ9 74 1).toInt = (gi σ1 74 1).toInt)) hI1 (fun _ _ h g0 g1 => ⟨h, g0, g1⟩))) ?_
  rintro r2 σ2 ⟨hI2, e2_0, e2_1⟩
  refine P_pop C dL_law_836 rfl ?_
  refine P_goto C (tgt := 1381) dL_law_837 (by decide) ?_
  exact next M σ2 _ (LS_s S hI2 rfl rfl) (RC_who hc hI e1_0 e2_0 e2_1)
set_option maxHeartbeats 4000000 in
theorem lwc_22 {M : Mx} {L : Nat} {xs : Nat → Int32} {j : Nat} {σ : Sg} {kn : Nat × Nat} {i : Int32} (S : LSt M L xs j σ kn) (hc : REL σ) (hi : i.toInt = 6 * (j : Int)) (hL : 6 * j + 6 ≤ L) (h3 : L ≤ 3072) (next : ∀ M2 σ2 kn2, LSt M2 L xs (j + 1) σ2 kn2 → REL σ2 → PS M2 1381 (lwv i) [] σ2 kn2) : PS M 840 (lwv i) [] σ kn := by
  obtain ⟨C, hS, hI, hU, hN0, hw, hk1, hk2, hN⟩ := id S
  refine P_aload_n C dL_law_840 1 rfl ?_
  refine P_cell C hS (n := 1) rfl dL_law_841 dL_law_842 dL_law_843 dL_law_844 dL_law_845 rfl rfl (lw_in hi hL h3 (by decide) (by decide)) ?_
  refine P_cell C hS (n := 2) rfl dL_law_846 dL_law_847 dL_law_848 dL_law_849 dL_law_850 rfl rfl (lw_in hi hL h3 (by decide) (by decide)) ?_
  refine P_cell C hS (n := 3) rfl dL_law_851 dL_law_852 dL_law_853 dL_law_854 dL_law_855 rfl rfl (lw_in hi hL h3 (by decide) (by decide)) ?_
  refine P_cl (R_v (ci := 11) C kv_law_X11_odds (As := [.int (xs (i + 1).toNatClampNeg), .int (xs (i + 2).toNatClampNeg), .int (xs (i + 3).toNatClampNeg)]) rfl kd_0 rfl (fxl fx_0) (Nat.le_of_ble_eq_true rfl) dL_law_856 (LS_k S (by omega) (Nat.le_of_ble_eq_true rfl) (Nat.le_of_ble_eq_true rfl)) (L3_X11_odds (Qk := fun r9 σ9 => INV (mV M) σ9 ∧ (FX (fun id => id = 34 ∨ id = 35 ∨ id = 36 ∨ id = 37 ∨ id = 38 ∨ id = 39 ∨ id = 40 ∨ id = 47 ∨ id = 48) (fun id k => (id = 33 ∧ k = 1) ∨ (id = 33 ∧ k = 3) ∨ (id = 33 ∧ k = 9) ∨ (id = 33 ∧ k = 10) ∨ (id = 33 ∧ k = 11)) σ σ9)) hI (fun _ _ h g0 => ⟨h, g0⟩))) ?_
  rintro r1 σ1 ⟨hI1, e1_0⟩
  refine P_pop2 C dL_law_859 rfl ?_
  refine P_aload_n C dL_law_860 2 rfl ?_
  refine P_cell C hS (n := 1) rfl dL_law_861 dL_law_862 dL_law_863 dL_law_864 dL_law_865 rfl rfl (lw_in hi hL h3 (by decide) (by decide)) ?_
  refine P_cell C hS (n := 2) rfl dL_law_866 dL_law_867 dL_law_868 dL_law_869 dL_law_870 rfl rfl (lw_in hi hL h3 (by decide) (by decide)) ?_
  refine P_cell C hS (n := 3) rfl dL_law_871 dL_law_872 dL_law_873 dL_law_874 dL_law_875 rfl rfl (lw_in hi hL h3 (by decide) (by decide)) ?_
  refine P_cl (R_v (ci := 12) C kv_law_X12_odds (As := [.int (xs (i + 1).toNatClampNeg), .int (xs (i + 2).toNatClampNeg), .int (xs (i + 3).toNatClampNeg)]) rfl kd_74 rfl (fxl fx_74) (Nat.le_of_ble_eq_true rfl) dL_law_876 (by have h9 := LS_k S (by omega) (c := 0) (n := 0) (Nat.le_of_ble_eq_true rfl) (Nat.le_of_ble_eq_true rfl); exact h9) (L3_X12_odds (Qk := fun r9 σ9 => INV (mV M) σ9 ∧ (Fr [74, 105, 106, 107, 108, 129, 131, 132, 134, 135, 136, 137] [1, 30, 33] σ1 σ9) ∧ ((gi σ9 74 1).toInt = (gi σ1 74 1).toInt)) hI1 (fun _ _ h g0 g1 => ⟨h, g0, g1⟩))) ?_
  rintro r2 σ2 ⟨hI2, e2_0, e2_1⟩
  refine P_pop2 C dL_law_879 rfl ?_
  refine P_goto C (tgt := 1381) dL_law_880 (by decide) ?_
  exact next M σ2 _ (LS_s S hI2 rfl rfl) (RC_odds hc hI e1_0 e2_0 e2_1)
set_option maxHeartbeats 4000000 in
theorem lwc_23 {M : Mx} {L : Nat} {xs : Nat → Int32} {j : Nat} {σ : Sg} {kn : Nat × Nat} {i : Int32} (S : LSt M L xs j σ kn) (hc : REL σ) (hi : i.toInt = 6 * (j : Int)) (hL : 6 * j + 6 ≤ L) (h3 : L ≤ 3072) (next : ∀ M2 σ2 kn2, LSt M2 L xs (j + 1) σ2 kn2 → REL σ2 → PS M2 1381 (lwv i) [] σ2 kn2) : PS M 883 (lwv i) [] σ kn := by
  obtain ⟨C, hS, hI, hU, hN0, hw, hk1, hk2, hN⟩ := id S
  refine P_aload_n C dL_law_883 1 rfl ?_
  refine P_cell C hS (n := 1) rfl dL_law_884 dL_law_885 dL_law_886 dL_law_887 dL_law_888 rfl rfl (lw_in hi hL h3 (by decide) (by decide)) ?_
  refine P_cell C hS (n := 2) rfl dL_law_889 dL_law_890 dL_law_891 dL_law_892 dL_law_893 rfl rfl (lw_in hi hL h3 (by decide) (by decide)) ?_
  refine P_cl (R_v (ci := 11) C kv_law_X11_mean (As := [.int (xs (i + 1).toNatClampNeg), .int (xs (i + 2).toNatClampNeg)]) rfl kd_0 rfl (fxl fx_0) (Nat.le_of_ble_eq_true rfl) dL_law_894 (LS_k S (by omega) (Nat.le_of_ble_eq_true rfl) (Nat.le_of_ble_eq_true rfl)) (L3_X11_mean (Qk := fun r9 σ9 => INV (mV M) σ9 ∧ (FX (fun id => id = 34 ∨ id = 35 ∨ id = 36 ∨ id = 37 ∨ id = 38 ∨ id = 39 ∨ id = 40 ∨ id = 47 ∨ id = 48) (fun id k => (id = 33 ∧ k = 1) ∨ (id = 33 ∧ k = 3) ∨ (id = 33 ∧ k = 9) ∨ (id = 33 ∧ k = 10) ∨ (id = 33 ∧ k = 11)) σ σ9)) hI (fun _ _ h g0 => ⟨h, g0⟩))) ?_
  rintro r1 σ1 ⟨hI1, e1_0⟩
  refine P_pop2 C dL_law_897 rfl ?_
  refine P_aload_n C dL_law_898 2 rfl ?_
  refine P_cell C hS (n := 1) rfl dL_law_899 dL_law_900 dL_law_901 dL_law_902 dL_law_903 rfl rfl (lw_in hi hL h3 (by decide) (by decide)) ?_
  refine P_cell C hS (n := 2) rfl dL_law_904 dL_law_905 dL_law_906 dL_law_907 dL_law_908 rfl rfl (lw_in hi hL h3 (by decide) (by decide)) ?_
  refine P_cl (R_v (ci := 12) C kv_law_X12_mean (As := [.int (xs (i + 1).toNatClampNeg), .int (xs (i + 2).toNatClampNeg)]) rfl kd_74 rfl (fxl fx_74) (Nat.le_of_ble_eq_true rfl) dL_law_909 (by have h9 := LS_k S (by omega) (c := 0) (n := 0) (Nat.le_of_ble_eq_true rfl) (Nat.le_of_ble_eq_true rfl); exact h9) (L3_X12_mean (Qk := fun r9 σ9 => INV (mV M) σ9 ∧ (Fr [74, 105, 106, 107, 108, 129, 131, 132, 134, 135, 136, 137] [1, 30, 33] σ1 σ9) ∧ ((gi σ9 74 1).toInt = (gi σ1 74 1).toInt)) hI1 (fun _ _ h g0 g1 => ⟨h, g0, g1⟩))) ?_
  rintro r2 σ2 ⟨hI2, e2_0, e2_1⟩
  refine P_pop2 C dL_law_912 rfl ?_
  refine P_goto C (tgt := 1381) dL_law_913 (by decide) ?_
  exact next M σ2 _ (LS_s S hI2 rfl rfl) (RC_mean hc hI e1_0 e2_0 e2_1)
set_option maxHeartbeats 4000000 in
theorem lwc_24 {M : Mx} {L : Nat} {xs : Nat → Int32} {j : Nat} {σ : Sg} {kn : Nat × Nat} {i : Int32} (S : LSt M L xs j σ kn) (hc : REL σ) (hi : i.toInt = 6 * (j : Int)) (hL : 6 * j + 6 ≤ L) (h3 : L ≤ 3072) (next : ∀ M2 σ2 kn2, LSt M2 L xs (j + 1) σ2 kn2 → REL σ2 → PS M2 1381 (lwv i) [] σ2 kn2) : PS M 916 (lwv i) [] σ kn := by
  obtain ⟨C, hS, hI, hU, hN0, hw, hk1, hk2, hN⟩ := id S
  refine P_aload_n C dL_law_916 1 rfl ?_
  refine P_cell C hS (n := 1) rfl dL_law_917 dL_law_918 dL_law_919 dL_law_920 dL_law_921 rfl rfl (lw_in hi hL h3 (by decide) (by decide)) ?_
  refine P_ci (R_v (ci := 11) C kv_law_X11_plan (As := [.int (xs (i + 1).toNatClampNeg)]) rfl kd_0 rfl (fxl fx_0) (Nat.le_of_ble_eq_true rfl) dL_law_922 (LS_k S (by omega) (Nat.le_of_ble_eq_true rfl) (Nat.le_of_ble_eq_true rfl)) (L3_X11_plan (Qk := fun r9 σ9 => INV (mV M) σ9 ∧ (FX (fun id => id = 12) (fun id k => (id = 11 ∧ k = 1)) σ σ9) ∧ (PBA r9 (xs (i + 1).toNatClampNeg) (gi σ 11 1) (gi σ9 11 1) (2) 10)) hI (fun _ _ h g0 g1 => ⟨h, g0, g1⟩))) ?_
  rintro r1 σ1 ⟨hI1, e1_0, e1_1⟩
  refine P_pop C dL_law_925 rfl ?_
  refine P_aload_n C dL_law_926 2 rfl ?_
  refine P_cell C hS (n := 1) rfl dL_law_927 dL_law_928 dL_law_929 dL_law_930 dL_law_931 rfl rfl (lw_in hi hL h3 (by decide) (by decide)) ?_
  refine P_ci (R_v (ci := 12) C kv_law_X12_plan (As := [.int (xs (i + 1).toNatClampNeg)]) rfl kd_74 rfl (fxl fx_74) (Nat.le_of_ble_eq_true rfl) dL_law_932 (by have h9 := LS_k S (by omega) (c := 0) (n := 0) (Nat.le_of_ble_eq_true rfl) (Nat.le_of_ble_eq_true rfl); exact h9) (L3_X12_plan (Qk := fun r9 σ9 => INV (mV M) σ9 ∧ (Fr [74, 147] [45] σ1 σ9) ∧ (PBA r9 (xs (i + 1).toNatClampNeg) (gi σ1 74 45) (gi σ9 74 45) (2) 10)) hI1 (fun _ _ h g0 g1 => ⟨h, g0, g1⟩))) ?_
  rintro r2 σ2 ⟨hI2, e2_0, e2_1⟩
  refine P_pop C dL_law_935 rfl ?_
  refine P_goto C (tgt := 1381) dL_law_936 (by decide) ?_
  exact next M σ2 _ (LS_s S hI2 rfl rfl) (RC_plan hc hI e1_0 e1_1 e2_0 e2_1).1
set_option maxHeartbeats 4000000 in
theorem lwc_25 {M : Mx} {L : Nat} {xs : Nat → Int32} {j : Nat} {σ : Sg} {kn : Nat × Nat} {i : Int32} (S : LSt M L xs j σ kn) (hc : REL σ) (hi : i.toInt = 6 * (j : Int)) (hL : 6 * j + 6 ≤ L) (h3 : L ≤ 3072) (next : ∀ M2 σ2 kn2, LSt M2 L xs (j + 1) σ2 kn2 → REL σ2 → PS M2 1381 (lwv i) [] σ2 kn2) : PS M 939 (lwv i) [] σ kn := by
  obtain ⟨C, hS, hI, hU, hN0, hw, hk1, hk2, hN⟩ := id S
  refine P_aload_n C dL_law_939 1 rfl ?_
  refine P_ci (R_v (ci := 11) C kv_law_X11_planned (As := []) rfl kd_0 rfl (fxl fx_0) (Nat.le_of_ble_eq_true rfl) dL_law_940 (LS_k S (by omega) (Nat.le_of_ble_eq_true rfl) (Nat.le_of_ble_eq_true rfl)) (L3_X11_planned (Qk := fun r9 σ9 => INV (mV M) σ9 ∧ (FX (fun id => id = 34 ∨ id = 35 ∨ id = 36 ∨ id = 37 ∨ id = 38 ∨ id = 39 ∨ id = 40 ∨ id = 47 ∨ id = 48) (fun id k => (id = 33 ∧ k = 1) ∨ (id = 33 ∧ k = 3) ∨ (id = 33 ∧ k = 9) ∨ (id = 33 ∧ k = 10) ∨ (id = 33 ∧ k = 11)) σ σ9)) hI (fun _ _ h g0 => ⟨h, g0⟩))) ?_
  rintro r1 σ1 ⟨hI1, e1_0⟩
  refine P_pop C dL_law_943 rfl ?_
  refine P_aload_n C dL_law_944 2 rfl ?_
  refine P_ci (R_v (ci := 12) C kv_law_X12_planned (As := []) rfl kd_74 rfl (fxl fx_74) (Nat.le_of_ble_eq_true rfl) dL_law_945 (by have h9 := LS_k S (by omega) (c := 0) (n := 0) (Nat.le_of_ble_eq_true rfl) (Nat.le_of_ble_eq_true rfl); exact h9) (L3_X12_planned (Qk := fun r9 σ9 => INV (mV M) σ9 ∧ (Fr [74, 105, 106, 107, 108, 129, 131, 132, 134, 135, 136, 137] [1, 30, 33] σ1 σ9) ∧ ((gi σ9 74 1).toInt = (gi σ1 74 1).toInt)) hI1 (fun _ _ h g0 g1 => ⟨h, g0, g1⟩))) ?_
  rintro r2 σ2 ⟨hI2, e2_0, e2_1⟩
  refine P_pop C dL_law_948 rfl ?_
  refine P_goto C (tgt := 1381) dL_law_949 (by decide) ?_
  exact next M σ2 _ (LS_s S hI2 rfl rfl) (RC_planned hc hI e1_0 e2_0 e2_1)
set_option maxHeartbeats 4000000 in
theorem lwc_26 {M : Mx} {L : Nat} {xs : Nat → Int32} {j : Nat} {σ : Sg} {kn : Nat × Nat} {i : Int32} (S : LSt M L xs j σ kn) (hc : REL σ) (hi : i.toInt = 6 * (j : Int)) (hL : 6 * j + 6 ≤ L) (h3 : L ≤ 3072) (next : ∀ M2 σ2 kn2, LSt M2 L xs (j + 1) σ2 kn2 → REL σ2 → PS M2 1381 (lwv i) [] σ2 kn2) : PS M 952 (lwv i) [] σ kn := by
  obtain ⟨C, hS, hI, hU, hN0, hw, hk1, hk2, hN⟩ := id S
  refine P_aload_n C dL_law_952 1 rfl ?_
  refine P_cell C hS (n := 1) rfl dL_law_953 dL_law_954 dL_law_955 dL_law_956 dL_law_957 rfl rfl (lw_in hi hL h3 (by decide) (by decide)) ?_
  refine P_ci (R_v (ci := 11) C kv_law_X11_book (As := [.int (xs (i + 1).toNatClampNeg)]) rfl kd_0 rfl (fxl fx_0) (Nat.le_of_ble_eq_true rfl) dL_law_958 (LS_k S (by omega) (Nat.le_of_ble_eq_true rfl) (Nat.le_of_ble_eq_true rfl)) (L3_X11_book (Qk := fun r9 σ9 => INV (mV M) σ9 ∧ (FX (fun id => id = 14) (fun id k => (id = 13 ∧ k = 1)) σ σ9) ∧ (PBA r9 (xs (i + 1).toNatClampNeg) (gi σ 13 1) (gi σ9 13 1) ((gi σ 1 1).toInt - 1) 8)) hI (fun _ _ h g0 g1 => ⟨h, g0, g1⟩))) ?_
  rintro r1 σ1 ⟨hI1, e1_0, e1_1⟩
  refine P_pop C dL_law_961 rfl ?_
  refine P_aload_n C dL_law_962 2 rfl ?_
  refine P_cell C hS (n := 1) rfl dL_law_963 dL_law_964 dL_law_965 dL_law_966 dL_law_967 rfl rfl (lw_in hi hL h3 (by decide) (by decide)) ?_
  refine P_ci (R_v (ci := 12) C kv_law_X12_book (As := [.int (xs (i + 1).toNatClampNeg)]) rfl kd_74 rfl (fxl fx_74) (Nat.le_of_ble_eq_true rfl) dL_law_968 (by have h9 := LS_k S (by omega) (c := 0) (n := 0) (Nat.le_of_ble_eq_true rfl) (Nat.le_of_ble_eq_true rfl); exact h9) (L3_X12_book (Qk := fun r9 σ9 => INV (mV M) σ9 ∧ (Fr [74, 148] [46] σ1 σ9) ∧ (PBA r9 (xs (i + 1).toNatClampNeg) (gi σ1 74 46) (gi σ9 74 46) ((gi σ1 74 0).toInt - 1) 8)) hI1 (fun _ _ h g0 g1 => ⟨h, g0, g1⟩))) ?_
  rintro r2 σ2 ⟨hI2, e2_0, e2_1⟩
  refine P_pop C dL_law_971 rfl ?_
  refine P_goto C (tgt := 1381) dL_law_972 (by decide) ?_
  exact next M σ2 _ (LS_s S hI2 rfl rfl) (RC_book hc hI e1_0 e1_1 e2_0 e2_1).1
set_option maxHeartbeats 4000000 in
theorem lwc_27 {M : Mx} {L : Nat} {xs : Nat → Int32} {j : Nat} {σ : Sg} {kn : Nat × Nat} {i : Int32} (S : LSt M L xs j σ kn) (hc : REL σ) (hi : i.toInt = 6 * (j : Int)) (hL : 6 * j + 6 ≤ L) (h3 : L ≤ 3072) (next : ∀ M2 σ2 kn2, LSt M2 L xs (j + 1) σ2 kn2 → REL σ2 → PS M2 1381 (lwv i) [] σ2 kn2) : PS M 975 (lwv i) [] σ kn := by
  obtain ⟨C, hS, hI, hU, hN0, hw, hk1, hk2, hN⟩ := id S
  refine P_aload_n C dL_law_975 1 rfl ?_
  refine P_ci (R_v (ci := 11) C kv_law_X11_looked (As := []) rfl kd_0 rfl (fxl fx_0) (Nat.le_of_ble_eq_true rfl) dL_law_976 (LS_k S (by omega) (Nat.le_of_ble_eq_true rfl) (Nat.le_of_ble_eq_true rfl)) (L3_X11_looked (Qk := fun r9 σ9 => INV (mV M) σ9 ∧ (FX (fun id => id = 34 ∨ id = 35 ∨ id = 36 ∨ id = 37 ∨ id = 38 ∨ id = 39 ∨ id = 40 ∨ id = 47 ∨ id = 48) (fun id k => (id = 33 ∧ k = 1) ∨ (id = 33 ∧ k = 3) ∨ (id = 33 ∧ k = 9) ∨ (id = 33 ∧ k = 10) ∨ (id = 33 ∧ k = 11)) σ σ9)) hI (fun _ _ h g0 => ⟨h, g0⟩))) ?_
  rintro r1 σ1 ⟨hI1, e1_0⟩
  refine P_pop C dL_law_979 rfl ?_
  refine P_aload_n C dL_law_980 2 rfl ?_
  refine P_ci (R_v (ci := 12) C kv_law_X12_looked (As := []) rfl kd_74 rfl (fxl fx_74) (Nat.le_of_ble_eq_true rfl) dL_law_981 (by have h9 := LS_k S (by omega) (c := 0) (n := 0) (Nat.le_of_ble_eq_true rfl) (Nat.le_of_ble_eq_true rfl); exact h9) (L3_X12_looked (Qk := fun r9 σ9 => INV (mV M) σ9 ∧ (Fr [74, 105, 106, 107, 108, 129, 131, 132, 134, 135, 136, 137] [1, 30, 33] σ1 σ9) ∧ ((gi σ9 74 1).toInt = (gi σ1 74 1).toInt)) hI1 (fun _ _ h g0 g1 => ⟨h, g0, g1⟩))) ?_
  rintro r2 σ2 ⟨hI2, e2_0, e2_1⟩
  refine P_pop C dL_law_984 rfl ?_
  refine P_goto C (tgt := 1381) dL_law_985 (by decide) ?_
  exact next M σ2 _ (LS_s S hI2 rfl rfl) (RC_looked hc hI e1_0 e2_0 e2_1)
set_option maxHeartbeats 4000000 in
theorem lwc_28 {M : Mx} {L : Nat} {xs : Nat → Int32} {j : Nat} {σ : Sg} {kn : Nat × Nat} {i : Int32} (S : LSt M L xs j σ kn) (hc : REL σ) (hi : i.toInt = 6 * (j : Int)) (hL : 6 * j + 6 ≤ L) (h3 : L ≤ 3072) (next : ∀ M2 σ2 kn2, LSt M2 L xs (j + 1) σ2 kn2 → REL σ2 → PS M2 1381 (lwv i) [] σ2 kn2) : PS M 988 (lwv i) [] σ kn := by
  obtain ⟨C, hS, hI, hU, hN0, hw, hk1, hk2, hN⟩ := id S
  refine P_aload_n C dL_law_988 1 rfl ?_
  refine P_cell C hS (n := 1) rfl dL_law_989 dL_law_990 dL_law_991 dL_law_992 dL_law_993 rfl rfl (lw_in hi hL h3 (by decide) (by decide)) ?_
  refine P_cell C hS (n := 2) rfl dL_law_994 dL_law_995 dL_law_996 dL_law_997 dL_law_998 rfl rfl (lw_in hi hL h3 (by decide) (by decide)) ?_
  refine P_ci (R_v (ci := 11) C kv_law_X11_judge (As := [.int (xs (i + 1).toNatClampNeg), .int (xs (i + 2).toNatClampNeg)]) rfl kd_0 rfl (fxl fx_0) (Nat.le_of_ble_eq_true rfl) dL_law_999 (LS_k S (by omega) (Nat.le_of_ble_eq_true rfl) (Nat.le_of_ble_eq_true rfl)) (L3_X11_judge (Qk := fun r9 σ9 => INV (mV M) σ9 ∧ (FX (fun id => False) (fun _ _ => False) σ σ9)) hI (fun _ _ h g0 => ⟨h, g0⟩))) ?_
  rintro r1 σ1 ⟨hI1, e1_0⟩
  refine P_pop C dL_law_1002 rfl ?_
  refine P_aload_n C dL_law_1003 2 rfl ?_
  refine P_cell C hS (n := 1) rfl dL_law_1004 dL_law_1005 dL_law_1006 dL_law_1007 dL_law_1008 rfl rfl (lw_in hi hL h3 (by decide) (by decide)) ?_
  refine P_cell C hS (n := 2) rfl dL_law_1009 dL_law_1010 dL_law_1011 dL_law_1012 dL_law_1013 rfl rfl (lw_in hi hL h3 (by decide) (by decide)) ?_
  refine P_ci (R_v (ci := 12) C kv_law_X12_judge (As := [.int (xs (i + 1).toNatClampNeg), .int (xs (i + 2).toNatClampNeg)]) rfl kd_74 rfl (fxl fx_74) (Nat.le_of_ble_eq_true rfl) dL_law_1014 (by have h9 := LS_k S (by omega) (c := 0) (n := 0) (Nat.le_of_ble_eq_true rfl) (Nat.le_of_ble_eq_true rfl); exact h9) (L3_X12_judge (Qk := fun r9 σ9 => INV (mV M) σ9 ∧ (Fr [] [] σ1 σ9)) hI1 (fun _ _ h g0 => ⟨h, g0⟩))) ?_
  rintro r2 σ2 ⟨hI2, e2_0⟩
  refine P_pop C dL_law_1017 rfl ?_
  refine P_goto C (tgt := 1381) dL_law_1018 (by decide) ?_
  exact next M σ2 _ (LS_s S hI2 rfl rfl) (RC_judge hc hI e1_0 e2_0)
set_option maxHeartbeats 4000000 in
theorem lwc_29 {M : Mx} {L : Nat} {xs : Nat → Int32} {j : Nat} {σ : Sg} {kn : Nat × Nat} {i : Int32} (S : LSt M L xs j σ kn) (hc : REL σ) (hi : i.toInt = 6 * (j : Int)) (hL : 6 * j + 6 ≤ L) (h3 : L ≤ 3072) (next : ∀ M2 σ2 kn2, LSt M2 L xs (j + 1) σ2 kn2 → REL σ2 → PS M2 1381 (lwv i) [] σ2 kn2) : PS M 1021 (lwv i) [] σ kn := by
  obtain ⟨C, hS, hI, hU, hN0, hw, hk1, hk2, hN⟩ := id S
  refine P_aload_n C dL_law_1021 1 rfl ?_
  refine P_ci (R_v (ci := 11) C kv_law_X11_image (As := []) rfl kd_0 rfl (fxl fx_0) (Nat.le_of_ble_eq_true rfl) dL_law_1022 (LS_k S (by omega) (Nat.le_of_ble_eq_true rfl) (Nat.le_of_ble_eq_true rfl)) (L3_X11_image (Qk := fun r9 σ9 => INV (mV M) σ9 ∧ (FX (fun id => id = 18 ∨ id = 19 ∨ id = 20 ∨ id = 21 ∨ id = 22 ∨ id = 23 ∨ id = 24 ∨ id = 26 ∨ id = 28 ∨ id = 30) (fun id k => (id = 0 ∧ k = 3) ∨ (id = 17 ∧ k = 1) ∨ (id = 17 ∧ k = 3) ∨ (id = 17 ∧ k = 9) ∨ (id = 17 ∧ k = 10) ∨ (id = 17 ∧ k = 11) ∨ (id = 25 ∧ k = 1) ∨ (id = 27 ∧ k = 1) ∨ (id = 29 ∧ k = 1)) σ σ9) ∧ ((gi σ9 17 1).toInt = (gi σ 1 1).toInt) ∧ ((gi σ9 17 3).toInt = (gi σ 1 3).toInt) ∧ ((gi σ9 17 9).toInt = (gi σ 1 9).toInt) ∧ ((gi σ9 25 1).toInt = (gi σ 9 1).toInt) ∧ (CPY σ σ9 17 1) ∧ ((gi σ9 27 1).toInt = (gi σ 11 1).toInt) ∧ ((gi σ9 29 1).toInt = (gi σ 13 1).toInt) ∧ ((gi σ9 0 3).toInt = 1) ∧ (r9.toInt = (gi σ 1 1).toInt)) hI (fun _ _ h g0 g1 g2 g3 g4 g5 g6 g7 g8 g9 => ⟨h, g0, g1, g2, g3, g4, g5, g6, g7, g8, g9⟩))) ?_
  rintro r1 σ1 ⟨hI1, e1_0, e1_1, e1_2, e1_3, e1_4, e1_5, e1_6, e1_7, e1_8, e1_9⟩
  refine P_pop C dL_law_1025 rfl ?_
  refine P_aload_n C dL_law_1026 2 rfl ?_
  refine P_ci (R_v (ci := 12) C kv_law_X12_image (As := []) rfl kd_74 rfl (fxl fx_74) (Nat.le_of_ble_eq_true rfl) dL_law_1027 (by have h9 := LS_k S (by omega) (c := 0) (n := 0) (Nat.le_of_ble_eq_true rfl) (Nat.le_of_ble_eq_true rfl); exact h9) (L3_X12_image (Qk := fun r9 σ9 => INV (mV M) σ9 ∧ (Fr [74, 156, 157, 158, 159, 160, 161, 162, 163, 164, 165, 166, 167, 168] [49, 50, 51, 52, 53, 54, 55] σ1 σ9) ∧ ((gi σ9 74 51).toInt = (gi σ1 74 0).toInt) ∧ ((gi σ9 74 52).toInt = (gi σ1 74 1).toInt) ∧ ((gi σ9 74 50).toInt = (gi σ1 74 12).toInt) ∧ ((gi σ9 74 54).toInt = (gi σ1 74 45).toInt) ∧ ((gi σ9 74 55).toInt = (gi σ1 74 46).toInt) ∧ ((gi σ9 74 49).toInt = 1) ∧ (r9.toInt = (gi σ1 74 0).toInt) ∧ ((gi σ9 74 53).toInt = (gi σ1 74 41).toInt) ∧ (F_X12_image σ1 = (r9, σ9))) hI1 (fun _ _ h g0 g1 g2 g3 g4 g5 g6 g7 g8 g9 => ⟨h, g0, g1, g2, g3, g4, g5, g6, g7, g8, g9⟩))) ?_
  rintro r2 σ2 ⟨hI2, e2_0, e2_1, e2_2, e2_3, e2_4, e2_5, e2_6, e2_7, e2_8, e2_9⟩
  refine P_pop C dL_law_1030 rfl ?_
  refine P_goto C (tgt := 1381) dL_law_1031 (by decide) ?_
  exact next M σ2 _ (LS_s S hI2 rfl rfl) (RC_image hc hI e1_0 e1_1 e1_2 e1_3 e1_4 e1_5 e1_6 e1_7 e1_8 e1_9 e2_0 e2_1 e2_2 e2_3 e2_4 e2_5 e2_6 e2_7 e2_8 e2_9).1
set_option maxHeartbeats 4000000 in
theorem lwc_30 {M : Mx} {L : Nat} {xs : Nat → Int32} {j : Nat} {σ : Sg} {kn : Nat × Nat} {i : Int32} (S : LSt M L xs j σ kn) (hc : REL σ) (hi : i.toInt = 6 * (j : Int)) (hL : 6 * j + 6 ≤ L) (h3 : L ≤ 3072) (next : ∀ M2 σ2 kn2, LSt M2 L xs (j + 1) σ2 kn2 → REL σ2 → PS M2 1381 (lwv i) [] σ2 kn2) : PS M 1034 (lwv i) [] σ kn := by
  obtain ⟨C, hS, hI, hU, hN0, hw, hk1, hk2, hN⟩ := id S
  refine P_aload_n C dL_law_1034 1 rfl ?_
  refine P_ci (R_v (ci := 11) C kv_law_X11_undo (As := []) rfl kd_0 rfl (fxl fx_0) (Nat.le_of_ble_eq_true rfl) dL_law_1035 (LS_k S (by omega) (Nat.le_of_ble_eq_true rfl) (Nat.le_of_ble_eq_true rfl)) (L3_X11_undo (Qk := fun r9 σ9 => INV (mV M) σ9 ∧ (FX (fun id => id = 10 ∨ id = 12 ∨ id = 14 ∨ id = 2 ∨ id = 3 ∨ id = 4 ∨ id = 5 ∨ id = 6 ∨ id = 7 ∨ id = 8) (fun id k => (id = 1 ∧ k = 1) ∨ (id = 1 ∧ k = 3) ∨ (id = 1 ∧ k = 9) ∨ (id = 1 ∧ k = 10) ∨ (id = 1 ∧ k = 11) ∨ (id = 11 ∧ k = 1) ∨ (id = 13 ∧ k = 1) ∨ (id = 9 ∧ k = 1)) σ σ9) ∧ ((gi σ9 1 9).toInt ≤ 9999) ∧ ((gi σ9 1 3).toInt = (gi σ9 1 1).toInt) ∧ ((gi σ9 9 1).toInt % 3 = 0) ∧ ((gi σ 0 3).toInt ≠ 0 → CPY σ σ9 1 17) ∧ ((gi σ 0 3).toInt = 0 → σ9 = σ) ∧ (((gi σ 0 3).toInt = 0 → r9.toInt = -3 ∧ (gi σ9 1 1).toInt = (gi σ 1 1).toInt ∧ (gi σ9 11 1).toInt = (gi σ 11 1).toInt ∧ (gi σ9 13 1).toInt = (gi σ 13 1).toInt ∧ (gi σ9 1 9).toInt = (gi σ 1 9).toInt ∧ (gi σ9 9 1).toInt = (gi σ 9 1).toInt) ∧ ((gi σ 0 3).toInt ≠ 0 → r9.toInt = (gi σ 17 1).toInt ∧ (gi σ9 1 1).toInt = (gi σ 17 1).toInt ∧ (gi σ9 11 1).toInt = (gi σ 27 1).toInt ∧ (gi σ9 13 1).toInt = (gi σ 29 1).toInt ∧ (gi σ9 1 9).toInt = (gi σ 17 9).toInt ∧ (gi σ9 9 1).toInt = (gi σ 25 1).toInt))) hI (fun _ _ h g0 g1 g2 g3 g4 g5 g6 => ⟨h, g0, g1, g2, g3, g4, g5, g6⟩))) ?_
  rintro r1 σ1 ⟨hI1, e1_0, e1_1, e1_2, e1_3, e1_4, e1_5, e1_6⟩
  refine P_pop C dL_law_1038 rfl ?_
  refine P_aload_n C dL_law_1039 2 rfl ?_
  refine P_ci (R_v (ci := 12) C kv_law_X12_undo (As := []) rfl kd_74 rfl (fxl fx_74) (Nat.le_of_ble_eq_true rfl) dL_law_1040 (by have h9 := LS_k S (by omega) (c := 0) (n := 0) (Nat.le_of_ble_eq_true rfl) (Nat.le_of_ble_eq_true rfl); exact h9) (L3_X12_undo (Qk := fun r9 σ9 => INV (mV M) σ9 ∧ (Fr [74, 103, 104, 105, 106, 107, 108, 109, 110, 142, 143, 144, 147, 148] [0, 1, 2, 12, 41, 45, 46] σ1 σ9) ∧ ((gi σ9 74 1).toInt ≤ 9999) ∧ ((gi σ9 74 12).toInt < (gi σ9 74 11).toInt) ∧ (((gi σ1 74 49).toInt = 0 → r9.toInt = -3 ∧ (gi σ9 74 0).toInt = (gi σ1 74 0).toInt ∧ (gi σ9 74 45).toInt = (gi σ1 74 45).toInt ∧ (gi σ9 74 46).toInt = (gi σ1 74 46).toInt ∧ (gi σ9 74 1).toInt = (gi σ1 74 1).toInt ∧ (gi σ9 74 41).toInt = (gi σ1 74 41).toInt) ∧ ((gi σ1 74 49).toInt ≠ 0 → r9.toInt = (gi σ1 74 51).toInt ∧ (gi σ9 74 0).toInt = (gi σ1 74 51).toInt ∧ (gi σ9 74 45).toInt = (gi σ1 74 54).toInt ∧ (gi σ9 74 46).toInt = (gi σ1 74 55).toInt ∧ (gi σ9 74 1).toInt = (gi σ1 74 52).toInt ∧ (gi σ9 74 41).toInt = (gi σ1 74 53).toInt)) ∧ (F_X12_undo σ1 = (r9, σ9))) hI1 (fun _ _ h g0 g1 g2 g3 g4 => ⟨h, g0, g1, g2, g3, g4⟩))) ?_
  rintro r2 σ2 ⟨hI2, e2_0, e2_1, e2_2, e2_3, e2_4⟩
  refine P_pop C dL_law_1043 rfl ?_
  refine P_goto C (tgt := 1381) dL_law_1044 (by decide) ?_
  exact next M σ2 _ (LS_s S hI2 rfl rfl) (RC_undo hc hI e1_0 e1_1 e1_2 e1_3 e1_4 e1_5 e1_6 e2_0 e2_1 e2_2 e2_3 e2_4).1
set_option maxHeartbeats 4000000 in
theorem lwc_31 {M : Mx} {L : Nat} {xs : Nat → Int32} {j : Nat} {σ : Sg} {kn : Nat × Nat} {i : Int32} (S : LSt M L xs j σ kn) (hc : REL σ) (hi : i.toInt = 6 * (j : Int)) (hL : 6 * j + 6 ≤ L) (h3 : L ≤ 3072) (next : ∀ M2 σ2 kn2, LSt M2 L xs (j + 1) σ2 kn2 → REL σ2 → PS M2 1381 (lwv i) [] σ2 kn2) : PS M 1047 (lwv i) [] σ kn := by
  obtain ⟨C, hS, hI, hU, hN0, hw, hk1, hk2, hN⟩ := id S
  refine P_aload_n C dL_law_1047 1 rfl ?_
  refine P_cell C hS (n := 1) rfl dL_law_1048 dL_law_1049 dL_law_1050 dL_law_1051 dL_law_1052 rfl rfl (lw_in hi hL h3 (by decide) (by decide)) ?_
  refine P_cell C hS (n := 2) rfl dL_law_1053 dL_law_1054 dL_law_1055 dL_law_1056 dL_law_1057 rfl rfl (lw_in hi hL h3 (by decide) (by decide)) ?_
  refine P_cell C hS (n := 3) rfl dL_law_1058 dL_law_1059 dL_law_1060 dL_law_1061 dL_law_1062 rfl rfl (lw_in hi hL h3 (by decide) (by decide)) ?_
  refine P_ci (R_v (ci := 11) C kv_law_X11_act (As := [.int (xs (i + 1).toNatClampNeg), .int (xs (i + 2).toNatClampNeg), .int (xs (i + 3).toNatClampNeg)]) rfl kd_0 rfl (fxl fx_0) (Nat.le_of_ble_eq_true rfl) dL_law_1063 (LS_k S (by omega) (Nat.le_of_ble_eq_true rfl) (Nat.le_of_ble_eq_true rfl)) (L3_X11_act (Qk := fun r9 σ9 => INV (mV M) σ9 ∧ (FX (fun id => id = 65) (fun id k => (id = 64 ∧ k = 1)) σ σ9) ∧ (F_X11_act (xs (i + 1).toNatClampNeg) (xs (i + 2).toNatClampNeg) (xs (i + 3).toNatClampNeg) σ = (r9, σ9))) hI (fun _ _ h g0 g1 => ⟨h, g0, g1⟩))) ?_
  rintro r1 σ1 ⟨hI1, e1_0, e1_1⟩
  refine P_pop C dL_law_1066 rfl ?_
  refine P_aload_n C dL_law_1067 2 rfl ?_
  refine P_cell C hS (n := 1) rfl dL_law_1068 dL_law_1069 dL_law_1070 dL_law_1071 dL_law_1072 rfl rfl (lw_in hi hL h3 (by decide) (by decide)) ?_
  refine P_cell C hS (n := 2) rfl dL_law_1073 dL_law_1074 dL_law_1075 dL_law_1076 dL_law_1077 rfl rfl (lw_in hi hL h3 (by decide) (by decide)) ?_
  refine P_cell C hS (n := 3) rfl dL_law_1078 dL_law_1079 dL_law_1080 dL_law_1081 dL_law_1082 rfl rfl (lw_in hi hL h3 (by decide) (by decide)) ?_
  refine P_ci (R_v (ci := 12) C kv_law_X12_act (As := [.int (xs (i + 1).toNatClampNeg), .int (xs (i + 2).toNatClampNeg), .int (xs (i + 3).toNatClampNeg)]) rfl kd_74 rfl (fxl fx_74) (Nat.le_of_ble_eq_true rfl) dL_law_1083 (by have h9 := LS_k S (by omega) (c := 0) (n := 0) (Nat.le_of_ble_eq_true rfl) (Nat.le_of_ble_eq_true rfl); exact h9) (L3_X12_act (Qk := fun r9 σ9 => INV (mV M) σ9 ∧ (Fr [74, 170] [69] σ1 σ9) ∧ (F_X12_act (xs (i + 1).toNatClampNeg) (xs (i + 2).toNatClampNeg) (xs (i + 3).toNatClampNeg) σ1 = (r9, σ9))) hI1 (fun _ _ h g0 g1 => ⟨h, g0, g1⟩))) ?_
  rintro r2 σ2 ⟨hI2, e2_0, e2_1⟩
  refine P_pop C dL_law_1086 rfl ?_
  refine P_goto C (tgt := 1381) dL_law_1087 (by decide) ?_
  exact next M σ2 _ (LS_s S hI2 rfl rfl) (RC_act hc hI e1_0 e1_1 e2_0 e2_1).1
set_option maxHeartbeats 4000000 in
theorem lwc_32 {M : Mx} {L : Nat} {xs : Nat → Int32} {j : Nat} {σ : Sg} {kn : Nat × Nat} {i : Int32} (S : LSt M L xs j σ kn) (hc : REL σ) (hi : i.toInt = 6 * (j : Int)) (hL : 6 * j + 6 ≤ L) (h3 : L ≤ 3072) (next : ∀ M2 σ2 kn2, LSt M2 L xs (j + 1) σ2 kn2 → REL σ2 → PS M2 1381 (lwv i) [] σ2 kn2) : PS M 1090 (lwv i) [] σ kn := by
  obtain ⟨C, hS, hI, hU, hN0, hw, hk1, hk2, hN⟩ := id S
  refine P_aload_n C dL_law_1090 1 rfl ?_
  refine P_cell C hS (n := 1) rfl dL_law_1091 dL_law_1092 dL_law_1093 dL_law_1094 dL_law_1095 rfl rfl (lw_in hi hL h3 (by decide) (by decide)) ?_
  refine P_ci (R_v (ci := 11) C kv_law_X11_trace (As := [.int (xs (i + 1).toNatClampNeg)]) rfl kd_0 rfl (fxl fx_0) (Nat.le_of_ble_eq_true rfl) dL_law_1096 (LS_k S (by omega) (Nat.le_of_ble_eq_true rfl) (Nat.le_of_ble_eq_true rfl)) (L3_X11_trace (Qk := fun r9 σ9 => INV (mV M) σ9 ∧ (FX (fun id => False) (fun _ _ => False) σ σ9) ∧ (F_X11_trace (xs (i + 1).toNatClampNeg) σ = (r9, σ9))) hI (fun _ _ h g0 g1 => ⟨h, g0, g1⟩))) ?_
  rintro r1 σ1 ⟨hI1, e1_0, e1_1⟩
  refine P_pop C dL_law_1099 rfl ?_
  refine P_aload_n C dL_law_1100 2 rfl ?_
  refine P_cell C hS (n := 1) rfl dL_law_1101 dL_law_1102 dL_law_1103 dL_law_1104 dL_law_1105 rfl rfl (lw_in hi hL h3 (by decide) (by decide)) ?_
  refine P_ci (R_v (ci := 12) C kv_law_X12_trace (As := [.int (xs (i + 1).toNatClampNeg)]) rfl kd_74 rfl (fxl fx_74) (Nat.le_of_ble_eq_true rfl) dL_law_1106 (by have h9 := LS_k S (by omega) (c := 0) (n := 0) (Nat.le_of_ble_eq_true rfl) (Nat.le_of_ble_eq_true rfl); exact h9) (L3_X12_trace (Qk := fun r9 σ9 => INV (mV M) σ9 ∧ (Fr [] [] σ1 σ9) ∧ (F_X12_trace (xs (i + 1).toNatClampNeg) σ1 = (r9, σ9))) hI1 (fun _ _ h g0 g1 => ⟨h, g0, g1⟩))) ?_
  rintro r2 σ2 ⟨hI2, e2_0, e2_1⟩
  refine P_pop C dL_law_1109 rfl ?_
  refine P_goto C (tgt := 1381) dL_law_1110 (by decide) ?_
  exact next M σ2 _ (LS_s S hI2 rfl rfl) (RC_trace hc hI e1_0 e1_1 e2_0 e2_1).1
set_option maxHeartbeats 4000000 in
theorem lwc_33 {M : Mx} {L : Nat} {xs : Nat → Int32} {j : Nat} {σ : Sg} {kn : Nat × Nat} {i : Int32} (S : LSt M L xs j σ kn) (hc : REL σ) (hi : i.toInt = 6 * (j : Int)) (hL : 6 * j + 6 ≤ L) (h3 : L ≤ 3072) (next : ∀ M2 σ2 kn2, LSt M2 L xs (j + 1) σ2 kn2 → REL σ2 → PS M2 1381 (lwv i) [] σ2 kn2) : PS M 1113 (lwv i) [] σ kn := by
  obtain ⟨C, hS, hI, hU, hN0, hw, hk1, hk2, hN⟩ := id S
  refine P_aload_n C dL_law_1113 1 rfl ?_
  refine P_cell C hS (n := 1) rfl dL_law_1114 dL_law_1115 dL_law_1116 dL_law_1117 dL_law_1118 rfl rfl (lw_in hi hL h3 (by decide) (by decide)) ?_
  refine P_cell C hS (n := 2) rfl dL_law_1119 dL_law_1120 dL_law_1121 dL_law_1122 dL_law_1123 rfl rfl (lw_in hi hL h3 (by decide) (by decide)) ?_
  refine P_ci (R_v (ci := 11) C kv_law_X11_taken (As := [.int (xs (i + 1).toNatClampNeg), .int (xs (i + 2).toNatClampNeg)]) rfl kd_0 rfl (fxl fx_0) (Nat.le_of_ble_eq_true rfl) dL_law_1124 (LS_k S (by omega) (Nat.le_of_ble_eq_true rfl) (Nat.le_of_ble_eq_true rfl)) (L3_X11_taken (Qk := fun r9 σ9 => INV (mV M) σ9 ∧ (FX (fun id => False) (fun _ _ => False) σ σ9) ∧ (F_X11_taken (xs (i + 1).toNatClampNeg) (xs (i + 2).toNatClampNeg) σ = (r9, σ9))) hI (fun _ _ h g0 g1 => ⟨h, g0, g1⟩))) ?_
  rintro r1 σ1 ⟨hI1, e1_0, e1_1⟩
  refine P_aload_n C dL_law_1127 2 rfl ?_
  refine P_cell C hS (n := 1) rfl dL_law_1128 dL_law_1129 dL_law_1130 dL_law_1131 dL_law_1132 rfl rfl (lw_in hi hL h3 (by decide) (by decide)) ?_
  refine P_cell C hS (n := 2) rfl dL_law_1133 dL_law_1134 dL_law_1135 dL_law_1136 dL_law_1137 rfl rfl (lw_in hi hL h3 (by decide) (by decide)) ?_
  refine P_ci (R_v (ci := 12) C kv_law_X12_taken (As := [.int (xs (i + 1).toNatClampNeg), .int (xs (i + 2).toNatClampNeg)]) rfl kd_74 rfl (fxl fx_74) (Nat.le_of_ble_eq_true rfl) dL_law_1138 (by have h9 := LS_k S (by omega) (c := 0) (n := 0) (Nat.le_of_ble_eq_true rfl) (Nat.le_of_ble_eq_true rfl); exact h9) (L3_X12_taken (Qk := fun r9 σ9 => INV (mV M) σ9 ∧ (Fr [] [] σ1 σ9) ∧ (F_X12_taken (xs (i + 1).toNatClampNeg) (xs (i + 2).toNatClampNeg) σ1 = (r9, σ9))) hI1 (fun _ _ h g0 g1 => ⟨h, g0, g1⟩))) ?_
  rintro r2 σ2 ⟨hI2, e2_0, e2_1⟩
  have hF := (RC_taken hc hI e1_0 e1_1 e2_0 e2_1)
  refine P_icmp_eq C (tgt := 1381) dL_law_1141 (by decide) (fun _ => ?_) (fun h9 => absurd hF.2 h9)
  exact next M σ2 _ (LS_s S hI2 rfl rfl) hF.1
set_option maxHeartbeats 4000000 in
theorem lwc_34 {M : Mx} {L : Nat} {xs : Nat → Int32} {j : Nat} {σ : Sg} {kn : Nat × Nat} {i : Int32} (S : LSt M L xs j σ kn) (hc : REL σ) (hi : i.toInt = 6 * (j : Int)) (hL : 6 * j + 6 ≤ L) (h3 : L ≤ 3072) (next : ∀ M2 σ2 kn2, LSt M2 L xs (j + 1) σ2 kn2 → REL σ2 → PS M2 1381 (lwv i) [] σ2 kn2) : PS M 1146 (lwv i) [] σ kn := by
  obtain ⟨C, hS, hI, hU, hN0, hw, hk1, hk2, hN⟩ := id S
  refine P_aload_n C dL_law_1146 1 rfl ?_
  refine P_cell C hS (n := 1) rfl dL_law_1147 dL_law_1148 dL_law_1149 dL_law_1150 dL_law_1151 rfl rfl (lw_in hi hL h3 (by decide) (by decide)) ?_
  refine P_ci (R_v (ci := 11) C kv_law_X11_count (As := [.int (xs (i + 1).toNatClampNeg)]) rfl kd_0 rfl (fxl fx_0) (Nat.le_of_ble_eq_true rfl) dL_law_1152 (LS_k S (by omega) (Nat.le_of_ble_eq_true rfl) (Nat.le_of_ble_eq_true rfl)) (L3_X11_count (Qk := fun r9 σ9 => INV (mV M) σ9 ∧ (FX (fun id => False) (fun _ _ => False) σ σ9)) hI (fun _ _ h g0 => ⟨h, g0⟩))) ?_
  rintro r1 σ1 ⟨hI1, e1_0⟩
  refine P_pop C dL_law_1155 rfl ?_
  refine P_aload_n C dL_law_1156 2 rfl ?_
  refine P_cell C hS (n := 1) rfl dL_law_1157 dL_law_1158 dL_law_1159 dL_law_1160 dL_law_1161 rfl rfl (lw_in hi hL h3 (by decide) (by decide)) ?_
  refine P_ci (R_v (ci := 12) C kv_law_X12_count (As := [.int (xs (i + 1).toNatClampNeg)]) rfl kd_74 rfl (fxl fx_74) (Nat.le_of_ble_eq_true rfl) dL_law_1162 (by have h9 := LS_k S (by omega) (c := 0) (n := 0) (Nat.le_of_ble_eq_true rfl) (Nat.le_of_ble_eq_true rfl); exact h9) (L3_X12_count (Qk := fun r9 σ9 => INV (mV M) σ9 ∧ (Fr [] [] σ1 σ9)) hI1 (fun _ _ h g0 => ⟨h, g0⟩))) ?_
  rintro r2 σ2 ⟨hI2, e2_0⟩
  refine P_pop C dL_law_1165 rfl ?_
  refine P_goto C (tgt := 1381) dL_law_1166 (by decide) ?_
  exact next M σ2 _ (LS_s S hI2 rfl rfl) (RC_count hc hI e1_0 e2_0)
set_option maxHeartbeats 4000000 in
theorem lwc_35 {M : Mx} {L : Nat} {xs : Nat → Int32} {j : Nat} {σ : Sg} {kn : Nat × Nat} {i : Int32} (S : LSt M L xs j σ kn) (hc : REL σ) (hi : i.toInt = 6 * (j : Int)) (hL : 6 * j + 6 ≤ L) (h3 : L ≤ 3072) (next : ∀ M2 σ2 kn2, LSt M2 L xs (j + 1) σ2 kn2 → REL σ2 → PS M2 1381 (lwv i) [] σ2 kn2) : PS M 1169 (lwv i) [] σ kn := by
  obtain ⟨C, hS, hI, hU, hN0, hw, hk1, hk2, hN⟩ := id S
  refine P_aload_n C dL_law_1169 1 rfl ?_
  refine P_cell C hS (n := 1) rfl dL_law_1170 dL_law_1171 dL_law_1172 dL_law_1173 dL_law_1174 rfl rfl (lw_in hi hL h3 (by decide) (by decide)) ?_
  refine P_cell C hS (n := 2) rfl dL_law_1175 dL_law_1176 dL_law_1177 dL_law_1178 dL_law_1179 rfl rfl (lw_in hi hL h3 (by decide) (by decide)) ?_
  refine P_cell C hS (n := 3) rfl dL_law_1180 dL_law_1181 dL_law_1182 dL_law_1183 dL_law_1184 rfl rfl (lw_in hi hL h3 (by decide) (by decide)) ?_
  refine P_ci (R_v (ci := 11) C kv_law_X11_tape (As := [.int (xs (i + 1).toNatClampNeg), .int (xs (i + 2).toNatClampNeg), .int (xs (i + 3).toNatClampNeg)]) rfl kd_0 rfl (fxl fx_0) (Nat.le_of_ble_eq_true rfl) dL_law_1185 (LS_k S (by omega) (Nat.le_of_ble_eq_true rfl) (Nat.le_of_ble_eq_true rfl)) (L3_X11_tape (Qk := fun r9 σ9 => INV (mV M) σ9 ∧ (FX (fun id => (53 ≤ id ∧ id ≤ 63)) (fun id k => (52 ≤ id ∧ id ≤ 62)) σ σ9) ∧ (F_X11_tape (xs (i + 1).toNatClampNeg) (xs (i + 2).toNatClampNeg) (xs (i + 3).toNatClampNeg) σ = (r9, σ9))) hI (fun _ _ h g0 g1 => ⟨h, g0, g1⟩))) ?_
  rintro r1 σ1 ⟨hI1, e1_0, e1_1⟩
  refine P_pop C dL_law_1188 rfl ?_
  refine P_aload_n C dL_law_1189 2 rfl ?_
  refine P_cell C hS (n := 1) rfl dL_law_1190 dL_law_1191 dL_law_1192 dL_law_1193 dL_law_1194 rfl rfl (lw_in hi hL h3 (by decide) (by decide)) ?_
  refine P_cell C hS (n := 2) rfl dL_law_1195 dL_law_1196 dL_law_1197 dL_law_1198 dL_law_1199 rfl rfl (lw_in hi hL h3 (by decide) (by decide)) ?_
  refine P_cell C hS (n := 3) rfl dL_law_1200 dL_law_1201 dL_law_1202 dL_law_1203 dL_law_1204 rfl rfl (lw_in hi hL h3 (by decide) (by decide)) ?_
  refine P_ci (R_v (ci := 12) C kv_law_X12_tape (As := [.int (xs (i + 1).toNatClampNeg), .int (xs (i + 2).toNatClampNeg), .int (xs (i + 3).toNatClampNeg)]) rfl kd_74 rfl (fxl fx_74) (Nat.le_of_ble_eq_true rfl) dL_law_1205 (by have h9 := LS_k S (by omega) (c := 0) (n := 0) (Nat.le_of_ble_eq_true rfl) (Nat.le_of_ble_eq_true rfl); exact h9) (L3_X12_tape (Qk := fun r9 σ9 => INV (mV M) σ9 ∧ (Fr [171, 172, 173] [] σ1 σ9) ∧ (F_X12_tape (xs (i + 1).toNatClampNeg) (xs (i + 2).toNatClampNeg) (xs (i + 3).toNatClampNeg) σ1 = (r9, σ9))) hI1 (fun _ _ h g0 g1 => ⟨h, g0, g1⟩))) ?_
  rintro r2 σ2 ⟨hI2, e2_0, e2_1⟩
  refine P_pop C dL_law_1208 rfl ?_
  refine P_goto C (tgt := 1381) dL_law_1209 (by decide) ?_
  exact next M σ2 _ (LS_s S hI2 rfl rfl) (RC_tape hc hI e1_0 e1_1 e2_0 e2_1).1
set_option maxHeartbeats 4000000 in
theorem lwc_36 {M : Mx} {L : Nat} {xs : Nat → Int32} {j : Nat} {σ : Sg} {kn : Nat × Nat} {i : Int32} (S : LSt M L xs j σ kn) (hc : REL σ) (hi : i.toInt = 6 * (j : Int)) (hL : 6 * j + 6 ≤ L) (h3 : L ≤ 3072) (next : ∀ M2 σ2 kn2, LSt M2 L xs (j + 1) σ2 kn2 → REL σ2 → PS M2 1381 (lwv i) [] σ2 kn2) : PS M 1212 (lwv i) [] σ kn := by
  obtain ⟨C, hS, hI, hU, hN0, hw, hk1, hk2, hN⟩ := id S
  refine P_aload_n C dL_law_1212 1 rfl ?_
  refine P_cell C hS (n := 1) rfl dL_law_1213 dL_law_1214 dL_law_1215 dL_law_1216 dL_law_1217 rfl rfl (lw_in hi hL h3 (by decide) (by decide)) ?_
  refine P_cell C hS (n := 2) rfl dL_law_1218 dL_law_1219 dL_law_1220 dL_law_1221 dL_law_1222 rfl rfl (lw_in hi hL h3 (by decide) (by decide)) ?_
  refine P_cell C hS (n := 3) rfl dL_law_1223 dL_law_1224 dL_law_1225 dL_law_1226 dL_law_1227 rfl rfl (lw_in hi hL h3 (by decide) (by decide)) ?_
  refine P_i2l C dL_law_1228 ?_
  refine P_bipush C (v := 32) dL_law_1229 rfl ?_
  refine P_lshl C dL_law_1231 ?_
  refine P_cell C hS (n := 4) rfl dL_law_1232 dL_law_1233 dL_law_1234 dL_law_1235 dL_law_1236 rfl rfl (lw_in hi hL h3 (by decide) (by decide)) ?_
  refine P_i2l C dL_law_1237 ?_
  refine P_ldc2 C (v := 4294967295) (lawR_in _ (List.mem_of_getElem? (i := 0) rfl) _ (List.mem_of_getElem? (i := 6) rfl)) dL_law_1238 ?_
  refine P_land C dL_law_1241 ?_
  refine P_lor C dL_law_1242 ?_
  refine P_ci (R_v (ci := 11) C kv_law_X11_item (As := [.int (xs (i + 1).toNatClampNeg), .int (xs (i + 2).toNatClampNeg), .long (((xs (i + 3).toNatClampNeg).toInt64 <<< ((32 : Int32).toInt64 &&& 63)) ||| ((xs (i + 4).toNatClampNeg).toInt64 &&& 4294967295))]) rfl kd_0 rfl (fxl fx_0) (Nat.le_of_ble_eq_true rfl) dL_law_1243 (LS_k S (by omega) (Nat.le_of_ble_eq_true rfl) (Nat.le_of_ble_eq_true rfl)) (L3_X11_item (Qk := fun r9 σ9 => INV (mV M) σ9 ∧ (FX (fun id => (53 ≤ id ∧ id ≤ 63)) (fun _ _ => False) σ σ9) ∧ (F_X11_item (xs (i + 1).toNatClampNeg) (xs (i + 2).toNatClampNeg) (((xs (i + 3).toNatClampNeg).toInt64 <<< ((32 : Int32).toInt64 &&& 63)) ||| ((xs (i + 4).toNatClampNeg).toInt64 &&& 4294967295)) σ = (r9, σ9))) hI (fun _ _ h g0 g1 => ⟨h, g0, g1⟩))) ?_
  rintro r1 σ1 ⟨hI1, e1_0, e1_1⟩
  refine P_pop C dL_law_1246 rfl ?_
  refine P_aload_n C dL_law_1247 2 rfl ?_
  refine P_cell C hS (n := 1) rfl dL_law_1248 dL_law_1249 dL_law_1250 dL_law_1251 dL_law_1252 rfl rfl (lw_in hi hL h3 (by decide) (by decide)) ?_
  refine P_cell C hS (n := 2) rfl dL_law_1253 dL_law_1254 dL_law_1255 dL_law_1256 dL_law_1257 rfl rfl (lw_in hi hL h3 (by decide) (by decide)) ?_
  refine P_cell C hS (n := 3) rfl dL_law_1258 dL_law_1259 dL_law_1260 dL_law_1261 dL_law_1262 rfl rfl (lw_in hi hL h3 (by decide) (by decide)) ?_
  refine P_i2l C dL_law_1263 ?_
  refine P_bipush C (v := 32) dL_law_1264 rfl ?_
  refine P_lshl C dL_law_1266 ?_
  refine P_cell C hS (n := 4) rfl dL_law_1267 dL_law_1268 dL_law_1269 dL_law_1270 dL_law_1271 rfl rfl (lw_in hi hL h3 (by decide) (by decide)) ?_
  refine P_i2l C dL_law_1272 ?_
  refine P_ldc2 C (v := 4294967295) (lawR_in _ (List.mem_of_getElem? (i := 0) rfl) _ (List.mem_of_getElem? (i := 6) rfl)) dL_law_1273 ?_
  refine P_land C dL_law_1276 ?_
  refine P_lor C dL_law_1277 ?_
  refine P_ci (R_v (ci := 12) C kv_law_X12_item (As := [.int (xs (i + 1).toNatClampNeg), .int (xs (i + 2).toNatClampNeg), .long (((xs (i + 3).toNatClampNeg).toInt64 <<< ((32 : Int32).toInt64 &&& 63)) ||| ((xs (i + 4).toNatClampNeg).toInt64 &&& 4294967295))]) rfl kd_74 rfl (fxl fx_74) (Nat.le_of_ble_eq_true rfl) dL_law_1278 (by have h9 := LS_k S (by omega) (c := 0) (n := 0) (Nat.le_of_ble_eq_true rfl) (Nat.le_of_ble_eq_true rfl); exact h9) (L3_X12_item (Qk := fun r9 σ9 => INV (mV M) σ9 ∧ (Fr [173] [] σ1 σ9) ∧ (F_X12_item (xs (i + 1).toNatClampNeg) (xs (i + 2).toNatClampNeg) (((xs (i + 3).toNatClampNeg).toInt64 <<< ((32 : Int32).toInt64 &&& 63)) ||| ((xs (i + 4).toNatClampNeg).toInt64 &&& 4294967295)) σ1 = (r9, σ9))) hI1 (fun _ _ h g0 g1 => ⟨h, g0, g1⟩))) ?_
  rintro r2 σ2 ⟨hI2, e2_0, e2_1⟩
  refine P_pop C dL_law_1281 rfl ?_
  refine P_goto C (tgt := 1381) dL_law_1282 (by decide) ?_
  exact next M σ2 _ (LS_s S hI2 rfl rfl) (RC_item hc hI e1_0 e1_1 e2_0 e2_1).1
set_option maxHeartbeats 4000000 in
theorem lwc_37 {M : Mx} {L : Nat} {xs : Nat → Int32} {j : Nat} {σ : Sg} {kn : Nat × Nat} {i : Int32} (S : LSt M L xs j σ kn) (hc : REL σ) (hi : i.toInt = 6 * (j : Int)) (hL : 6 * j + 6 ≤ L) (h3 : L ≤ 3072) (next : ∀ M2 σ2 kn2, LSt M2 L xs (j + 1) σ2 kn2 → REL σ2 → PS M2 1381 (lwv i) [] σ2 kn2) : PS M 1285 (lwv i) [] σ kn := by
  obtain ⟨C, hS, hI, hU, hN0, hw, hk1, hk2, hN⟩ := id S
  refine P_aload_n C dL_law_1285 1 rfl ?_
  refine P_cell C hS (n := 1) rfl dL_law_1286 dL_law_1287 dL_law_1288 dL_law_1289 dL_law_1290 rfl rfl (lw_in hi hL h3 (by decide) (by decide)) ?_
  refine P_cell C hS (n := 2) rfl dL_law_1291 dL_law_1292 dL_law_1293 dL_law_1294 dL_law_1295 rfl rfl (lw_in hi hL h3 (by decide) (by decide)) ?_
  refine P_cl (R_v (ci := 11) C kv_law_X11_read (As := [.int (xs (i + 1).toNatClampNeg), .int (xs (i + 2).toNatClampNeg)]) rfl kd_0 rfl (fxl fx_0) (Nat.le_of_ble_eq_true rfl) dL_law_1296 (LS_k S (by omega) (Nat.le_of_ble_eq_true rfl) (Nat.le_of_ble_eq_true rfl)) (L3_X11_read (Qk := fun r9 σ9 => INV (mV M) σ9 ∧ (FX (fun id => False) (fun _ _ => False) σ σ9) ∧ (F_X11_read (xs (i + 1).toNatClampNeg) (xs (i + 2).toNatClampNeg) σ = (r9, σ9))) hI (fun _ _ h g0 g1 => ⟨h, g0, g1⟩))) ?_
  rintro r1 σ1 ⟨hI1, e1_0, e1_1⟩
  refine P_pop2 C dL_law_1299 rfl ?_
  refine P_aload_n C dL_law_1300 2 rfl ?_
  refine P_cell C hS (n := 1) rfl dL_law_1301 dL_law_1302 dL_law_1303 dL_law_1304 dL_law_1305 rfl rfl (lw_in hi hL h3 (by decide) (by decide)) ?_
  refine P_cell C hS (n := 2) rfl dL_law_1306 dL_law_1307 dL_law_1308 dL_law_1309 dL_law_1310 rfl rfl (lw_in hi hL h3 (by decide) (by decide)) ?_
  refine P_cl (R_v (ci := 12) C kv_law_X12_read (As := [.int (xs (i + 1).toNatClampNeg), .int (xs (i + 2).toNatClampNeg)]) rfl kd_74 rfl (fxl fx_74) (Nat.le_of_ble_eq_true rfl) dL_law_1311 (by have h9 := LS_k S (by omega) (c := 0) (n := 0) (Nat.le_of_ble_eq_true rfl) (Nat.le_of_ble_eq_true rfl); exact h9) (L3_X12_read (Qk := fun r9 σ9 => INV (mV M) σ9 ∧ (Fr [] [] σ1 σ9) ∧ (F_X12_read (xs (i + 1).toNatClampNeg) (xs (i + 2).toNatClampNeg) σ1 = (r9, σ9))) hI1 (fun _ _ h g0 g1 => ⟨h, g0, g1⟩))) ?_
  rintro r2 σ2 ⟨hI2, e2_0, e2_1⟩
  refine P_pop2 C dL_law_1314 rfl ?_
  refine P_goto C (tgt := 1381) dL_law_1315 (by decide) ?_
  exact next M σ2 _ (LS_s S hI2 rfl rfl) (RC_read hc hI e1_0 e1_1 e2_0 e2_1).1
set_option maxHeartbeats 4000000 in
theorem lwc_38 {M : Mx} {L : Nat} {xs : Nat → Int32} {j : Nat} {σ : Sg} {kn : Nat × Nat} {i : Int32} (S : LSt M L xs j σ kn) (hc : REL σ) (hi : i.toInt = 6 * (j : Int)) (hL : 6 * j + 6 ≤ L) (h3 : L ≤ 3072) (next : ∀ M2 σ2 kn2, LSt M2 L xs (j + 1) σ2 kn2 → REL σ2 → PS M2 1381 (lwv i) [] σ2 kn2) : PS M 1318 (lwv i) [] σ kn := by
  obtain ⟨C, hS, hI, hU, hN0, hw, hk1, hk2, hN⟩ := id S
  refine P_aload_n C dL_law_1318 1 rfl ?_
  refine P_cell C hS (n := 1) rfl dL_law_1319 dL_law_1320 dL_law_1321 dL_law_1322 dL_law_1323 rfl rfl (lw_in hi hL h3 (by decide) (by decide)) ?_
  refine P_cell C hS (n := 2) rfl dL_law_1324 dL_law_1325 dL_law_1326 dL_law_1327 dL_law_1328 rfl rfl (lw_in hi hL h3 (by decide) (by decide)) ?_
  refine P_cell C hS (n := 3) rfl dL_law_1329 dL_law_1330 dL_law_1331 dL_law_1332 dL_law_1333 rfl rfl (lw_in hi hL h3 (by decide) (by decide)) ?_
  refine P_cell C hS (n := 4) rfl dL_law_1334 dL_law_1335 dL_law_1336 dL_law_1337 dL_law_1338 rfl rfl (lw_in hi hL h3 (by decide) (by decide)) ?_
  refine P_cell C hS (n := 5) rfl dL_law_1339 dL_law_1340 dL_law_1341 dL_law_1342 dL_law_1343 rfl rfl (lw_in hi hL h3 (by decide) (by decide)) ?_
  refine P_ci (R_v (ci := 11) C kv_law_X11_shift (As := [.int (xs (i + 1).toNatClampNeg), .int (xs (i + 2).toNatClampNeg), .int (xs (i + 3).toNatClampNeg), .int (xs (i + 4).toNatClampNeg), .int (xs (i + 5).toNatClampNeg)]) rfl kd_0 rfl (fxl fx_0) (Nat.le_of_ble_eq_true rfl) dL_law_1344 (LS_k S (by omega) (Nat.le_of_ble_eq_true rfl) (Nat.le_of_ble_eq_true rfl)) (L3_X11_shift (Qk := fun r9 σ9 => INV (mV M) σ9 ∧ (FX (fun id => (53 ≤ id ∧ id ≤ 63)) (fun _ _ => False) σ σ9) ∧ (F_X11_shift (xs (i + 1).toNatClampNeg) (xs (i + 2).toNatClampNeg) (xs (i + 3).toNatClampNeg) (xs (i + 4).toNatClampNeg) (xs (i + 5).toNatClampNeg) σ = (r9, σ9))) hI (fun _ _ h g0 g1 => ⟨h, g0, g1⟩))) ?_
  rintro r1 σ1 ⟨hI1, e1_0, e1_1⟩
  refine P_pop C dL_law_1347 rfl ?_
  refine P_aload_n C dL_law_1348 2 rfl ?_
  refine P_cell C hS (n := 1) rfl dL_law_1349 dL_law_1350 dL_law_1351 dL_law_1352 dL_law_1353 rfl rfl (lw_in hi hL h3 (by decide) (by decide)) ?_
  refine P_cell C hS (n := 2) rfl dL_law_1354 dL_law_1355 dL_law_1356 dL_law_1357 dL_law_1358 rfl rfl (lw_in hi hL h3 (by decide) (by decide)) ?_
  refine P_cell C hS (n := 3) rfl dL_law_1359 dL_law_1360 dL_law_1361 dL_law_1362 dL_law_1363 rfl rfl (lw_in hi hL h3 (by decide) (by decide)) ?_
  refine P_cell C hS (n := 4) rfl dL_law_1364 dL_law_1365 dL_law_1366 dL_law_1367 dL_law_1368 rfl rfl (lw_in hi hL h3 (by decide) (by decide)) ?_
  refine P_cell C hS (n := 5) rfl dL_law_1369 dL_law_1370 dL_law_1371 dL_law_1372 dL_law_1373 rfl rfl (lw_in hi hL h3 (by decide) (by decide)) ?_
  refine P_ci (R_v (ci := 12) C kv_law_X12_shift (As := [.int (xs (i + 1).toNatClampNeg), .int (xs (i + 2).toNatClampNeg), .int (xs (i + 3).toNatClampNeg), .int (xs (i + 4).toNatClampNeg), .int (xs (i + 5).toNatClampNeg)]) rfl kd_74 rfl (fxl fx_74) (Nat.le_of_ble_eq_true rfl) dL_law_1374 (by have h9 := LS_k S (by omega) (c := 0) (n := 0) (Nat.le_of_ble_eq_true rfl) (Nat.le_of_ble_eq_true rfl); exact h9) (L3_X12_shift (Qk := fun r9 σ9 => INV (mV M) σ9 ∧ (Fr [173, 174] [] σ1 σ9) ∧ (F_X12_shift (xs (i + 1).toNatClampNeg) (xs (i + 2).toNatClampNeg) (xs (i + 3).toNatClampNeg) (xs (i + 4).toNatClampNeg) (xs (i + 5).toNatClampNeg) σ1 = (r9, σ9))) hI1 (fun _ _ h g0 g1 => ⟨h, g0, g1⟩))) ?_
  rintro r2 σ2 ⟨hI2, e2_0, e2_1⟩
  refine P_pop C dL_law_1377 rfl ?_
  refine P_goto C (tgt := 1381) dL_law_1378 (by decide) ?_
  exact next M σ2 _ (LS_s S hI2 rfl rfl) (RC_shift hc hI e1_0 e1_1 e2_0 e2_1).1
