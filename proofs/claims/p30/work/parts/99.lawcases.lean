set_option maxRecDepth 20000 in
theorem ggL_X4_mowing : GoodIn lw_tbl wsX4_mowing := goodIn_q _ [(46, 14), (8, 17), (46, 15), (40, 8), (40, 9), (1, 6), (40, 10), (2, 19), (2, 20), (63, 0), (63, 1), (63, 2), (63, 3), (63, 4), (63, 5), (63, 6), (63, 7), (63, 8), (63, 9), (63, 10), (63, 11), (63, 12), (63, 13), (63, 14), (63, 15), (63, 16), (63, 17), (63, 18), (63, 19), (63, 20), (63, 21), (63, 22), (63, 23), (63, 24), (63, 25), (63, 26), (63, 27), (63, 28), (63, 29), (63, 30), (63, 31), (63, 32), (63, 33), (63, 34), (63, 35), (63, 36), (63, 37), (63, 38), (63, 39), (62, 0), (62, 1), (62, 2), (62, 3), (62, 4), (62, 5), (62, 6), (62, 7), (62, 8), (62, 9), (62, 10), (62, 11), (62, 12), (62, 13), (62, 14), (62, 15), (62, 16), (62, 17), (62, 18), (62, 19), (62, 20), (62, 21), (62, 22), (62, 23), (62, 24), (62, 25), (62, 26), (62, 27), (62, 28), (62, 29), (62, 30), (62, 31), (62, 32), (62, 33), (62, 34), (62, 35), (62, 36), (62, 37), (62, 38), (62, 39), (67, 0), (67, 1), (67, 2), (67, 3), (67, 4), (67, 5), (67, 6), (67, 7), (67, 8), (67, 9), (67, 10), (67, 11), (67, 12), (67, 13), (67, 14), (67, 15), (67, 16), (67, 17), (67, 18), (67, 19), (67, 20), (67, 21), (67, 22), (67, 23), (67, 24), (67, 25), (67, 26), (67, 27), (67, 28), (67, 29), (67, 30), (67, 31), (67, 32), (67, 33), (67, 34), (67, 35), (67, 36), (67, 37), (67, 38), (67, 39), (64, 0), (64, 1), (64, 2), (64, 3), (64, 4), (64, 5), (64, 6), (64, 7), (64, 8), (64, 9), (64, 10), (64, 11), (64, 12), (64, 13), (64, 14), (64, 15), (64, 16), (64, 17), (64, 18), (64, 19), (64, 20), (64, 21), (64, 22), (64, 23), (64, 24), (64, 25), (64, 26), (64, 27), (64, 28), (64, 29), (64, 30), (64, 31), (64, 32), (64, 33), (64, 34), (64, 35), (64, 36), (64, 37), (64, 38), (64, 39), (65, 0), (65, 1), (65, 2), (65, 3), (65, 4), (65, 5), (65, 6), (65, 7), (65, 8), (65, 9), (65, 10), (65, 11), (65, 12), (65, 13), (65, 14), (65, 15), (65, 16), (65, 17), (65, 18), (65, 19), (65, 20), (65, 21), (65, 22), (65, 23), (65, 24), (65, 25), (65, 26), (65, 27), (65, 28), (65, 29), (65, 30), (65, 31), (65, 32), (65, 33), (65, 34), (65, 35), (65, 36), (65, 37), (65, 38), (65, 39), (61, 0), (61, 1), (61, 2), (61, 3), (61, 4), (61, 5), (61, 6), (61, 7), (61, 8), (61, 9), (61, 10), (61, 11), (61, 12), (61, 13), (61, 14), (61, 15), (61, 16), (61, 17), (61, 18), (61, 19), (61, 20), (61, 21), (61, 22), (61, 23), (61, 24), (61, 25), (61, 26), (61, 27), (61, 28), (61, 29), (61, 30), (61, 31), (61, 32), (61, 33), (61, 34), (61, 35), (61, 36), (61, 37), (61, 38), (61, 39), (66, 0), (66, 1), (66, 2), (66, 3), (66, 4), (66, 5), (66, 6), (66, 7), (66, 8), (66, 9), (66, 10), (66, 11), (66, 12), (66, 13), (66, 14), (66, 15), (66, 16), (66, 17), (66, 18), (66, 19), (66, 20), (66, 21), (66, 22), (66, 23), (66, 24), (66, 25), (66, 26), (66, 27), (66, 28), (66, 29), (66, 30), (66, 31), (66, 32), (66, 33), (66, 34), (66, 35), (66, 36), (66, 37), (66, 38), (66, 39), (58, 0), (58, 1), (58, 2), (58, 3), (58, 4), (58, 5), (58, 6), (58, 7), (58, 8), (58, 9), (58, 10), (58, 11), (58, 12), (58, 13), (58, 14), (58, 15), (58, 16), (58, 17), (58, 18), (58, 19), (58, 20), (58, 21), (58, 22), (58, 23), (58, 24), (58, 25), (58, 26), (58, 27), (58, 28), (58, 29), (58, 30), (58, 31), (58, 32), (58, 33), (58, 34), (58, 35), (58, 36), (58, 37), (58, 38), (58, 39)] rfl (by decide +kernel)
set_option maxRecDepth 20000 in
theorem ggL_X4_whetting : GoodIn lw_tbl wsX4_whetting := goodIn_q _ [(47, 16), (8, 18), (46, 15), (40, 8), (40, 9), (1, 6), (40, 10), (2, 19), (2, 20), (47, 17), (46, 11), (46, 12), (46, 13), (8, 8), (46, 14), (8, 17), (46, 16), (46, 17), (46, 18), (7, 17), (46, 19), (46, 20), (46, 21), (12, 14), (47, 18), (46, 23), (47, 0), (47, 1), (7, 23), (47, 2), (47, 3), (47, 4), (47, 5), (47, 6), (47, 7), (8, 5), (47, 8), (47, 9), (47, 10), (47, 11), (63, 0), (63, 1), (63, 2), (63, 3), (63, 4), (63, 5), (63, 6), (63, 7), (63, 8), (63, 9), (63, 10), (63, 11), (63, 12), (63, 13), (63, 14), (63, 15), (63, 16), (63, 17), (63, 18), (63, 19), (63, 20), (63, 21), (63, 22), (63, 23), (63, 24), (63, 25), (63, 26), (63, 27), (63, 28), (63, 29), (63, 30), (63, 31), (63, 32), (63, 33), (63, 34), (63, 35), (63, 36), (63, 37), (63, 38), (63, 39), (62, 0), (62, 1), (62, 2), (62, 3), (62, 4), (62, 5), (62, 6), (62, 7), (62, 8), (62, 9), (62, 10), (62, 11), (62, 12), (62, 13), (62, 14), (62, 15), (62, 16), (62, 17), (62, 18), (62, 19), (62, 20), (62, 21), (62, 22), (62, 23), (62, 24), (62, 25), (62, 26), (62, 27), (62, 28), (62, 29), (62, 30), (62, 31), (62, 32), (62, 33), (62, 34), (62, 35), (62, 36), (62, 37), (62, 38), (62, 39), (67, 0), (67, 1), (67, 2), (67, 3), (67, 4), (67, 5), (67, 6), (67, 7), (67, 8), (67, 9), (67, 10), (67, 11), (67, 12), (67, 13), (67, 14), (67, 15), (67, 16), (67, 17), (67, 18), (67, 19), (67, 20), (67, 21), (67, 22), (67, 23), (67, 24), (67, 25), (67, 26), (67, 27), (67, 28), (67, 29), (67, 30), (67, 31), (67, 32), (67, 33), (67, 34), (67, 35), (67, 36), (67, 37), (67, 38), (67, 39), (64, 0), (64, 1), (64, 2), (64, 3), (64, 4), (64, 5), (64, 6), (64, 7), (64, 8), (64, 9), (64, 10), (64, 11), (64, 12), (64, 13), (64, 14), (64, 15), (64, 16), (64, 17), (64, 18), (64, 19), (64, 20), (64, 21), (64, 22), (64, 23), (64, 24), (64, 25), (64, 26), (64, 27), (64, 28), (64, 29), (64, 30), (64, 31), (64, 32), (64, 33), (64, 34), (64, 35), (64, 36), (64, 37), (64, 38), (64, 39), (65, 0), (65, 1), (65, 2), (65, 3), (65, 4), (65, 5), (65, 6), (65, 7), (65, 8), (65, 9), (65, 10), (65, 11), (65, 12), (65, 13), (65, 14), (65, 15), (65, 16), (65, 17), (65, 18), (65, 19), (65, 20), (65, 21), (65, 22), (65, 23), (65, 24), (65, 25), (65, 26), (65, 27), (65, 28), (65, 29), (65, 30), (65, 31), (65, 32), (65, 33), (65, 34), (65, 35), (65, 36), (65, 37), (65, 38), (65, 39), (61, 0), (61, 1), (61, 2), (61, 3), (61, 4), (61, 5), (61, 6), (61, 7), (61, 8), (61, 9), (61, 10), (61, 11), (61, 12), (61, 13), (61, 14), (61, 15), (61, 16), (61, 17), (61, 18), (61, 19), (61, 20), (61, 21), (61, 22), (61, 23), (61, 24), (61, 25), (61, 26), (61, 27), (61, 28), (61, 29), (61, 30), (61, 31), (61, 32), (61, 33), (61, 34), (61, 35), (61, 36), (61, 37), (61, 38), (61, 39), (66, 0), (66, 1), (66, 2), (66, 3), (66, 4), (66, 5), (66, 6), (66, 7), (66, 8), (66, 9), (66, 10), (66, 11), (66, 12), (66, 13), (66, 14), (66, 15), (66, 16), (66, 17), (66, 18), (66, 19), (66, 20), (66, 21), (66, 22), (66, 23), (66, 24), (66, 25), (66, 26), (66, 27), (66, 28), (66, 29), (66, 30), (66, 31), (66, 32), (66, 33), (66, 34), (66, 35), (66, 36), (66, 37), (66, 38), (66, 39), (58, 0), (58, 1), (58, 2), (58, 3), (58, 4), (58, 5), (58, 6), (58, 7), (58, 8), (58, 9), (58, 10), (58, 11), (58, 12), (58, 13), (58, 14), (58, 15), (58, 16), (58, 17), (58, 18), (58, 19), (58, 20), (58, 21), (58, 22), (58, 23), (58, 24), (58, 25), (58, 26), (58, 27), (58, 28), (58, 29), (58, 30), (58, 31), (58, 32), (58, 33), (58, 34), (58, 35), (58, 36), (58, 37), (58, 38), (58, 39)] rfl (by decide +kernel)
set_option maxRecDepth 20000 in
theorem ggL_X4_telling : GoodIn lw_tbl wsX4_telling := goodIn_q _ [(48, 23), (46, 15), (40, 8), (40, 9), (1, 6), (40, 10), (2, 19), (2, 20), (49, 0), (47, 13), (47, 14), (47, 15), (8, 8), (47, 16), (8, 18), (47, 17), (46, 11), (46, 12), (46, 13), (46, 14), (8, 17), (46, 16), (46, 17), (46, 18), (7, 17), (46, 19), (46, 20), (46, 21), (12, 14), (47, 18), (46, 23), (47, 0), (47, 1), (7, 23), (47, 2), (47, 3), (47, 4), (47, 5), (47, 6), (47, 7), (8, 5), (47, 8), (47, 9), (47, 10), (47, 11), (47, 19), (49, 1), (47, 21), (47, 22), (47, 23), (48, 0), (48, 1), (48, 2), (48, 3), (13, 0), (48, 4), (7, 14), (48, 5), (48, 6), (48, 7), (48, 8), (48, 9), (48, 10), (48, 11), (48, 12), (48, 13), (58, 0), (58, 1), (58, 2), (58, 3), (58, 4), (58, 5), (58, 6), (58, 7), (58, 8), (58, 9), (58, 10), (58, 11), (58, 12), (58, 13), (58, 14), (58, 15), (58, 16), (58, 17), (58, 18), (58, 19), (58, 20), (58, 21), (58, 22), (58, 23), (58, 24), (58, 25), (58, 26), (58, 27), (58, 28), (58, 29), (58, 30), (58, 31), (58, 32), (58, 33), (58, 34), (58, 35), (58, 36), (58, 37), (58, 38), (58, 39), (63, 0), (63, 1), (63, 2), (63, 3), (63, 4), (63, 5), (63, 6), (63, 7), (63, 8), (63, 9), (63, 10), (63, 11), (63, 12), (63, 13), (63, 14), (63, 15), (63, 16), (63, 17), (63, 18), (63, 19), (63, 20), (63, 21), (63, 22), (63, 23), (63, 24), (63, 25), (63, 26), (63, 27), (63, 28), (63, 29), (63, 30), (63, 31), (63, 32), (63, 33), (63, 34), (63, 35), (63, 36), (63, 37), (63, 38), (63, 39), (62, 0), (62, 1), (62, 2), (62, 3), (62, 4), (62, 5), (62, 6), (62, 7), (62, 8), (62, 9), (62, 10), (62, 11), (62, 12), (62, 13), (62, 14), (62, 15), (62, 16), (62, 17), (62, 18), (62, 19), (62, 20), (62, 21), (62, 22), (62, 23), (62, 24), (62, 25), (62, 26), (62, 27), (62, 28), (62, 29), (62, 30), (62, 31), (62, 32), (62, 33), (62, 34), (62, 35), (62, 36), (62, 37), (62, 38), (62, 39), (67, 0), (67, 1), (67, 2), (67, 3), (67, 4), (67, 5), (67, 6), (67, 7), (67, 8), (67, 9), (67, 10), (67, 11), (67, 12), (67, 13), (67, 14), (67, 15), (67, 16), (67, 17), (67, 18), (67, 19), (67, 20), (67, 21), (67, 22), (67, 23), (67, 24), (67, 25), (67, 26), (67, 27), (67, 28), (67, 29), (67, 30), (67, 31), (67, 32), (67, 33), (67, 34), (67, 35), (67, 36), (67, 37), (67, 38), (67, 39), (64, 0), (64, 1), (64, 2), (64, 3), (64, 4), (64, 5), (64, 6), (64, 7), (64, 8), (64, 9), (64, 10), (64, 11), (64, 12), (64, 13), (64, 14), (64, 15), (64, 16), (64, 17), (64, 18), (64, 19), (64, 20), (64, 21), (64, 22), (64, 23), (64, 24), (64, 25), (64, 26), (64, 27), (64, 28), (64, 29), (64, 30), (64, 31), (64, 32), (64, 33), (64, 34), (64, 35), (64, 36), (64, 37), (64, 38), (64, 39), (65, 0), (65, 1), (65, 2), (65, 3), (65, 4), (65, 5), (65, 6), (65, 7), (65, 8), (65, 9), (65, 10), (65, 11), (65, 12), (65, 13), (65, 14), (65, 15), (65, 16), (65, 17), (65, 18), (65, 19), (65, 20), (65, 21), (65, 22), (65, 23), (65, 24), (65, 25), (65, 26), (65, 27), (65, 28), (65, 29), (65, 30), (65, 31), (65, 32), (65, 33), (65, 34), (65, 35), (65, 36), (65, 37), (65, 38), (65, 39), (61, 0), (61, 1), (61, 2), (61, 3), (61, 4), (61, 5), (61, 6), (61, 7), (61, 8), (61, 9), (61, 10), (61, 11), (61, 12), (61, 13), (61, 14), (61, 15), (61, 16), (61, 17), (61, 18), (61, 19), (61, 20), (61, 21), (61, 22), (61, 23), (61, 24), (61, 25), (61, 26), (61, 27), (61, 28), (61, 29), (61, 30), (61, 31), (61, 32), (61, 33), (61, 34), (61, 35), (61, 36), (61, 37), (61, 38), (61, 39), (66, 0), (66, 1), (66, 2), (66, 3), (66, 4), (66, 5), (66, 6), (66, 7), (66, 8), (66, 9), (66, 10), (66, 11), (66, 12), (66, 13), (66, 14), (66, 15), (66, 16), (66, 17), (66, 18), (66, 19), (66, 20), (66, 21), (66, 22), (66, 23), (66, 24), (66, 25), (66, 26), (66, 27), (66, 28), (66, 29), (66, 30), (66, 31), (66, 32), (66, 33), (66, 34), (66, 35), (66, 36), (66, 37), (66, 38), (66, 39)] rfl (by decide +kernel)
theorem wsLk_t : ∀ w ∈ wsLk, w ∈ tables_1 := List.forall_mem_cons.mpr ⟨List.mem_of_getElem? (i := 856) (by decide +kernel), List.forall_mem_cons.mpr ⟨List.mem_of_getElem? (i := 857) (by decide +kernel), List.forall_mem_cons.mpr ⟨List.mem_of_getElem? (i := 309) (by decide +kernel), List.forall_mem_cons.mpr ⟨List.mem_of_getElem? (i := 279) (by decide +kernel), List.forall_mem_cons.mpr ⟨List.mem_of_getElem? (i := 843) (by decide +kernel), List.forall_mem_cons.mpr ⟨List.mem_of_getElem? (i := 865) (by decide +kernel), List.forall_mem_cons.mpr ⟨List.mem_of_getElem? (i := 866) (by decide +kernel), List.forall_mem_cons.mpr ⟨List.mem_of_getElem? (i := 329) (by decide +kernel), List.forall_mem_cons.mpr ⟨List.mem_of_getElem? (i := 299) (by decide +kernel), List.forall_mem_cons.mpr ⟨List.mem_of_getElem? (i := 888) (by decide +kernel), List.forall_mem_cons.mpr ⟨List.mem_of_getElem? (i := 889) (by decide +kernel), List.forall_mem_cons.mpr ⟨List.mem_of_getElem? (i := 870) (by decide +kernel), List.forall_mem_cons.mpr ⟨List.mem_of_getElem? (i := 911) (by decide +kernel), List.forall_mem_cons.mpr ⟨List.mem_of_getElem? (i := 912) (by decide +kernel), List.forall_mem_cons.mpr ⟨List.mem_of_getElem? (i := 319) (by decide +kernel), List.forall_mem_cons.mpr ⟨List.mem_of_getElem? (i := 289) (by decide +kernel), List.forall_mem_cons.mpr ⟨List.mem_of_getElem? (i := 894) (by decide +kernel), List.forall_mem_cons.mpr ⟨List.mem_of_getElem? (i := 7) (by decide +kernel), fun _ h => absurd h List.not_mem_nil⟩⟩⟩⟩⟩⟩⟩⟩⟩⟩⟩⟩⟩⟩⟩⟩⟩⟩
theorem wsAct_in : GoodIn lw_tbl wsAct := goodIn_app (goodIn_sub (fun w h => List.mem_append_right _ (wsLk_t w h)) (by decide +kernel)) (goodIn_app ggL_X4_mowing (goodIn_app ggL_X4_whetting ggL_X4_telling))
theorem gL_X11_acte : GoodIn lw_tbl (wsV RL 144 RX11 yX11_act wsX11_acte) := goodIn_app (goodIn_q _ [(46, 6), (46, 7), (46, 8), (0, 2)] rfl (by decide +kernel)) (goodIn_app ggL_X11_act wsAct_in)
theorem kv_law_X11_act : KV RL lw_tbl room_1 144 RX11 yX11_act wsX11_acte (rmz 8) 3 := ⟨_, _, _, _, gL_X11_acte, rfl, by decide +kernel, by decide +kernel⟩
theorem kv_law_X11_alone : KV RL lw_tbl room_1 86 RX11 yX11_alone wsX11_alone (rmz 6) 1 := ⟨_, _, _, _, gL_X11_alone, rfl, by decide +kernel, by decide +kernel⟩
theorem kv_law_X11_apart : KV RL lw_tbl room_1 77 RX11 yX11_apart wsX11_apart (rmz 7) 2 := ⟨_, _, _, _, gL_X11_apart, rfl, by decide +kernel, by decide +kernel⟩
theorem kv_law_X11_book : KV RL lw_tbl room_1 124 RX11 yX11_book wsX11_book (rmz 1) 1 := ⟨_, _, _, _, gL_X11_book, rfl, by decide +kernel, by decide +kernel⟩
theorem kv_law_X11_count : KV RL lw_tbl room_1 156 RX11 yX11_count wsX11_count (rmz 0) 1 := ⟨_, _, _, _, gL_X11_count, rfl, by decide +kernel, by decide +kernel⟩
theorem kv_law_X11_done : KV RL lw_tbl room_1 65 RX11 yX11_done wsX11_done (rmz 5) 0 := ⟨_, _, _, _, gL_X11_done, rfl, by decide +kernel, by decide +kernel⟩
theorem kv_law_X11_feed : KV RL lw_tbl room_1 35 RX11 yX11_feed wsX11_feed (rmz 0) 1 := ⟨_, _, _, _, gL_X11_feed, rfl, by decide +kernel, by decide +kernel⟩
theorem kv_law_X11_field : KV RL lw_tbl room_1 40 RX11 yX11_field wsX11_field (rmr 24 5 142) 0 := ⟨_, _, _, _, gL_X11_field, rfl, by decide +kernel, by decide +kernel⟩
theorem kv_law_X11_image : KV RL lw_tbl room_1 136 RX11 yX11_image wsX11_image (rmz 3) 0 := ⟨_, _, _, _, gL_X11_image, rfl, by decide +kernel, by decide +kernel⟩
theorem kv_law_X11_item : KV RL lw_tbl room_1 166 RX11 yX11_item wsX11_item (rmz 1) 3 := ⟨_, _, _, _, gL_X11_item, rfl, by decide +kernel, by decide +kernel⟩
theorem kv_law_X11_judge : KV RL lw_tbl room_1 132 RX11 yX11_judge wsX11_judge (rmz 1) 2 := ⟨_, _, _, _, gL_X11_judge, rfl, by decide +kernel, by decide +kernel⟩
theorem kv_law_X11_looked : KV RL lw_tbl room_1 128 RX11 yX11_looked wsX11_looked (rmz 5) 0 := ⟨_, _, _, _, gL_X11_looked, rfl, by decide +kernel, by decide +kernel⟩
theorem kv_law_X11_mean : KV RL lw_tbl room_1 111 RX11 yX11_mean wsX11_mean (rmz 6) 2 := ⟨_, _, _, _, gL_X11_mean, rfl, by decide +kernel, by decide +kernel⟩
theorem kv_law_X11_minute : KV RL lw_tbl room_1 49 RX11 yX11_minute wsX11_minute (rmz 5) 0 := ⟨_, _, _, _, gL_X11_minute, rfl, by decide +kernel, by decide +kernel⟩
theorem kv_law_X11_mower : KV RL lw_tbl room_1 13 RX11 yX11_mower wsX11_mower (rmr 6 1 3) 2 := ⟨_, _, _, _, gL_X11_mower, rfl, by decide +kernel, by decide +kernel⟩
theorem kv_law_X11_odds : KV RL lw_tbl room_1 106 RX11 yX11_odds wsX11_odds (rmz 6) 3 := ⟨_, _, _, _, gL_X11_odds, rfl, by decide +kernel, by decide +kernel⟩
theorem kv_law_X11_of : KV RL lw_tbl room_1 18 RX11 yX11_of wsX11_of (rmz 4) 2 := ⟨_, _, _, _, gL_X11_of, rfl, by decide +kernel, by decide +kernel⟩
theorem kv_law_X11_on : KV RL lw_tbl room_1 61 RX11 yX11_on wsX11_on (rmz 6) 2 := ⟨_, _, _, _, gL_X11_on, rfl, by decide +kernel, by decide +kernel⟩
theorem kv_law_X11_order : KV RL lw_tbl room_1 69 RX11 yX11_order wsX11_order (rmz 7) 2 := ⟨_, _, _, _, gL_X11_order, rfl, by decide +kernel, by decide +kernel⟩
theorem kv_law_X11_pause : KV RL lw_tbl room_1 57 RX11 yX11_pause wsX11_pause (rmz 3) 1 := ⟨_, _, _, _, gL_X11_pause, rfl, by decide +kernel, by decide +kernel⟩
theorem kv_law_X11_paused : KV RL lw_tbl room_1 94 RX11 yX11_paused wsX11_paused (rmz 7) 2 := ⟨_, _, _, _, gL_X11_paused, rfl, by decide +kernel, by decide +kernel⟩
theorem kv_law_X11_place : KV RL lw_tbl room_1 31 RX11 yX11_place wsX11_place (rmz 2) 2 := ⟨_, _, _, _, gL_X11_place, rfl, by decide +kernel, by decide +kernel⟩
theorem kv_law_X11_plan : KV RL lw_tbl room_1 116 RX11 yX11_plan wsX11_plan (rmz 1) 1 := ⟨_, _, _, _, gL_X11_plan, rfl, by decide +kernel, by decide +kernel⟩
theorem kv_law_X11_planned : KV RL lw_tbl room_1 120 RX11 yX11_planned wsX11_planned (rmz 5) 0 := ⟨_, _, _, _, gL_X11_planned, rfl, by decide +kernel, by decide +kernel⟩
theorem kv_law_X11_read : KV RL lw_tbl room_1 171 RX11 yX11_read wsX11_read (rmz 1) 2 := ⟨_, _, _, _, gL_X11_read, rfl, by decide +kernel, by decide +kernel⟩
theorem kv_law_X11_rest : KV RL lw_tbl room_1 90 RX11 yX11_rest wsX11_rest (rmz 7) 2 := ⟨_, _, _, _, gL_X11_rest, rfl, by decide +kernel, by decide +kernel⟩
theorem kv_law_X11_row : KV RL lw_tbl room_1 27 RX11 yX11_row wsX11_row (rmz 1) 3 := ⟨_, _, _, _, gL_X11_row, rfl, by decide +kernel, by decide +kernel⟩
theorem kv_law_X11_see : KV RL lw_tbl room_1 98 RX11 yX11_see wsX11_see (rmz 1) 3 := ⟨_, _, _, _, gL_X11_see, rfl, by decide +kernel, by decide +kernel⟩
theorem kv_law_X11_set : KV RL lw_tbl room_1 22 RX11 yX11_set wsX11_set (rmz 1) 3 := ⟨_, _, _, _, gL_X11_set, rfl, by decide +kernel, by decide +kernel⟩
theorem kv_law_X11_shift : KV RL lw_tbl room_1 175 RX11 yX11_shift wsX11_shift (rmz 1) 5 := ⟨_, _, _, _, gL_X11_shift, rfl, by decide +kernel, by decide +kernel⟩
theorem kv_law_X11_stop : KV RL lw_tbl room_1 81 RX11 yX11_stop wsX11_stop (rmz 6) 4 := ⟨_, _, _, _, gL_X11_stop, rfl, by decide +kernel, by decide +kernel⟩
theorem kv_law_X11_taken : KV RL lw_tbl room_1 152 RX11 yX11_taken wsX11_taken (rmz 1) 2 := ⟨_, _, _, _, gL_X11_taken, rfl, by decide +kernel, by decide +kernel⟩
theorem kv_law_X11_tape : KV RL lw_tbl room_1 160 RX11 yX11_tape wsX11_tape (rmz 2) 3 := ⟨_, _, _, _, gL_X11_tape, rfl, by decide +kernel, by decide +kernel⟩
theorem kv_law_X11_told : KV RL lw_tbl room_1 45 RX11 yX11_told wsX11_told (rmz 0) 1 := ⟨_, _, _, _, gL_X11_told, rfl, by decide +kernel, by decide +kernel⟩
theorem kv_law_X11_trace : KV RL lw_tbl room_1 148 RX11 yX11_trace wsX11_trace (rmz 1) 1 := ⟨_, _, _, _, gL_X11_trace, rfl, by decide +kernel, by decide +kernel⟩
theorem kv_law_X11_undo : KV RL lw_tbl room_1 140 RX11 yX11_undo wsX11_undo (rmz 3) 0 := ⟨_, _, _, _, gL_X11_undo, rfl, by decide +kernel, by decide +kernel⟩
theorem kv_law_X11_whet : KV RL lw_tbl room_1 53 RX11 yX11_whet wsX11_whet (rmz 3) 0 := ⟨_, _, _, _, gL_X11_whet, rfl, by decide +kernel, by decide +kernel⟩
theorem kv_law_X11_whets : KV RL lw_tbl room_1 73 RX11 yX11_whets wsX11_whets (rmz 7) 2 := ⟨_, _, _, _, gL_X11_whets, rfl, by decide +kernel, by decide +kernel⟩
theorem kv_law_X11_who : KV RL lw_tbl room_1 102 RX11 yX11_who wsX11_who (rmz 6) 0 := ⟨_, _, _, _, gL_X11_who, rfl, by decide +kernel, by decide +kernel⟩
theorem kv_law_X12_act : KV RL lw_tbl room_1 147 RX12 yX12_act wsX12_act (rmz 8) 3 := ⟨_, _, _, _, gL_X12_act, rfl, by decide +kernel, by decide +kernel⟩
theorem kv_law_X12_alone : KV RL lw_tbl room_1 89 RX12 yX12_alone wsX12_alone (rmz 9) 1 := ⟨_, _, _, _, gL_X12_alone, rfl, by decide +kernel, by decide +kernel⟩
theorem kv_law_X12_apart : KV RL lw_tbl room_1 80 RX12 yX12_apart wsX12_apart (rmz 9) 2 := ⟨_, _, _, _, gL_X12_apart, rfl, by decide +kernel, by decide +kernel⟩
theorem kv_law_X12_book : KV RL lw_tbl room_1 127 RX12 yX12_book wsX12_book (rmz 2) 1 := ⟨_, _, _, _, gL_X12_book, rfl, by decide +kernel, by decide +kernel⟩
theorem kv_law_X12_count : KV RL lw_tbl room_1 159 RX12 yX12_count wsX12_count (rmz 0) 1 := ⟨_, _, _, _, gL_X12_count, rfl, by decide +kernel, by decide +kernel⟩
theorem kv_law_X12_done : KV RL lw_tbl room_1 68 RX12 yX12_done wsX12_done (rmz 8) 0 := ⟨_, _, _, _, gL_X12_done, rfl, by decide +kernel, by decide +kernel⟩
theorem kv_law_X12_feed : KV RL lw_tbl room_1 39 RX12 yX12_feed wsX12_feed (rmz 1) 1 := ⟨_, _, _, _, gL_X12_feed, rfl, by decide +kernel, by decide +kernel⟩
theorem kv_law_X12_field : KV RL lw_tbl room_1 44 RX12 yX12_field wsX12_field (rmz 7) 0 := ⟨_, _, _, _, gL_X12_field, rfl, by decide +kernel, by decide +kernel⟩
theorem kv_law_X12_image : KV RL lw_tbl room_1 139 RX12 yX12_image wsX12_image (rmz 0) 0 := ⟨_, _, _, _, gL_X12_image, rfl, by decide +kernel, by decide +kernel⟩
theorem kv_law_X12_item : KV RL lw_tbl room_1 170 RX12 yX12_item wsX12_item (rmz 2) 3 := ⟨_, _, _, _, gL_X12_item, rfl, by decide +kernel, by decide +kernel⟩
theorem kv_law_X12_judge : KV RL lw_tbl room_1 135 RX12 yX12_judge wsX12_judge (rmz 2) 2 := ⟨_, _, _, _, gL_X12_judge, rfl, by decide +kernel, by decide +kernel⟩
theorem kv_law_X12_looked : KV RL lw_tbl room_1 131 RX12 yX12_looked wsX12_looked (rmz 7) 0 := ⟨_, _, _, _, gL_X12_looked, rfl, by decide +kernel, by decide +kernel⟩
theorem kv_law_X12_mean : KV RL lw_tbl room_1 115 RX12 yX12_mean wsX12_mean (rmz 9) 2 := ⟨_, _, _, _, gL_X12_mean, rfl, by decide +kernel, by decide +kernel⟩
theorem kv_law_X12_minute : KV RL lw_tbl room_1 52 RX12 yX12_minute wsX12_minute (rmz 7) 0 := ⟨_, _, _, _, gL_X12_minute, rfl, by decide +kernel, by decide +kernel⟩
theorem kv_law_X12_mower : KV RL lw_tbl room_1 17 RX12 yX12_mower wsX12_mower (rmz 1) 2 := ⟨_, _, _, _, gL_X12_mower, rfl, by decide +kernel, by decide +kernel⟩
theorem kv_law_X12_odds : KV RL lw_tbl room_1 110 RX12 yX12_odds wsX12_odds (rmz 8) 3 := ⟨_, _, _, _, gL_X12_odds, rfl, by decide +kernel, by decide +kernel⟩
theorem kv_law_X12_of : KV RL lw_tbl room_1 21 RX12 yX12_of wsX12_of (rmz 6) 2 := ⟨_, _, _, _, gL_X12_of, rfl, by decide +kernel, by decide +kernel⟩
theorem kv_law_X12_on : KV RL lw_tbl room_1 64 RX12 yX12_on wsX12_on (rmz 8) 2 := ⟨_, _, _, _, gL_X12_on, rfl, by decide +kernel, by decide +kernel⟩
theorem kv_law_X12_order : KV RL lw_tbl room_1 72 RX12 yX12_order wsX12_order (rmz 9) 2 := ⟨_, _, _, _, gL_X12_order, rfl, by decide +kernel, by decide +kernel⟩
theorem kv_law_X12_pause : KV RL lw_tbl room_1 60 RX12 yX12_pause wsX12_pause (rmz 2) 1 := ⟨_, _, _, _, gL_X12_pause, rfl, by decide +kernel, by decide +kernel⟩
theorem kv_law_X12_paused : KV RL lw_tbl room_1 97 RX12 yX12_paused wsX12_paused (rmz 8) 2 := ⟨_, _, _, _, gL_X12_paused, rfl, by decide +kernel, by decide +kernel⟩
theorem kv_law_X12_place : KV RL lw_tbl room_1 34 RX12 yX12_place wsX12_place (rmz 2) 2 := ⟨_, _, _, _, gL_X12_place, rfl, by decide +kernel, by decide +kernel⟩
theorem kv_law_X12_plan : KV RL lw_tbl room_1 119 RX12 yX12_plan wsX12_plan (rmz 1) 1 := ⟨_, _, _, _, gL_X12_plan, rfl, by decide +kernel, by decide +kernel⟩
theorem kv_law_X12_planned : KV RL lw_tbl room_1 123 RX12 yX12_planned wsX12_planned (rmz 8) 0 := ⟨_, _, _, _, gL_X12_planned, rfl, by decide +kernel, by decide +kernel⟩
theorem kv_law_X12_read : KV RL lw_tbl room_1 174 RX12 yX12_read wsX12_read (rmz 2) 2 := ⟨_, _, _, _, gL_X12_read, rfl, by decide +kernel, by decide +kernel⟩
theorem kv_law_X12_rest : KV RL lw_tbl room_1 93 RX12 yX12_rest wsX12_rest (rmz 9) 2 := ⟨_, _, _, _, gL_X12_rest, rfl, by decide +kernel, by decide +kernel⟩
theorem kv_law_X12_row : KV RL lw_tbl room_1 30 RX12 yX12_row wsX12_row (rmz 2) 3 := ⟨_, _, _, _, gL_X12_row, rfl, by decide +kernel, by decide +kernel⟩
theorem kv_law_X12_see : KV RL lw_tbl room_1 101 RX12 yX12_see wsX12_see (rmz 2) 3 := ⟨_, _, _, _, gL_X12_see, rfl, by decide +kernel, by decide +kernel⟩
theorem kv_law_X12_set : KV RL lw_tbl room_1 26 RX12 yX12_set wsX12_set (rmz 2) 3 := ⟨_, _, _, _, gL_X12_set, rfl, by decide +kernel, by decide +kernel⟩
theorem kv_law_X12_shift : KV RL lw_tbl room_1 179 RX12 yX12_shift wsX12_shift (rmz 2) 5 := ⟨_, _, _, _, gL_X12_shift, rfl, by decide +kernel, by decide +kernel⟩
theorem kv_law_X12_stop : KV RL lw_tbl room_1 85 RX12 yX12_stop wsX12_stop (rmz 8) 4 := ⟨_, _, _, _, gL_X12_stop, rfl, by decide +kernel, by decide +kernel⟩
theorem kv_law_X12_taken : KV RL lw_tbl room_1 155 RX12 yX12_taken wsX12_taken (rmz 2) 2 := ⟨_, _, _, _, gL_X12_taken, rfl, by decide +kernel, by decide +kernel⟩
theorem kv_law_X12_tape : KV RL lw_tbl room_1 163 RX12 yX12_tape wsX12_tape (rmz 2) 3 := ⟨_, _, _, _, gL_X12_tape, rfl, by decide +kernel, by decide +kernel⟩
theorem kv_law_X12_told : KV RL lw_tbl room_1 48 RX12 yX12_told wsX12_told (rmz 3) 1 := ⟨_, _, _, _, gL_X12_told, rfl, by decide +kernel, by decide +kernel⟩
theorem kv_law_X12_trace : KV RL lw_tbl room_1 151 RX12 yX12_trace wsX12_trace (rmz 1) 1 := ⟨_, _, _, _, gL_X12_trace, rfl, by decide +kernel, by decide +kernel⟩
theorem kv_law_X12_undo : KV RL lw_tbl room_1 143 RX12 yX12_undo wsX12_undo (rmz 0) 0 := ⟨_, _, _, _, gL_X12_undo, rfl, by decide +kernel, by decide +kernel⟩
theorem kv_law_X12_whet : KV RL lw_tbl room_1 56 RX12 yX12_whet wsX12_whet (rmz 2) 0 := ⟨_, _, _, _, gL_X12_whet, rfl, by decide +kernel, by decide +kernel⟩
theorem kv_law_X12_whets : KV RL lw_tbl room_1 76 RX12 yX12_whets wsX12_whets (rmz 9) 2 := ⟨_, _, _, _, gL_X12_whets, rfl, by decide +kernel, by decide +kernel⟩
theorem kv_law_X12_who : KV RL lw_tbl room_1 105 RX12 yX12_who wsX12_who (rmz 9) 0 := ⟨_, _, _, _, gL_X12_who, rfl, by decide +kernel, by decide +kernel⟩
set_option maxHeartbeats 4000000 in
theorem lwd_0 {M : Mx} {L : Nat} {xs : Nat → Int32} {j : Nat} {σ : Sg} {kn : Nat × Nat} {i r : Int32} (S : LSt M L xs (j + 1) σ kn) (hq : ∀ (r9 : Int32) (σ9 : Sg), (Fr [74, 103, 104, 105, 106, 107, 108, 109, 110] [0, 2] σ σ9) → ((gi σ9 74 0).toInt = (gi σ 74 0).toInt ∨ (gi σ9 74 0).toInt = (gi σ 74 0).toInt + 1) → ((((xs (i + 1).toNatClampNeg).toInt < 0 ∨ 6 < (xs (i + 1).toNatClampNeg).toInt) → r9.toInt = -1 ∧ (gi σ9 74 0).toInt = (gi σ 74 0).toInt) ∧ (0 ≤ (xs (i + 1).toNatClampNeg).toInt → (xs (i + 1).toNatClampNeg).toInt ≤ 6 → (((xs (i + 2).toNatClampNeg).toInt < 0 ∨ 9 < (xs (i + 2).toNatClampNeg).toInt) → r9.toInt = -2 ∧ (gi σ9 74 0).toInt = (gi σ 74 0).toInt) ∧ (0 ≤ (xs (i + 2).toNatClampNeg).toInt → (xs (i + 2).toNatClampNeg).toInt ≤ 9 → (6 ≤ (gi σ 74 0).toInt → r9.toInt = -4 ∧ (gi σ9 74 0).toInt = (gi σ 74 0).toInt) ∧ ((gi σ 74 0).toInt < 6 → r9.toInt = (gi σ 74 0).toInt ∧ (gi σ9 74 0).toInt = (gi σ 74 0).toInt + 1)))) → (F_X12_mower (xs (i + 1).toNatClampNeg) (xs (i + 2).toNatClampNeg) σ = (r9, σ9)) → RELS σ9 ∧ r = r9) (hi : i.toInt = 6 * (j : Int)) (hL : 6 * j + 6 ≤ L) (h3 : L ≤ 3072) (next : ∀ M2 σ2 kn2, LSt M2 L xs (j + 1) σ2 kn2 → RELS σ2 → PS M2 1381 (lwv i) [] σ2 kn2) : PS M 218 (lwv i) [.int r] σ kn := by
  obtain ⟨C, hS, hI, hU, hN0, hw, hk1, hk2, hN⟩ := id S
  refine P_pop C dL_law_218 rfl ?_
  refine P_aload_n C dL_law_219 2 rfl ?_
  refine P_cell C hS (n := 1) rfl dL_law_220 dL_law_221 dL_law_222 dL_law_223 dL_law_224 rfl rfl (lw_in hi hL h3 (by decide +kernel) (by decide +kernel)) ?_
  refine P_cell C hS (n := 2) rfl dL_law_225 dL_law_226 dL_law_227 dL_law_228 dL_law_229 rfl rfl (lw_in hi hL h3 (by decide +kernel) (by decide +kernel)) ?_
  refine P_ci (R_v (ci := 12) C kv_law_X12_mower (As := [.int (xs (i + 1).toNatClampNeg), .int (xs (i + 2).toNatClampNeg)]) rfl kd_74 rfl (fxl fx_74) (Nat.le_of_ble_eq_true rfl) dL_law_230 ⟨by show kn.1 + 0 ≤ 600000; omega, by show kn.2 + 0 ≤ 7302250; omega⟩ (L3_X12_mower (Qk := fun r9 σ9 => INV (mV M) σ9 ∧ (Fr [74, 103, 104, 105, 106, 107, 108, 109, 110] [0, 2] σ σ9) ∧ ((gi σ9 74 0).toInt = (gi σ 74 0).toInt ∨ (gi σ9 74 0).toInt = (gi σ 74 0).toInt + 1) ∧ ((((xs (i + 1).toNatClampNeg).toInt < 0 ∨ 6 < (xs (i + 1).toNatClampNeg).toInt) → r9.toInt = -1 ∧ (gi σ9 74 0).toInt = (gi σ 74 0).toInt) ∧ (0 ≤ (xs (i + 1).toNatClampNeg).toInt → (xs (i + 1).toNatClampNeg).toInt ≤ 6 → (((xs (i + 2).toNatClampNeg).toInt < 0 ∨ 9 < (xs (i + 2).toNatClampNeg).toInt) → r9.toInt = -2 ∧ (gi σ9 74 0).toInt = (gi σ 74 0).toInt) ∧ (0 ≤ (xs (i + 2).toNatClampNeg).toInt → (xs (i + 2).toNatClampNeg).toInt ≤ 9 → (6 ≤ (gi σ 74 0).toInt → r9.toInt = -4 ∧ (gi σ9 74 0).toInt = (gi σ 74 0).toInt) ∧ ((gi σ 74 0).toInt < 6 → r9.toInt = (gi σ 74 0).toInt ∧ (gi σ9 74 0).toInt = (gi σ 74 0).toInt + 1)))) ∧ (F_X12_mower (xs (i + 1).toNatClampNeg) (xs (i + 2).toNatClampNeg) σ = (r9, σ9))) hI (fun _ _ h g0 g1 g2 g3 => ⟨h, g0, g1, g2, g3⟩))) ?_
  rintro r2 σ2 ⟨hI2, e2_0, e2_1, e2_2, e2_3⟩
  refine P_pop C dL_law_233 rfl ?_
  refine P_goto C (tgt := 1381) dL_law_234 (by decide +kernel) ?_
  exact next M σ2 _ ⟨C, hS, hI2, hU, hN0, hw, hk1, hk2, hN⟩ (hq r2 σ2 e2_0 e2_1 e2_2 e2_3).1
set_option maxHeartbeats 4000000 in
theorem lwd_6 {M : Mx} {L : Nat} {xs : Nat → Int32} {j : Nat} {σ : Sg} {kn : Nat × Nat} {i r : Int32} (S : LSt M L xs (j + 1) σ kn) (hq : ∀ (r9 : Int32) (σ9 : Sg), (Fr [74, 117, 118, 119, 120, 121, 122, 123] [11, 12, 13, 14, 15, 24, 25, 26] σ σ9) → ((gi σ9 74 12).toInt < (gi σ9 74 11).toInt) → ((gi σ9 74 50).toInt < (gi σ9 74 11).toInt) → (F_X12_field σ = (r9, σ9)) → RELS σ9 ∧ r = r9) (hi : i.toInt = 6 * (j : Int)) (hL : 6 * j + 6 ≤ L) (h3 : L ≤ 3072) (next : ∀ M2 σ2 kn2, LSt M2 L xs (j + 1) σ2 kn2 → RELS σ2 → PS M2 1381 (lwv i) [] σ2 kn2) : PS M 416 (lwv i) [.int r] σ kn := by
  obtain ⟨C, hS, hI, hU, hN0, hw, hk1, hk2, hN⟩ := id S
  refine P_pop C dL_law_416 rfl ?_
  refine P_aload_n C dL_law_417 2 rfl ?_
  refine P_ci (R_v (ci := 12) C kv_law_X12_field (As := []) rfl kd_74 rfl (fxl fx_74) (Nat.le_of_ble_eq_true rfl) dL_law_418 ⟨by show kn.1 + 0 ≤ 600000; omega, by show kn.2 + 0 ≤ 7302250; omega⟩ (L4_X12_field (Qk := fun r9 σ9 => INV (mV M) σ9 ∧ (Fr [74, 117, 118, 119, 120, 121, 122, 123] [11, 12, 13, 14, 15, 24, 25, 26] σ σ9) ∧ ((gi σ9 74 12).toInt < (gi σ9 74 11).toInt) ∧ ((gi σ9 74 50).toInt < (gi σ9 74 11).toInt) ∧ (F_X12_field σ = (r9, σ9))) hI (fun _ _ h g0 g1 g2 g3 => ⟨h, g0, g1, g2, g3⟩))) ?_
  rintro r2 σ2 ⟨hI2, e2_0, e2_1, e2_2, e2_3⟩
  refine P_pop C dL_law_421 rfl ?_
  refine P_goto C (tgt := 1381) dL_law_422 (by decide +kernel) ?_
  exact next M σ2 _ ⟨C, hS, hI2, hU, hN0, hw, hk1, hk2, hN⟩ (hq r2 σ2 e2_0 e2_1 e2_2 e2_3).1
set_option maxHeartbeats 4000000 in
theorem lwc_0 {M : Mx} {L : Nat} {xs : Nat → Int32} {j : Nat} {σ : Sg} {kn : Nat × Nat} {i : Int32} (S : LSt M L xs j σ kn) (hc : RELS σ) (hi : i.toInt = 6 * (j : Int)) (hL : 6 * j + 6 ≤ L) (h3 : L ≤ 3072) (next : ∀ M2 σ2 kn2, LSt M2 L xs (j + 1) σ2 kn2 → RELS σ2 → PS M2 1381 (lwv i) [] σ2 kn2) : PS M 204 (lwv i) [] σ kn := by
  obtain ⟨C, hS, hI, hU, hN0, hw, hk1, hk2, hN⟩ := id S
  refine P_aload_n C dL_law_204 1 rfl ?_
  refine P_cell C hS (n := 1) rfl dL_law_205 dL_law_206 dL_law_207 dL_law_208 dL_law_209 rfl rfl (lw_in hi hL h3 (by decide +kernel) (by decide +kernel)) ?_
  refine P_cell C hS (n := 2) rfl dL_law_210 dL_law_211 dL_law_212 dL_law_213 dL_law_214 rfl rfl (lw_in hi hL h3 (by decide +kernel) (by decide +kernel)) ?_
  refine P_ciW (R_v (ci := 11) C kv_law_X11_mower (As := [.int (xs (i + 1).toNatClampNeg), .int (xs (i + 2).toNatClampNeg)]) rfl kd_0 rfl (fxl fx_0) (Nat.le_of_ble_eq_true rfl) dL_law_215 (LS_k S (by omega) (Nat.le_of_ble_eq_true rfl) (Nat.le_of_ble_eq_true rfl)) (L3_X11_mower hU hw hI)) (lwv_lo i) (fun _ V2 σ2 h9 => h9.1) ?_
  rintro r1 V2 σ1 ⟨hv, hw2, hI1, e1_0, e1_1, e1_2⟩
  have S2 := LS_v (kn' := (kn.1 + 1, kn.2 + 3)) S hv hw2 hI1 (by show kn.1 + 1 ≤ _; omega) (by show kn.2 + 3 ≤ _; omega)
  refine lwd_0 S2 (fun r9 σ9 g0 g1 g2 g3 => RS_mower hc hI e1_0 e1_1 e1_2 g0 g1 g2 g3) hi (by omega) (by omega) next
set_option maxHeartbeats 4000000 in
theorem lwc_1 {M : Mx} {L : Nat} {xs : Nat → Int32} {j : Nat} {σ : Sg} {kn : Nat × Nat} {i : Int32} (S : LSt M L xs j σ kn) (hc : RELS σ) (hi : i.toInt = 6 * (j : Int)) (hL : 6 * j + 6 ≤ L) (h3 : L ≤ 3072) (next : ∀ M2 σ2 kn2, LSt M2 L xs (j + 1) σ2 kn2 → RELS σ2 → PS M2 1381 (lwv i) [] σ2 kn2) : PS M 237 (lwv i) [] σ kn := by
  obtain ⟨C, hS, hI, hU, hN0, hw, hk1, hk2, hN⟩ := id S
  refine P_aload_n C dL_law_237 1 rfl ?_
  refine P_cell C hS (n := 1) rfl dL_law_238 dL_law_239 dL_law_240 dL_law_241 dL_law_242 rfl rfl (lw_in hi hL h3 (by decide +kernel) (by decide +kernel)) ?_
  refine P_cell C hS (n := 2) rfl dL_law_243 dL_law_244 dL_law_245 dL_law_246 dL_law_247 rfl rfl (lw_in hi hL h3 (by decide +kernel) (by decide +kernel)) ?_
  refine P_ci (R_v (ci := 11) C kv_law_X11_of (As := [.int (xs (i + 1).toNatClampNeg), .int (xs (i + 2).toNatClampNeg)]) rfl kd_0 rfl (fxl fx_0) (Nat.le_of_ble_eq_true rfl) dL_law_248 (LS_k S (by omega) (Nat.le_of_ble_eq_true rfl) (Nat.le_of_ble_eq_true rfl)) (L4_X11_of (Qk := fun r9 σ9 => INV (mV M) σ9 ∧ (FX (fun id => id = 16) (fun _ _ => False) σ σ9) ∧ (F_X11_of (xs (i + 1).toNatClampNeg) (xs (i + 2).toNatClampNeg) σ = (r9, σ9))) hI (fun _ _ h g0 g1 => ⟨h, g0, g1⟩))) ?_
  rintro r1 σ1 ⟨hI1, e1_0, e1_1⟩
  refine P_pop C dL_law_251 rfl ?_
  refine P_aload_n C dL_law_252 2 rfl ?_
  refine P_cell C hS (n := 1) rfl dL_law_253 dL_law_254 dL_law_255 dL_law_256 dL_law_257 rfl rfl (lw_in hi hL h3 (by decide +kernel) (by decide +kernel)) ?_
  refine P_cell C hS (n := 2) rfl dL_law_258 dL_law_259 dL_law_260 dL_law_261 dL_law_262 rfl rfl (lw_in hi hL h3 (by decide +kernel) (by decide +kernel)) ?_
  refine P_ci (R_v (ci := 12) C kv_law_X12_of (As := [.int (xs (i + 1).toNatClampNeg), .int (xs (i + 2).toNatClampNeg)]) rfl kd_74 rfl (fxl fx_74) (Nat.le_of_ble_eq_true rfl) dL_law_263 (by have h9 := LS_k S (by omega) (c := 0) (n := 0) (Nat.le_of_ble_eq_true rfl) (Nat.le_of_ble_eq_true rfl); exact h9) (L4_X12_of (Qk := fun r9 σ9 => INV (mV M) σ9 ∧ (Fr [74, 129] [30] σ1 σ9) ∧ (F_X12_of (xs (i + 1).toNatClampNeg) (xs (i + 2).toNatClampNeg) σ1 = (r9, σ9))) hI1 (fun _ _ h g0 g1 => ⟨h, g0, g1⟩))) ?_
  rintro r2 σ2 ⟨hI2, e2_0, e2_1⟩
  refine P_pop C dL_law_266 rfl ?_
  refine P_goto C (tgt := 1381) dL_law_267 (by decide +kernel) ?_
  exact next M σ2 _ (LS_s S hI2 rfl rfl) (RS_of hc hI e1_0 e1_1 e2_0 e2_1).1
set_option maxHeartbeats 4000000 in
theorem lwc_2 {M : Mx} {L : Nat} {xs : Nat → Int32} {j : Nat} {σ : Sg} {kn : Nat × Nat} {i : Int32} (S : LSt M L xs j σ kn) (hc : RELS σ) (hi : i.toInt = 6 * (j : Int)) (hL : 6 * j + 6 ≤ L) (h3 : L ≤ 3072) (next : ∀ M2 σ2 kn2, LSt M2 L xs (j + 1) σ2 kn2 → RELS σ2 → PS M2 1381 (lwv i) [] σ2 kn2) : PS M 270 (lwv i) [] σ kn := by
  obtain ⟨C, hS, hI, hU, hN0, hw, hk1, hk2, hN⟩ := id S
  refine P_aload_n C dL_law_270 1 rfl ?_
  refine P_cell C hS (n := 1) rfl dL_law_271 dL_law_272 dL_law_273 dL_law_274 dL_law_275 rfl rfl (lw_in hi hL h3 (by decide +kernel) (by decide +kernel)) ?_
  refine P_cell C hS (n := 2) rfl dL_law_276 dL_law_277 dL_law_278 dL_law_279 dL_law_280 rfl rfl (lw_in hi hL h3 (by decide +kernel) (by decide +kernel)) ?_
  refine P_cell C hS (n := 3) rfl dL_law_281 dL_law_282 dL_law_283 dL_law_284 dL_law_285 rfl rfl (lw_in hi hL h3 (by decide +kernel) (by decide +kernel)) ?_
  refine P_ci (R_v (ci := 11) C kv_law_X11_set (As := [.int (xs (i + 1).toNatClampNeg), .int (xs (i + 2).toNatClampNeg), .int (xs (i + 3).toNatClampNeg)]) rfl kd_0 rfl (fxl fx_0) (Nat.le_of_ble_eq_true rfl) dL_law_286 (LS_k S (by omega) (Nat.le_of_ble_eq_true rfl) (Nat.le_of_ble_eq_true rfl)) (L4_X11_set (Qk := fun r9 σ9 => INV (mV M) σ9 ∧ (FX (fun id => id = 4 ∨ id = 5 ∨ id = 6 ∨ id = 7) (fun _ _ => False) σ σ9) ∧ (F_X11_set (xs (i + 1).toNatClampNeg) (xs (i + 2).toNatClampNeg) (xs (i + 3).toNatClampNeg) σ = (r9, σ9))) hI (fun _ _ h g0 g1 => ⟨h, g0, g1⟩))) ?_
  rintro r1 σ1 ⟨hI1, e1_0, e1_1⟩
  refine P_pop C dL_law_289 rfl ?_
  refine P_aload_n C dL_law_290 2 rfl ?_
  refine P_cell C hS (n := 1) rfl dL_law_291 dL_law_292 dL_law_293 dL_law_294 dL_law_295 rfl rfl (lw_in hi hL h3 (by decide +kernel) (by decide +kernel)) ?_
  refine P_cell C hS (n := 2) rfl dL_law_296 dL_law_297 dL_law_298 dL_law_299 dL_law_300 rfl rfl (lw_in hi hL h3 (by decide +kernel) (by decide +kernel)) ?_
  refine P_cell C hS (n := 3) rfl dL_law_301 dL_law_302 dL_law_303 dL_law_304 dL_law_305 rfl rfl (lw_in hi hL h3 (by decide +kernel) (by decide +kernel)) ?_
  refine P_ci (R_v (ci := 12) C kv_law_X12_set (As := [.int (xs (i + 1).toNatClampNeg), .int (xs (i + 2).toNatClampNeg), .int (xs (i + 3).toNatClampNeg)]) rfl kd_74 rfl (fxl fx_74) (Nat.le_of_ble_eq_true rfl) dL_law_306 (by have h9 := LS_k S (by omega) (c := 0) (n := 0) (Nat.le_of_ble_eq_true rfl) (Nat.le_of_ble_eq_true rfl); exact h9) (L4_X12_set (Qk := fun r9 σ9 => INV (mV M) σ9 ∧ (Fr [105, 106, 107, 108] [] σ1 σ9) ∧ (F_X12_set (xs (i + 1).toNatClampNeg) (xs (i + 2).toNatClampNeg) (xs (i + 3).toNatClampNeg) σ1 = (r9, σ9))) hI1 (fun _ _ h g0 g1 => ⟨h, g0, g1⟩))) ?_
  rintro r2 σ2 ⟨hI2, e2_0, e2_1⟩
  refine P_pop C dL_law_309 rfl ?_
  refine P_goto C (tgt := 1381) dL_law_310 (by decide +kernel) ?_
  exact next M σ2 _ (LS_s S hI2 rfl rfl) (RS_set hc hI e1_0 e1_1 e2_0 e2_1).1
set_option maxHeartbeats 4000000 in
theorem lwc_3 {M : Mx} {L : Nat} {xs : Nat → Int32} {j : Nat} {σ : Sg} {kn : Nat × Nat} {i : Int32} (S : LSt M L xs j σ kn) (hc : RELS σ) (hi : i.toInt = 6 * (j : Int)) (hL : 6 * j + 6 ≤ L) (h3 : L ≤ 3072) (next : ∀ M2 σ2 kn2, LSt M2 L xs (j + 1) σ2 kn2 → RELS σ2 → PS M2 1381 (lwv i) [] σ2 kn2) : PS M 313 (lwv i) [] σ kn := by
  obtain ⟨C, hS, hI, hU, hN0, hw, hk1, hk2, hN⟩ := id S
  refine P_aload_n C dL_law_313 1 rfl ?_
  refine P_cell C hS (n := 1) rfl dL_law_314 dL_law_315 dL_law_316 dL_law_317 dL_law_318 rfl rfl (lw_in hi hL h3 (by decide +kernel) (by decide +kernel)) ?_
  refine P_cell C hS (n := 2) rfl dL_law_319 dL_law_320 dL_law_321 dL_law_322 dL_law_323 rfl rfl (lw_in hi hL h3 (by decide +kernel) (by decide +kernel)) ?_
  refine P_cell C hS (n := 3) rfl dL_law_324 dL_law_325 dL_law_326 dL_law_327 dL_law_328 rfl rfl (lw_in hi hL h3 (by decide +kernel) (by decide +kernel)) ?_
  refine P_ci (R_v (ci := 11) C kv_law_X11_row (As := [.int (xs (i + 1).toNatClampNeg), .int (xs (i + 2).toNatClampNeg), .int (xs (i + 3).toNatClampNeg)]) rfl kd_0 rfl (fxl fx_0) (Nat.le_of_ble_eq_true rfl) dL_law_329 (LS_k S (by omega) (Nat.le_of_ble_eq_true rfl) (Nat.le_of_ble_eq_true rfl)) (L3_X11_row (Qk := fun r9 σ9 => INV (mV M) σ9 ∧ (FX (fun id => id = 8) (fun _ _ => False) σ σ9) ∧ (F_X11_row (xs (i + 1).toNatClampNeg) (xs (i + 2).toNatClampNeg) (xs (i + 3).toNatClampNeg) σ = (r9, σ9))) hI (fun _ _ h g0 g1 => ⟨h, g0, g1⟩))) ?_
  rintro r1 σ1 ⟨hI1, e1_0, e1_1⟩
  refine P_pop C dL_law_332 rfl ?_
  refine P_aload_n C dL_law_333 2 rfl ?_
  refine P_cell C hS (n := 1) rfl dL_law_334 dL_law_335 dL_law_336 dL_law_337 dL_law_338 rfl rfl (lw_in hi hL h3 (by decide +kernel) (by decide +kernel)) ?_
  refine P_cell C hS (n := 2) rfl dL_law_339 dL_law_340 dL_law_341 dL_law_342 dL_law_343 rfl rfl (lw_in hi hL h3 (by decide +kernel) (by decide +kernel)) ?_
  refine P_cell C hS (n := 3) rfl dL_law_344 dL_law_345 dL_law_346 dL_law_347 dL_law_348 rfl rfl (lw_in hi hL h3 (by decide +kernel) (by decide +kernel)) ?_
  refine P_ci (R_v (ci := 12) C kv_law_X12_row (As := [.int (xs (i + 1).toNatClampNeg), .int (xs (i + 2).toNatClampNeg), .int (xs (i + 3).toNatClampNeg)]) rfl kd_74 rfl (fxl fx_74) (Nat.le_of_ble_eq_true rfl) dL_law_349 (by have h9 := LS_k S (by omega) (c := 0) (n := 0) (Nat.le_of_ble_eq_true rfl) (Nat.le_of_ble_eq_true rfl); exact h9) (L3_X12_row (Qk := fun r9 σ9 => INV (mV M) σ9 ∧ (Fr [109] [] σ1 σ9) ∧ (F_X12_row (xs (i + 1).toNatClampNeg) (xs (i + 2).toNatClampNeg) (xs (i + 3).toNatClampNeg) σ1 = (r9, σ9))) hI1 (fun _ _ h g0 g1 => ⟨h, g0, g1⟩))) ?_
  rintro r2 σ2 ⟨hI2, e2_0, e2_1⟩
  refine P_pop C dL_law_352 rfl ?_
  refine P_goto C (tgt := 1381) dL_law_353 (by decide +kernel) ?_
  exact next M σ2 _ (LS_s S hI2 rfl rfl) (RS_row hc hI e1_0 e1_1 e2_0 e2_1).1
set_option maxHeartbeats 4000000 in
theorem lwc_4 {M : Mx} {L : Nat} {xs : Nat → Int32} {j : Nat} {σ : Sg} {kn : Nat × Nat} {i : Int32} (S : LSt M L xs j σ kn) (hc : RELS σ) (hi : i.toInt = 6 * (j : Int)) (hL : 6 * j + 6 ≤ L) (h3 : L ≤ 3072) (next : ∀ M2 σ2 kn2, LSt M2 L xs (j + 1) σ2 kn2 → RELS σ2 → PS M2 1381 (lwv i) [] σ2 kn2) : PS M 356 (lwv i) [] σ kn := by
  obtain ⟨C, hS, hI, hU, hN0, hw, hk1, hk2, hN⟩ := id S
  refine P_aload_n C dL_law_356 1 rfl ?_
  refine P_cell C hS (n := 1) rfl dL_law_357 dL_law_358 dL_law_359 dL_law_360 dL_law_361 rfl rfl (lw_in hi hL h3 (by decide +kernel) (by decide +kernel)) ?_
  refine P_cell C hS (n := 2) rfl dL_law_362 dL_law_363 dL_law_364 dL_law_365 dL_law_366 rfl rfl (lw_in hi hL h3 (by decide +kernel) (by decide +kernel)) ?_
  refine P_ci (R_v (ci := 11) C kv_law_X11_place (As := [.int (xs (i + 1).toNatClampNeg), .int (xs (i + 2).toNatClampNeg)]) rfl kd_0 rfl (fxl fx_0) (Nat.le_of_ble_eq_true rfl) dL_law_367 (LS_k S (by omega) (Nat.le_of_ble_eq_true rfl) (Nat.le_of_ble_eq_true rfl)) (L3_X11_place (Qk := fun r9 σ9 => INV (mV M) σ9 ∧ (FX (fun id => id = 3) (fun _ _ => False) σ σ9) ∧ (F_X11_place (xs (i + 1).toNatClampNeg) (xs (i + 2).toNatClampNeg) σ = (r9, σ9))) hI (fun _ _ h g0 g1 => ⟨h, g0, g1⟩))) ?_
  rintro r1 σ1 ⟨hI1, e1_0, e1_1⟩
  refine P_pop C dL_law_370 rfl ?_
  refine P_aload_n C dL_law_371 2 rfl ?_
  refine P_cell C hS (n := 1) rfl dL_law_372 dL_law_373 dL_law_374 dL_law_375 dL_law_376 rfl rfl (lw_in hi hL h3 (by decide +kernel) (by decide +kernel)) ?_
  refine P_cell C hS (n := 2) rfl dL_law_377 dL_law_378 dL_law_379 dL_law_380 dL_law_381 rfl rfl (lw_in hi hL h3 (by decide +kernel) (by decide +kernel)) ?_
  refine P_ci (R_v (ci := 12) C kv_law_X12_place (As := [.int (xs (i + 1).toNatClampNeg), .int (xs (i + 2).toNatClampNeg)]) rfl kd_74 rfl (fxl fx_74) (Nat.le_of_ble_eq_true rfl) dL_law_382 (by have h9 := LS_k S (by omega) (c := 0) (n := 0) (Nat.le_of_ble_eq_true rfl) (Nat.le_of_ble_eq_true rfl); exact h9) (L3_X12_place (Qk := fun r9 σ9 => INV (mV M) σ9 ∧ (Fr [110] [] σ1 σ9) ∧ (F_X12_place (xs (i + 1).toNatClampNeg) (xs (i + 2).toNatClampNeg) σ1 = (r9, σ9))) hI1 (fun _ _ h g0 g1 => ⟨h, g0, g1⟩))) ?_
  rintro r2 σ2 ⟨hI2, e2_0, e2_1⟩
  refine P_pop C dL_law_385 rfl ?_
  refine P_goto C (tgt := 1381) dL_law_386 (by decide +kernel) ?_
  exact next M σ2 _ (LS_s S hI2 rfl rfl) (RS_place hc hI e1_0 e1_1 e2_0 e2_1).1
set_option maxHeartbeats 4000000 in
theorem lwc_5 {M : Mx} {L : Nat} {xs : Nat → Int32} {j : Nat} {σ : Sg} {kn : Nat × Nat} {i : Int32} (S : LSt M L xs j σ kn) (hc : RELS σ) (hi : i.toInt = 6 * (j : Int)) (hL : 6 * j + 6 ≤ L) (h3 : L ≤ 3072) (next : ∀ M2 σ2 kn2, LSt M2 L xs (j + 1) σ2 kn2 → RELS σ2 → PS M2 1381 (lwv i) [] σ2 kn2) : PS M 389 (lwv i) [] σ kn := by
  obtain ⟨C, hS, hI, hU, hN0, hw, hk1, hk2, hN⟩ := id S
  refine P_aload_n C dL_law_389 1 rfl ?_
  refine P_cell C hS (n := 1) rfl dL_law_390 dL_law_391 dL_law_392 dL_law_393 dL_law_394 rfl rfl (lw_in hi hL h3 (by decide +kernel) (by decide +kernel)) ?_
  refine P_ci (R_v (ci := 11) C kv_law_X11_feed (As := [.int (xs (i + 1).toNatClampNeg)]) rfl kd_0 rfl (fxl fx_0) (Nat.le_of_ble_eq_true rfl) dL_law_395 (LS_k S (by omega) (Nat.le_of_ble_eq_true rfl) (Nat.le_of_ble_eq_true rfl)) (L4_X11_feed (Qk := fun r9 σ9 => INV (mV M) σ9 ∧ (FX (fun id => id = 50) (fun id k => (id = 0 ∧ k = 7)) σ σ9) ∧ (F_X11_feed (xs (i + 1).toNatClampNeg) σ = (r9, σ9))) hI (fun _ _ h g0 g1 => ⟨h, g0, g1⟩))) ?_
  rintro r1 σ1 ⟨hI1, e1_0, e1_1⟩
  refine P_pop C dL_law_398 rfl ?_
  refine P_aload_n C dL_law_399 2 rfl ?_
  refine P_cell C hS (n := 1) rfl dL_law_400 dL_law_401 dL_law_402 dL_law_403 dL_law_404 rfl rfl (lw_in hi hL h3 (by decide +kernel) (by decide +kernel)) ?_
  refine P_ci (R_v (ci := 12) C kv_law_X12_feed (As := [.int (xs (i + 1).toNatClampNeg)]) rfl kd_74 rfl (fxl fx_74) (Nat.le_of_ble_eq_true rfl) dL_law_405 (by have h9 := LS_k S (by omega) (c := 0) (n := 0) (Nat.le_of_ble_eq_true rfl) (Nat.le_of_ble_eq_true rfl); exact h9) (L4_X12_feed (Qk := fun r9 σ9 => INV (mV M) σ9 ∧ (Fr [74, 116] [13] σ1 σ9) ∧ (F_X12_feed (xs (i + 1).toNatClampNeg) σ1 = (r9, σ9))) hI1 (fun _ _ h g0 g1 => ⟨h, g0, g1⟩))) ?_
  rintro r2 σ2 ⟨hI2, e2_0, e2_1⟩
  refine P_pop C dL_law_408 rfl ?_
  refine P_goto C (tgt := 1381) dL_law_409 (by decide +kernel) ?_
  exact next M σ2 _ (LS_s S hI2 rfl rfl) (RS_feed hc hI e1_0 e1_1 e2_0 e2_1).1
set_option maxHeartbeats 4000000 in
theorem lwc_6 {M : Mx} {L : Nat} {xs : Nat → Int32} {j : Nat} {σ : Sg} {kn : Nat × Nat} {i : Int32} (S : LSt M L xs j σ kn) (hc : RELS σ) (hi : i.toInt = 6 * (j : Int)) (hL : 6 * j + 6 ≤ L) (h3 : L ≤ 3072) (next : ∀ M2 σ2 kn2, LSt M2 L xs (j + 1) σ2 kn2 → RELS σ2 → PS M2 1381 (lwv i) [] σ2 kn2) : PS M 412 (lwv i) [] σ kn := by
  obtain ⟨C, hS, hI, hU, hN0, hw, hk1, hk2, hN⟩ := id S
  refine P_aload_n C dL_law_412 1 rfl ?_
  refine P_ciW (R_vN (ci := 11) C hN0 kv_law_X11_field (As := []) rfl kd_0 rfl (fxl fx_0) (Nat.le_of_ble_eq_true rfl) dL_law_413 (LS_k S (by omega) (Nat.le_of_ble_eq_true rfl) (Nat.le_of_ble_eq_true rfl)) (L4_X11_field hU hw hI)) (lwv_lo i) (fun _ V2 σ2 h9 => h9.1) ?_
  rintro r1 V2 σ1 ⟨hv, hw2, hI1, e1_0, e1_1⟩
  have S2 := LS_v (kn' := (kn.1 + 5, kn.2 + 142)) S hv hw2 hI1 (by show kn.1 + 5 ≤ _; omega) (by show kn.2 + 142 ≤ _; omega)
  refine lwd_6 S2 (fun r9 σ9 g0 g1 g2 g3 => RS_field hc hI e1_0 e1_1 g0 g1 g2 g3) hi (by omega) (by omega) next
set_option maxHeartbeats 4000000 in
theorem lwc_7 {M : Mx} {L : Nat} {xs : Nat → Int32} {j : Nat} {σ : Sg} {kn : Nat × Nat} {i : Int32} (S : LSt M L xs j σ kn) (hc : RELS σ) (hi : i.toInt = 6 * (j : Int)) (hL : 6 * j + 6 ≤ L) (h3 : L ≤ 3072) (next : ∀ M2 σ2 kn2, LSt M2 L xs (j + 1) σ2 kn2 → RELS σ2 → PS M2 1381 (lwv i) [] σ2 kn2) : PS M 425 (lwv i) [] σ kn := by
  obtain ⟨C, hS, hI, hU, hN0, hw, hk1, hk2, hN⟩ := id S
  refine P_aload_n C dL_law_425 1 rfl ?_
  refine P_cell C hS (n := 1) rfl dL_law_426 dL_law_427 dL_law_428 dL_law_429 dL_law_430 rfl rfl (lw_in hi hL h3 (by decide +kernel) (by decide +kernel)) ?_
  refine P_ci (R_v (ci := 11) C kv_law_X11_told (As := [.int (xs (i + 1).toNatClampNeg)]) rfl kd_0 rfl (fxl fx_0) (Nat.le_of_ble_eq_true rfl) dL_law_431 (LS_k S (by omega) (Nat.le_of_ble_eq_true rfl) (Nat.le_of_ble_eq_true rfl)) (L4_X11_told (Qk := fun r9 σ9 => INV (mV M) σ9 ∧ (FX (fun id => False) (fun _ _ => False) σ σ9) ∧ (F_X11_told (xs (i + 1).toNatClampNeg) σ = (r9, σ9))) hI (fun _ _ h g0 g1 => ⟨h, g0, g1⟩))) ?_
  rintro r1 σ1 ⟨hI1, e1_0, e1_1⟩
  refine P_pop C dL_law_434 rfl ?_
  refine P_aload_n C dL_law_435 2 rfl ?_
  refine P_cell C hS (n := 1) rfl dL_law_436 dL_law_437 dL_law_438 dL_law_439 dL_law_440 rfl rfl (lw_in hi hL h3 (by decide +kernel) (by decide +kernel)) ?_
  refine P_ci (R_v (ci := 12) C kv_law_X12_told (As := [.int (xs (i + 1).toNatClampNeg)]) rfl kd_74 rfl (fxl fx_74) (Nat.le_of_ble_eq_true rfl) dL_law_441 (by have h9 := LS_k S (by omega) (c := 0) (n := 0) (Nat.le_of_ble_eq_true rfl) (Nat.le_of_ble_eq_true rfl); exact h9) (L4_X12_told (Qk := fun r9 σ9 => INV (mV M) σ9 ∧ (Fr [] [] σ1 σ9) ∧ (F_X12_told (xs (i + 1).toNatClampNeg) σ1 = (r9, σ9))) hI1 (fun _ _ h g0 g1 => ⟨h, g0, g1⟩))) ?_
  rintro r2 σ2 ⟨hI2, e2_0, e2_1⟩
  refine P_pop C dL_law_444 rfl ?_
  refine P_goto C (tgt := 1381) dL_law_445 (by decide +kernel) ?_
  exact next M σ2 _ (LS_s S hI2 rfl rfl) (RS_told hc hI e1_0 e1_1 e2_0 e2_1).1
set_option maxHeartbeats 4000000 in
theorem lwc_8 {M : Mx} {L : Nat} {xs : Nat → Int32} {j : Nat} {σ : Sg} {kn : Nat × Nat} {i : Int32} (S : LSt M L xs j σ kn) (hc : RELS σ) (hi : i.toInt = 6 * (j : Int)) (hL : 6 * j + 6 ≤ L) (h3 : L ≤ 3072) (next : ∀ M2 σ2 kn2, LSt M2 L xs (j + 1) σ2 kn2 → RELS σ2 → PS M2 1381 (lwv i) [] σ2 kn2) : PS M 448 (lwv i) [] σ kn := by
  obtain ⟨C, hS, hI, hU, hN0, hw, hk1, hk2, hN⟩ := id S
  refine P_aload_n C dL_law_448 1 rfl ?_
  refine P_ci (R_v (ci := 11) C kv_law_X11_minute (As := []) rfl kd_0 rfl (fxl fx_0) (Nat.le_of_ble_eq_true rfl) dL_law_449 (LS_k S (by omega) (Nat.le_of_ble_eq_true rfl) (Nat.le_of_ble_eq_true rfl)) (L4_X11_minute (Qk := fun r9 σ9 => INV (mV M) σ9 ∧ (FX (fun id => id = 15 ∨ id = 16 ∨ id = 4 ∨ id = 5 ∨ id = 6 ∨ id = 7) (fun id k => (id = 1 ∧ k = 9)) σ σ9) ∧ ((gi σ9 1 9).toInt ≤ 9999) ∧ (F_X11_minute σ = (r9, σ9))) hI (fun _ _ h g0 g1 g2 => ⟨h, g0, g1, g2⟩))) ?_
  rintro r1 σ1 ⟨hI1, e1_0, e1_1, e1_2⟩
  refine P_pop C dL_law_452 rfl ?_
  refine P_aload_n C dL_law_453 2 rfl ?_
  refine P_ci (R_v (ci := 12) C kv_law_X12_minute (As := []) rfl kd_74 rfl (fxl fx_74) (Nat.le_of_ble_eq_true rfl) dL_law_454 (by have h9 := LS_k S (by omega) (c := 0) (n := 0) (Nat.le_of_ble_eq_true rfl) (Nat.le_of_ble_eq_true rfl); exact h9) (L4_X12_minute (Qk := fun r9 σ9 => INV (mV M) σ9 ∧ (Fr [74, 105, 106, 107, 108, 129, 131, 132] [1, 30] σ1 σ9) ∧ ((gi σ9 74 1).toInt ≤ 9999) ∧ (F_X12_minute σ1 = (r9, σ9))) hI1 (fun _ _ h g0 g1 g2 => ⟨h, g0, g1, g2⟩))) ?_
  rintro r2 σ2 ⟨hI2, e2_0, e2_1, e2_2⟩
  refine P_pop C dL_law_457 rfl ?_
  refine P_goto C (tgt := 1381) dL_law_458 (by decide +kernel) ?_
  exact next M σ2 _ (LS_s S hI2 rfl rfl) (RS_minute hc hI e1_0 e1_1 e1_2 e2_0 e2_1 e2_2).1
set_option maxHeartbeats 4000000 in
theorem lwc_9 {M : Mx} {L : Nat} {xs : Nat → Int32} {j : Nat} {σ : Sg} {kn : Nat × Nat} {i : Int32} (S : LSt M L xs j σ kn) (hc : RELS σ) (hi : i.toInt = 6 * (j : Int)) (hL : 6 * j + 6 ≤ L) (h3 : L ≤ 3072) (next : ∀ M2 σ2 kn2, LSt M2 L xs (j + 1) σ2 kn2 → RELS σ2 → PS M2 1381 (lwv i) [] σ2 kn2) : PS M 461 (lwv i) [] σ kn := by
  obtain ⟨C, hS, hI, hU, hN0, hw, hk1, hk2, hN⟩ := id S
  refine P_aload_n C dL_law_461 1 rfl ?_
  refine P_ci (R_v (ci := 11) C kv_law_X11_whet (As := []) rfl kd_0 rfl (fxl fx_0) (Nat.le_of_ble_eq_true rfl) dL_law_462 (LS_k S (by omega) (Nat.le_of_ble_eq_true rfl) (Nat.le_of_ble_eq_true rfl)) (L4_X11_whet (Qk := fun r9 σ9 => INV (mV M) σ9 ∧ (FX (fun id => id = 5 ∨ id = 6 ∨ id = 7) (fun id k => (id = 1 ∧ k = 9)) σ σ9) ∧ ((gi σ9 1 9).toInt ≤ 9999) ∧ (F_X11_whet σ = (r9, σ9))) hI (fun _ _ h g0 g1 g2 => ⟨h, g0, g1, g2⟩))) ?_
  rintro r1 σ1 ⟨hI1, e1_0, e1_1, e1_2⟩
  refine P_pop C dL_law_465 rfl ?_
  refine P_aload_n C dL_law_466 2 rfl ?_
  refine P_ci (R_v (ci := 12) C kv_law_X12_whet (As := []) rfl kd_74 rfl (fxl fx_74) (Nat.le_of_ble_eq_true rfl) dL_law_467 (by have h9 := LS_k S (by omega) (c := 0) (n := 0) (Nat.le_of_ble_eq_true rfl) (Nat.le_of_ble_eq_true rfl); exact h9) (L4_X12_whet (Qk := fun r9 σ9 => INV (mV M) σ9 ∧ (Fr [74, 106, 107, 108] [1] σ1 σ9) ∧ ((gi σ9 74 1).toInt ≤ 9999) ∧ (F_X12_whet σ1 = (r9, σ9))) hI1 (fun _ _ h g0 g1 g2 => ⟨h, g0, g1, g2⟩))) ?_
  rintro r2 σ2 ⟨hI2, e2_0, e2_1, e2_2⟩
  refine P_pop C dL_law_470 rfl ?_
  refine P_goto C (tgt := 1381) dL_law_471 (by decide +kernel) ?_
  exact next M σ2 _ (LS_s S hI2 rfl rfl) (RS_whet hc hI e1_0 e1_1 e1_2 e2_0 e2_1 e2_2).1
set_option maxHeartbeats 4000000 in
theorem lwc_10 {M : Mx} {L : Nat} {xs : Nat → Int32} {j : Nat} {σ : Sg} {kn : Nat × Nat} {i : Int32} (S : LSt M L xs j σ kn) (hc : RELS σ) (hi : i.toInt = 6 * (j : Int)) (hL : 6 * j + 6 ≤ L) (h3 : L ≤ 3072) (next : ∀ M2 σ2 kn2, LSt M2 L xs (j + 1) σ2 kn2 → RELS σ2 → PS M2 1381 (lwv i) [] σ2 kn2) : PS M 474 (lwv i) [] σ kn := by
  obtain ⟨C, hS, hI, hU, hN0, hw, hk1, hk2, hN⟩ := id S
  refine P_aload_n C dL_law_474 1 rfl ?_
  refine P_cell C hS (n := 1) rfl dL_law_475 dL_law_476 dL_law_477 dL_law_478 dL_law_479 rfl rfl (lw_in hi hL h3 (by decide +kernel) (by decide +kernel)) ?_
  refine P_ci (R_v (ci := 11) C kv_law_X11_pause (As := [.int (xs (i + 1).toNatClampNeg)]) rfl kd_0 rfl (fxl fx_0) (Nat.le_of_ble_eq_true rfl) dL_law_480 (LS_k S (by omega) (Nat.le_of_ble_eq_true rfl) (Nat.le_of_ble_eq_true rfl)) (L4_X11_pause (Qk := fun r9 σ9 => INV (mV M) σ9 ∧ (FX (fun id => id = 6 ∨ id = 7) (fun id k => (id = 1 ∧ k = 9)) σ σ9) ∧ ((gi σ9 1 9).toInt ≤ 9999) ∧ (F_X11_pause (xs (i + 1).toNatClampNeg) σ = (r9, σ9))) hI (fun _ _ h g0 g1 g2 => ⟨h, g0, g1, g2⟩))) ?_
  rintro r1 σ1 ⟨hI1, e1_0, e1_1, e1_2⟩
  refine P_pop C dL_law_483 rfl ?_
  refine P_aload_n C dL_law_484 2 rfl ?_
  refine P_cell C hS (n := 1) rfl dL_law_485 dL_law_486 dL_law_487 dL_law_488 dL_law_489 rfl rfl (lw_in hi hL h3 (by decide +kernel) (by decide +kernel)) ?_
  refine P_ci (R_v (ci := 12) C kv_law_X12_pause (As := [.int (xs (i + 1).toNatClampNeg)]) rfl kd_74 rfl (fxl fx_74) (Nat.le_of_ble_eq_true rfl) dL_law_490 (by have h9 := LS_k S (by omega) (c := 0) (n := 0) (Nat.le_of_ble_eq_true rfl) (Nat.le_of_ble_eq_true rfl); exact h9) (L4_X12_pause (Qk := fun r9 σ9 => INV (mV M) σ9 ∧ (Fr [74, 107, 108] [1] σ1 σ9) ∧ ((gi σ9 74 1).toInt ≤ 9999) ∧ (F_X12_pause (xs (i + 1).toNatClampNeg) σ1 = (r9, σ9))) hI1 (fun _ _ h g0 g1 g2 => ⟨h, g0, g1, g2⟩))) ?_
  rintro r2 σ2 ⟨hI2, e2_0, e2_1, e2_2⟩
  refine P_pop C dL_law_493 rfl ?_
  refine P_goto C (tgt := 1381) dL_law_494 (by decide +kernel) ?_
  exact next M σ2 _ (LS_s S hI2 rfl rfl) (RS_pause hc hI e1_0 e1_1 e1_2 e2_0 e2_1 e2_2).1
set_option maxHeartbeats 4000000 in
theorem lwc_11 {M : Mx} {L : Nat} {xs : Nat → Int32} {j : Nat} {σ : Sg} {kn : Nat × Nat} {i : Int32} (S : LSt M L xs j σ kn) (hc : RELS σ) (hi : i.toInt = 6 * (j : Int)) (hL : 6 * j + 6 ≤ L) (h3 : L ≤ 3072) (next : ∀ M2 σ2 kn2, LSt M2 L xs (j + 1) σ2 kn2 → RELS σ2 → PS M2 1381 (lwv i) [] σ2 kn2) : PS M 497 (lwv i) [] σ kn := by
  obtain ⟨C, hS, hI, hU, hN0, hw, hk1, hk2, hN⟩ := id S
  refine P_aload_n C dL_law_497 1 rfl ?_
  refine P_cell C hS (n := 1) rfl dL_law_498 dL_law_499 dL_law_500 dL_law_501 dL_law_502 rfl rfl (lw_in hi hL h3 (by decide +kernel) (by decide +kernel)) ?_
  refine P_cell C hS (n := 2) rfl dL_law_503 dL_law_504 dL_law_505 dL_law_506 dL_law_507 rfl rfl (lw_in hi hL h3 (by decide +kernel) (by decide +kernel)) ?_
  refine P_ci (R_v (ci := 11) C kv_law_X11_on (As := [.int (xs (i + 1).toNatClampNeg), .int (xs (i + 2).toNatClampNeg)]) rfl kd_0 rfl (fxl fx_0) (Nat.le_of_ble_eq_true rfl) dL_law_508 (LS_k S (by omega) (Nat.le_of_ble_eq_true rfl) (Nat.le_of_ble_eq_true rfl)) (L4_X11_on (Qk := fun r9 σ9 => INV (mV M) σ9 ∧ (FX (fun id => id = 34 ∨ id = 35 ∨ id = 36 ∨ id = 37 ∨ id = 38 ∨ id = 39 ∨ id = 40 ∨ id = 47 ∨ id = 48) (fun id k => (id = 33 ∧ k = 1) ∨ (id = 33 ∧ k = 3) ∨ (id = 33 ∧ k = 9) ∨ (id = 33 ∧ k = 10) ∨ (id = 33 ∧ k = 11)) σ σ9) ∧ (F_X11_on (xs (i + 1).toNatClampNeg) (xs (i + 2).toNatClampNeg) σ = (r9, σ9))) hI (fun _ _ h g0 g1 => ⟨h, g0, g1⟩))) ?_
  rintro r1 σ1 ⟨hI1, e1_0, e1_1⟩
  refine P_pop C dL_law_511 rfl ?_
  refine P_aload_n C dL_law_512 2 rfl ?_
  refine P_cell C hS (n := 1) rfl dL_law_513 dL_law_514 dL_law_515 dL_law_516 dL_law_517 rfl rfl (lw_in hi hL h3 (by decide +kernel) (by decide +kernel)) ?_
  refine P_cell C hS (n := 2) rfl dL_law_518 dL_law_519 dL_law_520 dL_law_521 dL_law_522 rfl rfl (lw_in hi hL h3 (by decide +kernel) (by decide +kernel)) ?_
  refine P_ci (R_v (ci := 12) C kv_law_X12_on (As := [.int (xs (i + 1).toNatClampNeg), .int (xs (i + 2).toNatClampNeg)]) rfl kd_74 rfl (fxl fx_74) (Nat.le_of_ble_eq_true rfl) dL_law_523 (by have h9 := LS_k S (by omega) (c := 0) (n := 0) (Nat.le_of_ble_eq_true rfl) (Nat.le_of_ble_eq_true rfl); exact h9) (L4_X12_on (Qk := fun r9 σ9 => INV (mV M) σ9 ∧ (Fr [74, 105, 106, 107, 108, 129, 131, 132, 134, 135, 136, 137] [1, 30, 33] σ1 σ9) ∧ ((gi σ9 74 1).toInt = (gi σ1 74 1).toInt) ∧ (F_X12_on (xs (i + 1).toNatClampNeg) (xs (i + 2).toNatClampNeg) σ1 = (r9, σ9))) hI1 (fun _ _ h g0 g1 g2 => ⟨h, g0, g1, g2⟩))) ?_
  rintro r2 σ2 ⟨hI2, e2_0, e2_1, e2_2⟩
  refine P_pop C dL_law_526 rfl ?_
  refine P_goto C (tgt := 1381) dL_law_527 (by decide +kernel) ?_
  exact next M σ2 _ (LS_s S hI2 rfl rfl) (RS_on hc hI e1_0 e1_1 e2_0 e2_1 e2_2).1
set_option maxHeartbeats 4000000 in
theorem lwc_12 {M : Mx} {L : Nat} {xs : Nat → Int32} {j : Nat} {σ : Sg} {kn : Nat × Nat} {i : Int32} (S : LSt M L xs j σ kn) (hc : RELS σ) (hi : i.toInt = 6 * (j : Int)) (hL : 6 * j + 6 ≤ L) (h3 : L ≤ 3072) (next : ∀ M2 σ2 kn2, LSt M2 L xs (j + 1) σ2 kn2 → RELS σ2 → PS M2 1381 (lwv i) [] σ2 kn2) : PS M 530 (lwv i) [] σ kn := by
  obtain ⟨C, hS, hI, hU, hN0, hw, hk1, hk2, hN⟩ := id S
  refine P_aload_n C dL_law_530 1 rfl ?_
  refine P_ci (R_v (ci := 11) C kv_law_X11_done (As := []) rfl kd_0 rfl (fxl fx_0) (Nat.le_of_ble_eq_true rfl) dL_law_531 (LS_k S (by omega) (Nat.le_of_ble_eq_true rfl) (Nat.le_of_ble_eq_true rfl)) (L4_X11_done (Qk := fun r9 σ9 => INV (mV M) σ9 ∧ (FX (fun id => id = 34 ∨ id = 35 ∨ id = 36 ∨ id = 37 ∨ id = 38 ∨ id = 39 ∨ id = 40 ∨ id = 47 ∨ id = 48) (fun id k => (id = 33 ∧ k = 1) ∨ (id = 33 ∧ k = 3) ∨ (id = 33 ∧ k = 9) ∨ (id = 33 ∧ k = 10) ∨ (id = 33 ∧ k = 11)) σ σ9) ∧ (F_X11_done σ = (r9, σ9))) hI (fun _ _ h g0 g1 => ⟨h, g0, g1⟩))) ?_
  rintro r1 σ1 ⟨hI1, e1_0, e1_1⟩
  refine P_pop C dL_law_534 rfl ?_
  refine P_aload_n C dL_law_535 2 rfl ?_
  refine P_ci (R_v (ci := 12) C kv_law_X12_done (As := []) rfl kd_74 rfl (fxl fx_74) (Nat.le_of_ble_eq_true rfl) dL_law_536 (by have h9 := LS_k S (by omega) (c := 0) (n := 0) (Nat.le_of_ble_eq_true rfl) (Nat.le_of_ble_eq_true rfl); exact h9) (L4_X12_done (Qk := fun r9 σ9 => INV (mV M) σ9 ∧ (Fr [74, 105, 106, 107, 108, 129, 131, 132, 134, 135, 136, 137] [1, 30, 33] σ1 σ9) ∧ ((gi σ9 74 1).toInt = (gi σ1 74 1).toInt) ∧ (F_X12_done σ1 = (r9, σ9))) hI1 (fun _ _ h g0 g1 g2 => ⟨h, g0, g1, g2⟩))) ?_
  rintro r2 σ2 ⟨hI2, e2_0, e2_1, e2_2⟩
  refine P_pop C dL_law_539 rfl ?_
  refine P_goto C (tgt := 1381) dL_law_540 (by decide +kernel) ?_
  exact next M σ2 _ (LS_s S hI2 rfl rfl) (RS_done hc hI e1_0 e1_1 e2_0 e2_1 e2_2).1
set_option maxHeartbeats 4000000 in
theorem lwc_13 {M : Mx} {L : Nat} {xs : Nat → Int32} {j : Nat} {σ : Sg} {kn : Nat × Nat} {i : Int32} (S : LSt M L xs j σ kn) (hc : RELS σ) (hi : i.toInt = 6 * (j : Int)) (hL : 6 * j + 6 ≤ L) (h3 : L ≤ 3072) (next : ∀ M2 σ2 kn2, LSt M2 L xs (j + 1) σ2 kn2 → RELS σ2 → PS M2 1381 (lwv i) [] σ2 kn2) : PS M 543 (lwv i) [] σ kn := by
  obtain ⟨C, hS, hI, hU, hN0, hw, hk1, hk2, hN⟩ := id S
  refine P_aload_n C dL_law_543 1 rfl ?_
  refine P_cell C hS (n := 1) rfl dL_law_544 dL_law_545 dL_law_546 dL_law_547 dL_law_548 rfl rfl (lw_in hi hL h3 (by decide +kernel) (by decide +kernel)) ?_
  refine P_cell C hS (n := 2) rfl dL_law_549 dL_law_550 dL_law_551 dL_law_552 dL_law_553 rfl rfl (lw_in hi hL h3 (by decide +kernel) (by decide +kernel)) ?_
  refine P_ci (R_v (ci := 11) C kv_law_X11_order (As := [.int (xs (i + 1).toNatClampNeg), .int (xs (i + 2).toNatClampNeg)]) rfl kd_0 rfl (fxl fx_0) (Nat.le_of_ble_eq_true rfl) dL_law_554 (LS_k S (by omega) (Nat.le_of_ble_eq_true rfl) (Nat.le_of_ble_eq_true rfl)) (L7_X11_order (Qk := fun r9 σ9 => INV (mV M) σ9 ∧ (FX (fun id => id = 34 ∨ id = 35 ∨ id = 36 ∨ id = 37 ∨ id = 38 ∨ id = 39 ∨ id = 40 ∨ id = 47 ∨ id = 48 ∨ id = 66 ∨ id = 67) (fun id k => (id = 33 ∧ k = 1) ∨ (id = 33 ∧ k = 3) ∨ (id = 33 ∧ k = 9) ∨ (id = 33 ∧ k = 10) ∨ (id = 33 ∧ k = 11)) σ σ9) ∧ (F_X11_order (xs (i + 1).toNatClampNeg) (xs (i + 2).toNatClampNeg) σ = (r9, σ9))) hI (fun _ _ h g0 g1 => ⟨h, g0, g1⟩))) ?_
  rintro r1 σ1 ⟨hI1, e1_0, e1_1⟩
  refine P_pop C dL_law_557 rfl ?_
  refine P_aload_n C dL_law_558 2 rfl ?_
  refine P_cell C hS (n := 1) rfl dL_law_559 dL_law_560 dL_law_561 dL_law_562 dL_law_563 rfl rfl (lw_in hi hL h3 (by decide +kernel) (by decide +kernel)) ?_
  refine P_cell C hS (n := 2) rfl dL_law_564 dL_law_565 dL_law_566 dL_law_567 dL_law_568 rfl rfl (lw_in hi hL h3 (by decide +kernel) (by decide +kernel)) ?_
  refine P_ci (R_v (ci := 12) C kv_law_X12_order (As := [.int (xs (i + 1).toNatClampNeg), .int (xs (i + 2).toNatClampNeg)]) rfl kd_74 rfl (fxl fx_74) (Nat.le_of_ble_eq_true rfl) dL_law_569 (by have h9 := LS_k S (by omega) (c := 0) (n := 0) (Nat.le_of_ble_eq_true rfl) (Nat.le_of_ble_eq_true rfl); exact h9) (L7_X12_order (Qk := fun r9 σ9 => INV (mV M) σ9 ∧ (Fr [74, 105, 106, 107, 108, 110, 129, 131, 132, 134, 135, 136, 137, 138, 139] [1, 30, 33] σ1 σ9) ∧ ((gi σ9 74 1).toInt = (gi σ1 74 1).toInt) ∧ (CD σ1 σ9 110 110 6) ∧ (F_X12_order (xs (i + 1).toNatClampNeg) (xs (i + 2).toNatClampNeg) σ1 = (r9, σ9))) hI1 (fun _ _ h g0 g1 g2 g3 => ⟨h, g0, g1, g2, g3⟩))) ?_
  rintro r2 σ2 ⟨hI2, e2_0, e2_1, e2_2, e2_3⟩
  refine P_pop C dL_law_572 rfl ?_
  refine P_goto C (tgt := 1381) dL_law_573 (by decide +kernel) ?_
  exact next M σ2 _ (LS_s S hI2 rfl rfl) (RS_order hc hI e1_0 e1_1 e2_0 e2_1 e2_2 e2_3).1
set_option maxHeartbeats 4000000 in
theorem lwc_14 {M : Mx} {L : Nat} {xs : Nat → Int32} {j : Nat} {σ : Sg} {kn : Nat × Nat} {i : Int32} (S : LSt M L xs j σ kn) (hc : RELS σ) (hi : i.toInt = 6 * (j : Int)) (hL : 6 * j + 6 ≤ L) (h3 : L ≤ 3072) (next : ∀ M2 σ2 kn2, LSt M2 L xs (j + 1) σ2 kn2 → RELS σ2 → PS M2 1381 (lwv i) [] σ2 kn2) : PS M 576 (lwv i) [] σ kn := by
  obtain ⟨C, hS, hI, hU, hN0, hw, hk1, hk2, hN⟩ := id S
  refine P_aload_n C dL_law_576 1 rfl ?_
  refine P_cell C hS (n := 1) rfl dL_law_577 dL_law_578 dL_law_579 dL_law_580 dL_law_581 rfl rfl (lw_in hi hL h3 (by decide +kernel) (by decide +kernel)) ?_
  refine P_cell C hS (n := 2) rfl dL_law_582 dL_law_583 dL_law_584 dL_law_585 dL_law_586 rfl rfl (lw_in hi hL h3 (by decide +kernel) (by decide +kernel)) ?_
  refine P_ci (R_v (ci := 11) C kv_law_X11_whets (As := [.int (xs (i + 1).toNatClampNeg), .int (xs (i + 2).toNatClampNeg)]) rfl kd_0 rfl (fxl fx_0) (Nat.le_of_ble_eq_true rfl) dL_law_587 (LS_k S (by omega) (Nat.le_of_ble_eq_true rfl) (Nat.le_of_ble_eq_true rfl)) (L4_X11_whets (Qk := fun r9 σ9 => INV (mV M) σ9 ∧ (FX (fun id => id = 34 ∨ id = 35 ∨ id = 36 ∨ id = 37 ∨ id = 38 ∨ id = 39 ∨ id = 40 ∨ id = 47 ∨ id = 48) (fun id k => (id = 33 ∧ k = 1) ∨ (id = 33 ∧ k = 3) ∨ (id = 33 ∧ k = 9) ∨ (id = 33 ∧ k = 10) ∨ (id = 33 ∧ k = 11)) σ σ9) ∧ (F_X11_whets (xs (i + 1).toNatClampNeg) (xs (i + 2).toNatClampNeg) σ = (r9, σ9))) hI (fun _ _ h g0 g1 => ⟨h, g0, g1⟩))) ?_
  rintro r1 σ1 ⟨hI1, e1_0, e1_1⟩
  refine P_pop C dL_law_590 rfl ?_
  refine P_aload_n C dL_law_591 2 rfl ?_
  refine P_cell C hS (n := 1) rfl dL_law_592 dL_law_593 dL_law_594 dL_law_595 dL_law_596 rfl rfl (lw_in hi hL h3 (by decide +kernel) (by decide +kernel)) ?_
  refine P_cell C hS (n := 2) rfl dL_law_597 dL_law_598 dL_law_599 dL_law_600 dL_law_601 rfl rfl (lw_in hi hL h3 (by decide +kernel) (by decide +kernel)) ?_
  refine P_ci (R_v (ci := 12) C kv_law_X12_whets (As := [.int (xs (i + 1).toNatClampNeg), .int (xs (i + 2).toNatClampNeg)]) rfl kd_74 rfl (fxl fx_74) (Nat.le_of_ble_eq_true rfl) dL_law_602 (by have h9 := LS_k S (by omega) (c := 0) (n := 0) (Nat.le_of_ble_eq_true rfl) (Nat.le_of_ble_eq_true rfl); exact h9) (L4_X12_whets (Qk := fun r9 σ9 => INV (mV M) σ9 ∧ (Fr [74, 105, 106, 107, 108, 129, 131, 132, 134, 135, 136, 137] [1, 30, 33] σ1 σ9) ∧ ((gi σ9 74 1).toInt = (gi σ1 74 1).toInt) ∧ (F_X12_whets (xs (i + 1).toNatClampNeg) (xs (i + 2).toNatClampNeg) σ1 = (r9, σ9))) hI1 (fun _ _ h g0 g1 g2 => ⟨h, g0, g1, g2⟩))) ?_
  rintro r2 σ2 ⟨hI2, e2_0, e2_1, e2_2⟩
  refine P_pop C dL_law_605 rfl ?_
  refine P_goto C (tgt := 1381) dL_law_606 (by decide +kernel) ?_
  exact next M σ2 _ (LS_s S hI2 rfl rfl) (RS_whets hc hI e1_0 e1_1 e2_0 e2_1 e2_2).1
set_option maxHeartbeats 4000000 in
theorem lwc_15 {M : Mx} {L : Nat} {xs : Nat → Int32} {j : Nat} {σ : Sg} {kn : Nat × Nat} {i : Int32} (S : LSt M L xs j σ kn) (hc : RELS σ) (hi : i.toInt = 6 * (j : Int)) (hL : 6 * j + 6 ≤ L) (h3 : L ≤ 3072) (next : ∀ M2 σ2 kn2, LSt M2 L xs (j + 1) σ2 kn2 → RELS σ2 → PS M2 1381 (lwv i) [] σ2 kn2) : PS M 609 (lwv i) [] σ kn := by
  obtain ⟨C, hS, hI, hU, hN0, hw, hk1, hk2, hN⟩ := id S
  refine P_aload_n C dL_law_609 1 rfl ?_
  refine P_cell C hS (n := 1) rfl dL_law_610 dL_law_611 dL_law_612 dL_law_613 dL_law_614 rfl rfl (lw_in hi hL h3 (by decide +kernel) (by decide +kernel)) ?_
  refine P_cell C hS (n := 2) rfl dL_law_615 dL_law_616 dL_law_617 dL_law_618 dL_law_619 rfl rfl (lw_in hi hL h3 (by decide +kernel) (by decide +kernel)) ?_
  refine P_ci (R_v (ci := 11) C kv_law_X11_apart (As := [.int (xs (i + 1).toNatClampNeg), .int (xs (i + 2).toNatClampNeg)]) rfl kd_0 rfl (fxl fx_0) (Nat.le_of_ble_eq_true rfl) dL_law_620 (LS_k S (by omega) (Nat.le_of_ble_eq_true rfl) (Nat.le_of_ble_eq_true rfl)) (L4_X11_apart (Qk := fun r9 σ9 => INV (mV M) σ9 ∧ (FX (fun id => id = 34 ∨ id = 35 ∨ id = 36 ∨ id = 37 ∨ id = 38 ∨ id = 39 ∨ id = 40 ∨ id = 47 ∨ id = 48) (fun id k => (id = 33 ∧ k = 1) ∨ (id = 33 ∧ k = 3) ∨ (id = 33 ∧ k = 9) ∨ (id = 33 ∧ k = 10) ∨ (id = 33 ∧ k = 11)) σ σ9) ∧ (F_X11_apart (xs (i + 1).toNatClampNeg) (xs (i + 2).toNatClampNeg) σ = (r9, σ9))) hI (fun _ _ h g0 g1 => ⟨h, g0, g1⟩))) ?_
  rintro r1 σ1 ⟨hI1, e1_0, e1_1⟩
  refine P_pop C dL_law_623 rfl ?_
  refine P_aload_n C dL_law_624 2 rfl ?_
  refine P_cell C hS (n := 1) rfl dL_law_625 dL_law_626 dL_law_627 dL_law_628 dL_law_629 rfl rfl (lw_in hi hL h3 (by decide +kernel) (by decide +kernel)) ?_
  refine P_cell C hS (n := 2) rfl dL_law_630 dL_law_631 dL_law_632 dL_law_633 dL_law_634 rfl rfl (lw_in hi hL h3 (by decide +kernel) (by decide +kernel)) ?_
  refine P_ci (R_v (ci := 12) C kv_law_X12_apart (As := [.int (xs (i + 1).toNatClampNeg), .int (xs (i + 2).toNatClampNeg)]) rfl kd_74 rfl (fxl fx_74) (Nat.le_of_ble_eq_true rfl) dL_law_635 (by have h9 := LS_k S (by omega) (c := 0) (n := 0) (Nat.le_of_ble_eq_true rfl) (Nat.le_of_ble_eq_true rfl); exact h9) (L4_X12_apart (Qk := fun r9 σ9 => INV (mV M) σ9 ∧ (Fr [74, 105, 106, 107, 108, 129, 131, 132, 134, 135, 136, 137] [1, 28, 30, 33] σ1 σ9) ∧ ((gi σ9 74 1).toInt = (gi σ1 74 1).toInt) ∧ (F_X12_apart (xs (i + 1).toNatClampNeg) (xs (i + 2).toNatClampNeg) σ1 = (r9, σ9))) hI1 (fun _ _ h g0 g1 g2 => ⟨h, g0, g1, g2⟩))) ?_
  rintro r2 σ2 ⟨hI2, e2_0, e2_1, e2_2⟩
  refine P_pop C dL_law_638 rfl ?_
  refine P_goto C (tgt := 1381) dL_law_639 (by decide +kernel) ?_
  exact next M σ2 _ (LS_s S hI2 rfl rfl) (RS_apart hc hI e1_0 e1_1 e2_0 e2_1 e2_2).1
set_option maxHeartbeats 4000000 in
theorem lwc_16 {M : Mx} {L : Nat} {xs : Nat → Int32} {j : Nat} {σ : Sg} {kn : Nat × Nat} {i : Int32} (S : LSt M L xs j σ kn) (hc : RELS σ) (hi : i.toInt = 6 * (j : Int)) (hL : 6 * j + 6 ≤ L) (h3 : L ≤ 3072) (next : ∀ M2 σ2 kn2, LSt M2 L xs (j + 1) σ2 kn2 → RELS σ2 → PS M2 1381 (lwv i) [] σ2 kn2) : PS M 642 (lwv i) [] σ kn := by
  obtain ⟨C, hS, hI, hU, hN0, hw, hk1, hk2, hN⟩ := id S
  refine P_aload_n C dL_law_642 1 rfl ?_
  refine P_cell C hS (n := 1) rfl dL_law_643 dL_law_644 dL_law_645 dL_law_646 dL_law_647 rfl rfl (lw_in hi hL h3 (by decide +kernel) (by decide +kernel)) ?_
  refine P_cell C hS (n := 2) rfl dL_law_648 dL_law_649 dL_law_650 dL_law_651 dL_law_652 rfl rfl (lw_in hi hL h3 (by decide +kernel) (by decide +kernel)) ?_
  refine P_cell C hS (n := 3) rfl dL_law_653 dL_law_654 dL_law_655 dL_law_656 dL_law_657 rfl rfl (lw_in hi hL h3 (by decide +kernel) (by decide +kernel)) ?_
  refine P_cell C hS (n := 4) rfl dL_law_658 dL_law_659 dL_law_660 dL_law_661 dL_law_662 rfl rfl (lw_in hi hL h3 (by decide +kernel) (by decide +kernel)) ?_
  refine P_ci (R_v (ci := 11) C kv_law_X11_stop (As := [.int (xs (i + 1).toNatClampNeg), .int (xs (i + 2).toNatClampNeg), .int (xs (i + 3).toNatClampNeg), .int (xs (i + 4).toNatClampNeg)]) rfl kd_0 rfl (fxl fx_0) (Nat.le_of_ble_eq_true rfl) dL_law_663 (LS_k S (by omega) (Nat.le_of_ble_eq_true rfl) (Nat.le_of_ble_eq_true rfl)) (L4_X11_stop (Qk := fun r9 σ9 => INV (mV M) σ9 ∧ (FX (fun id => id = 34 ∨ id = 35 ∨ id = 36 ∨ id = 37 ∨ id = 38 ∨ id = 39 ∨ id = 40 ∨ id = 47 ∨ id = 48 ∨ id = 68) (fun id k => (id = 33 ∧ k = 1) ∨ (id = 33 ∧ k = 3) ∨ (id = 33 ∧ k = 9) ∨ (id = 33 ∧ k = 10) ∨ (id = 33 ∧ k = 11)) σ σ9) ∧ (F_X11_stop (xs (i + 1).toNatClampNeg) (xs (i + 2).toNatClampNeg) (xs (i + 3).toNatClampNeg) (xs (i + 4).toNatClampNeg) σ = (r9, σ9))) hI (fun _ _ h g0 g1 => ⟨h, g0, g1⟩))) ?_
  rintro r1 σ1 ⟨hI1, e1_0, e1_1⟩
  refine P_pop C dL_law_666 rfl ?_
  refine P_aload_n C dL_law_667 2 rfl ?_
  refine P_cell C hS (n := 1) rfl dL_law_668 dL_law_669 dL_law_670 dL_law_671 dL_law_672 rfl rfl (lw_in hi hL h3 (by decide +kernel) (by decide +kernel)) ?_
  refine P_cell C hS (n := 2) rfl dL_law_673 dL_law_674 dL_law_675 dL_law_676 dL_law_677 rfl rfl (lw_in hi hL h3 (by decide +kernel) (by decide +kernel)) ?_
  refine P_cell C hS (n := 3) rfl dL_law_678 dL_law_679 dL_law_680 dL_law_681 dL_law_682 rfl rfl (lw_in hi hL h3 (by decide +kernel) (by decide +kernel)) ?_
  refine P_cell C hS (n := 4) rfl dL_law_683 dL_law_684 dL_law_685 dL_law_686 dL_law_687 rfl rfl (lw_in hi hL h3 (by decide +kernel) (by decide +kernel)) ?_
  refine P_ci (R_v (ci := 12) C kv_law_X12_stop (As := [.int (xs (i + 1).toNatClampNeg), .int (xs (i + 2).toNatClampNeg), .int (xs (i + 3).toNatClampNeg), .int (xs (i + 4).toNatClampNeg)]) rfl kd_74 rfl (fxl fx_74) (Nat.le_of_ble_eq_true rfl) dL_law_688 (by have h9 := LS_k S (by omega) (c := 0) (n := 0) (Nat.le_of_ble_eq_true rfl) (Nat.le_of_ble_eq_true rfl); exact h9) (L4_X12_stop (Qk := fun r9 σ9 => INV (mV M) σ9 ∧ (Fr [74, 105, 106, 107, 108, 129, 131, 132, 134, 135, 136, 137, 140] [1, 30, 33] σ1 σ9) ∧ ((gi σ9 74 1).toInt = (gi σ1 74 1).toInt) ∧ (F_X12_stop (xs (i + 1).toNatClampNeg) (xs (i + 2).toNatClampNeg) (xs (i + 3).toNatClampNeg) (xs (i + 4).toNatClampNeg) σ1 = (r9, σ9))) hI1 (fun _ _ h g0 g1 g2 => ⟨h, g0, g1, g2⟩))) ?_
  rintro r2 σ2 ⟨hI2, e2_0, e2_1, e2_2⟩
  refine P_pop C dL_law_691 rfl ?_
  refine P_goto C (tgt := 1381) dL_law_692 (by decide +kernel) ?_
  exact next M σ2 _ (LS_s S hI2 rfl rfl) (RS_stop hc hI e1_0 e1_1 e2_0 e2_1 e2_2).1
set_option maxHeartbeats 4000000 in
theorem lwc_17 {M : Mx} {L : Nat} {xs : Nat → Int32} {j : Nat} {σ : Sg} {kn : Nat × Nat} {i : Int32} (S : LSt M L xs j σ kn) (hc : RELS σ) (hi : i.toInt = 6 * (j : Int)) (hL : 6 * j + 6 ≤ L) (h3 : L ≤ 3072) (next : ∀ M2 σ2 kn2, LSt M2 L xs (j + 1) σ2 kn2 → RELS σ2 → PS M2 1381 (lwv i) [] σ2 kn2) : PS M 695 (lwv i) [] σ kn := by
  obtain ⟨C, hS, hI, hU, hN0, hw, hk1, hk2, hN⟩ := id S
  refine P_aload_n C dL_law_695 1 rfl ?_
  refine P_cell C hS (n := 1) rfl dL_law_696 dL_law_697 dL_law_698 dL_law_699 dL_law_700 rfl rfl (lw_in hi hL h3 (by decide +kernel) (by decide +kernel)) ?_
  refine P_ci (R_v (ci := 11) C kv_law_X11_alone (As := [.int (xs (i + 1).toNatClampNeg)]) rfl kd_0 rfl (fxl fx_0) (Nat.le_of_ble_eq_true rfl) dL_law_701 (LS_k S (by omega) (Nat.le_of_ble_eq_true rfl) (Nat.le_of_ble_eq_true rfl)) (L4_X11_alone (Qk := fun r9 σ9 => INV (mV M) σ9 ∧ (FX (fun id => id = 34 ∨ id = 35 ∨ id = 36 ∨ id = 37 ∨ id = 38 ∨ id = 39 ∨ id = 40 ∨ id = 47 ∨ id = 48) (fun id k => (id = 33 ∧ k = 1) ∨ (id = 33 ∧ k = 3) ∨ (id = 33 ∧ k = 9) ∨ (id = 33 ∧ k = 10) ∨ (id = 33 ∧ k = 11)) σ σ9) ∧ (F_X11_alone (xs (i + 1).toNatClampNeg) σ = (r9, σ9))) hI (fun _ _ h g0 g1 => ⟨h, g0, g1⟩))) ?_
  rintro r1 σ1 ⟨hI1, e1_0, e1_1⟩
  refine P_pop C dL_law_704 rfl ?_
  refine P_aload_n C dL_law_705 2 rfl ?_
  refine P_cell C hS (n := 1) rfl dL_law_706 dL_law_707 dL_law_708 dL_law_709 dL_law_710 rfl rfl (lw_in hi hL h3 (by decide +kernel) (by decide +kernel)) ?_
  refine P_ci (R_v (ci := 12) C kv_law_X12_alone (As := [.int (xs (i + 1).toNatClampNeg)]) rfl kd_74 rfl (fxl fx_74) (Nat.le_of_ble_eq_true rfl) dL_law_711 (by have h9 := LS_k S (by omega) (c := 0) (n := 0) (Nat.le_of_ble_eq_true rfl) (Nat.le_of_ble_eq_true rfl); exact h9) (L4_X12_alone (Qk := fun r9 σ9 => INV (mV M) σ9 ∧ (Fr [74, 105, 106, 107, 108, 110, 129, 131, 132, 134, 135, 136, 137, 138] [1, 2, 30, 33] σ1 σ9) ∧ ((gi σ9 74 1).toInt = (gi σ1 74 1).toInt) ∧ (CD σ1 σ9 110 110 6) ∧ (F_X12_alone (xs (i + 1).toNatClampNeg) σ1 = (r9, σ9))) hI1 (fun _ _ h g0 g1 g2 g3 => ⟨h, g0, g1, g2, g3⟩))) ?_
  rintro r2 σ2 ⟨hI2, e2_0, e2_1, e2_2, e2_3⟩
  refine P_pop C dL_law_714 rfl ?_
  refine P_goto C (tgt := 1381) dL_law_715 (by decide +kernel) ?_
  exact next M σ2 _ (LS_s S hI2 rfl rfl) (RS_alone hc hI e1_0 e1_1 e2_0 e2_1 e2_2 e2_3).1
set_option maxHeartbeats 4000000 in
theorem lwc_18 {M : Mx} {L : Nat} {xs : Nat → Int32} {j : Nat} {σ : Sg} {kn : Nat × Nat} {i : Int32} (S : LSt M L xs j σ kn) (hc : RELS σ) (hi : i.toInt = 6 * (j : Int)) (hL : 6 * j + 6 ≤ L) (h3 : L ≤ 3072) (next : ∀ M2 σ2 kn2, LSt M2 L xs (j + 1) σ2 kn2 → RELS σ2 → PS M2 1381 (lwv i) [] σ2 kn2) : PS M 718 (lwv i) [] σ kn := by
  obtain ⟨C, hS, hI, hU, hN0, hw, hk1, hk2, hN⟩ := id S
  refine P_aload_n C dL_law_718 1 rfl ?_
  refine P_cell C hS (n := 1) rfl dL_law_719 dL_law_720 dL_law_721 dL_law_722 dL_law_723 rfl rfl (lw_in hi hL h3 (by decide +kernel) (by decide +kernel)) ?_
  refine P_cell C hS (n := 2) rfl dL_law_724 dL_law_725 dL_law_726 dL_law_727 dL_law_728 rfl rfl (lw_in hi hL h3 (by decide +kernel) (by decide +kernel)) ?_
  refine P_ci (R_v (ci := 11) C kv_law_X11_rest (As := [.int (xs (i + 1).toNatClampNeg), .int (xs (i + 2).toNatClampNeg)]) rfl kd_0 rfl (fxl fx_0) (Nat.le_of_ble_eq_true rfl) dL_law_729 (LS_k S (by omega) (Nat.le_of_ble_eq_true rfl) (Nat.le_of_ble_eq_true rfl)) (L4_X11_rest (Qk := fun r9 σ9 => INV (mV M) σ9 ∧ (FX (fun id => id = 34 ∨ id = 35 ∨ id = 36 ∨ id = 37 ∨ id = 38 ∨ id = 39 ∨ id = 40 ∨ id = 47 ∨ id = 48) (fun id k => (id = 33 ∧ k = 1) ∨ (id = 33 ∧ k = 3) ∨ (id = 33 ∧ k = 9) ∨ (id = 33 ∧ k = 10) ∨ (id = 33 ∧ k = 11)) σ σ9) ∧ (F_X11_rest (xs (i + 1).toNatClampNeg) (xs (i + 2).toNatClampNeg) σ = (r9, σ9))) hI (fun _ _ h g0 g1 => ⟨h, g0, g1⟩))) ?_
  rintro r1 σ1 ⟨hI1, e1_0, e1_1⟩
  refine P_pop C dL_law_732 rfl ?_
  refine P_aload_n C dL_law_733 2 rfl ?_
  refine P_cell C hS (n := 1) rfl dL_law_734 dL_law_735 dL_law_736 dL_law_737 dL_law_738 rfl rfl (lw_in hi hL h3 (by decide +kernel) (by decide +kernel)) ?_
  refine P_cell C hS (n := 2) rfl dL_law_739 dL_law_740 dL_law_741 dL_law_742 dL_law_743 rfl rfl (lw_in hi hL h3 (by decide +kernel) (by decide +kernel)) ?_
  refine P_ci (R_v (ci := 12) C kv_law_X12_rest (As := [.int (xs (i + 1).toNatClampNeg), .int (xs (i + 2).toNatClampNeg)]) rfl kd_74 rfl (fxl fx_74) (Nat.le_of_ble_eq_true rfl) dL_law_744 (by have h9 := LS_k S (by omega) (c := 0) (n := 0) (Nat.le_of_ble_eq_true rfl) (Nat.le_of_ble_eq_true rfl); exact h9) (L4_X12_rest (Qk := fun r9 σ9 => INV (mV M) σ9 ∧ (Fr [74, 105, 106, 107, 108, 129, 131, 132, 134, 135, 136, 137] [1, 30, 33] σ1 σ9) ∧ ((gi σ9 74 1).toInt = (gi σ1 74 1).toInt) ∧ (F_X12_rest (xs (i + 1).toNatClampNeg) (xs (i + 2).toNatClampNeg) σ1 = (r9, σ9))) hI1 (fun _ _ h g0 g1 g2 => ⟨h, g0, g1, g2⟩))) ?_
  rintro r2 σ2 ⟨hI2, e2_0, e2_1, e2_2⟩
  refine P_pop C dL_law_747 rfl ?_
  refine P_goto C (tgt := 1381) dL_law_748 (by decide +kernel) ?_
  exact next M σ2 _ (LS_s S hI2 rfl rfl) (RS_rest hc hI e1_0 e1_1 e2_0 e2_1 e2_2).1
set_option maxHeartbeats 4000000 in
theorem lwc_19 {M : Mx} {L : Nat} {xs : Nat → Int32} {j : Nat} {σ : Sg} {kn : Nat × Nat} {i : Int32} (S : LSt M L xs j σ kn) (hc : RELS σ) (hi : i.toInt = 6 * (j : Int)) (hL : 6 * j + 6 ≤ L) (h3 : L ≤ 3072) (next : ∀ M2 σ2 kn2, LSt M2 L xs (j + 1) σ2 kn2 → RELS σ2 → PS M2 1381 (lwv i) [] σ2 kn2) : PS M 751 (lwv i) [] σ kn := by
  obtain ⟨C, hS, hI, hU, hN0, hw, hk1, hk2, hN⟩ := id S
  refine P_aload_n C dL_law_751 1 rfl ?_
  refine P_cell C hS (n := 1) rfl dL_law_752 dL_law_753 dL_law_754 dL_law_755 dL_law_756 rfl rfl (lw_in hi hL h3 (by decide +kernel) (by decide +kernel)) ?_
  refine P_cell C hS (n := 2) rfl dL_law_757 dL_law_758 dL_law_759 dL_law_760 dL_law_761 rfl rfl (lw_in hi hL h3 (by decide +kernel) (by decide +kernel)) ?_
  refine P_ci (R_v (ci := 11) C kv_law_X11_paused (As := [.int (xs (i + 1).toNatClampNeg), .int (xs (i + 2).toNatClampNeg)]) rfl kd_0 rfl (fxl fx_0) (Nat.le_of_ble_eq_true rfl) dL_law_762 (LS_k S (by omega) (Nat.le_of_ble_eq_true rfl) (Nat.le_of_ble_eq_true rfl)) (L4_X11_paused (Qk := fun r9 σ9 => INV (mV M) σ9 ∧ (FX (fun id => id = 34 ∨ id = 35 ∨ id = 36 ∨ id = 37 ∨ id = 38 ∨ id = 39 ∨ id = 40 ∨ id = 47 ∨ id = 48) (fun id k => (id = 33 ∧ k = 1) ∨ (id = 33 ∧ k = 3) ∨ (id = 33 ∧ k = 9) ∨ (id = 33 ∧ k = 10) ∨ (id = 33 ∧ k = 11)) σ σ9) ∧ (F_X11_paused (xs (i + 1).toNatClampNeg) (xs (i + 2).toNatClampNeg) σ = (r9, σ9))) hI (fun _ _ h g0 g1 => ⟨h, g0, g1⟩))) ?_
  rintro r1 σ1 ⟨hI1, e1_0, e1_1⟩
  refine P_pop C dL_law_765 rfl ?_
  refine P_aload_n C dL_law_766 2 rfl ?_
  refine P_cell C hS (n := 1) rfl dL_law_767 dL_law_768 dL_law_769 dL_law_770 dL_law_771 rfl rfl (lw_in hi hL h3 (by decide +kernel) (by decide +kernel)) ?_
  refine P_cell C hS (n := 2) rfl dL_law_772 dL_law_773 dL_law_774 dL_law_775 dL_law_776 rfl rfl (lw_in hi hL h3 (by decide +kernel) (by decide +kernel)) ?_
  refine P_ci (R_v (ci := 12) C kv_law_X12_paused (As := [.int (xs (i + 1).toNatClampNeg), .int (xs (i + 2).toNatClampNeg)]) rfl kd_74 rfl (fxl fx_74) (Nat.le_of_ble_eq_true rfl) dL_law_777 (by have h9 := LS_k S (by omega) (c := 0) (n := 0) (Nat.le_of_ble_eq_true rfl) (Nat.le_of_ble_eq_true rfl); exact h9) (L4_X12_paused (Qk := fun r9 σ9 => INV (mV M) σ9 ∧ (Fr [74, 105, 106, 107, 108, 129, 131, 132, 134, 135, 136, 137] [1, 30, 33] σ1 σ9) ∧ ((gi σ9 74 1).toInt = (gi σ1 74 1).toInt) ∧ (F_X12_paused (xs (i + 1).toNatClampNeg) (xs (i + 2).toNatClampNeg) σ1 = (r9, σ9))) hI1 (fun _ _ h g0 g1 g2 => ⟨h, g0, g1, g2⟩))) ?_
  rintro r2 σ2 ⟨hI2, e2_0, e2_1, e2_2⟩
  refine P_pop C dL_law_780 rfl ?_
  refine P_goto C (tgt := 1381) dL_law_781 (by decide +kernel) ?_
  exact next M σ2 _ (LS_s S hI2 rfl rfl) (RS_paused hc hI e1_0 e1_1 e2_0 e2_1 e2_2).1
set_option maxHeartbeats 4000000 in
theorem lwc_20 {M : Mx} {L : Nat} {xs : Nat → Int32} {j : Nat} {σ : Sg} {kn : Nat × Nat} {i : Int32} (S : LSt M L xs j σ kn) (hc : RELS σ) (hi : i.toInt = 6 * (j : Int)) (hL : 6 * j + 6 ≤ L) (h3 : L ≤ 3072) (next : ∀ M2 σ2 kn2, LSt M2 L xs (j + 1) σ2 kn2 → RELS σ2 → PS M2 1381 (lwv i) [] σ2 kn2) : PS M 784 (lwv i) [] σ kn := by
  obtain ⟨C, hS, hI, hU, hN0, hw, hk1, hk2, hN⟩ := id S
  refine P_aload_n C dL_law_784 1 rfl ?_
  refine P_cell C hS (n := 1) rfl dL_law_785 dL_law_786 dL_law_787 dL_law_788 dL_law_789 rfl rfl (lw_in hi hL h3 (by decide +kernel) (by decide +kernel)) ?_
  refine P_cell C hS (n := 2) rfl dL_law_790 dL_law_791 dL_law_792 dL_law_793 dL_law_794 rfl rfl (lw_in hi hL h3 (by decide +kernel) (by decide +kernel)) ?_
  refine P_cell C hS (n := 3) rfl dL_law_795 dL_law_796 dL_law_797 dL_law_798 dL_law_799 rfl rfl (lw_in hi hL h3 (by decide +kernel) (by decide +kernel)) ?_
  refine P_ci (R_v (ci := 11) C kv_law_X11_see (As := [.int (xs (i + 1).toNatClampNeg), .int (xs (i + 2).toNatClampNeg), .int (xs (i + 3).toNatClampNeg)]) rfl kd_0 rfl (fxl fx_0) (Nat.le_of_ble_eq_true rfl) dL_law_800 (LS_k S (by omega) (Nat.le_of_ble_eq_true rfl) (Nat.le_of_ble_eq_true rfl)) (L4_X11_see (Qk := fun r9 σ9 => INV (mV M) σ9 ∧ (FX (fun id => id = 10) (fun id k => (id = 9 ∧ k = 1)) σ σ9) ∧ ((gi σ9 9 1).toInt % 3 = 0) ∧ (SEA r9 (xs (i + 1).toNatClampNeg) (xs (i + 2).toNatClampNeg) (xs (i + 3).toNatClampNeg) (gi σ 1 1).toInt ((gi σ 9 1).toInt / 3) ((gi σ9 9 1).toInt / 3)) ∧ (F_X11_see (xs (i + 1).toNatClampNeg) (xs (i + 2).toNatClampNeg) (xs (i + 3).toNatClampNeg) σ = (r9, σ9))) hI (fun _ _ h g0 g1 g2 g3 => ⟨h, g0, g1, g2, g3⟩))) ?_
  rintro r1 σ1 ⟨hI1, e1_0, e1_1, e1_2, e1_3⟩
  refine P_pop C dL_law_803 rfl ?_
  refine P_aload_n C dL_law_804 2 rfl ?_
  refine P_cell C hS (n := 1) rfl dL_law_805 dL_law_806 dL_law_807 dL_law_808 dL_law_809 rfl rfl (lw_in hi hL h3 (by decide +kernel) (by decide +kernel)) ?_
  refine P_cell C hS (n := 2) rfl dL_law_810 dL_law_811 dL_law_812 dL_law_813 dL_law_814 rfl rfl (lw_in hi hL h3 (by decide +kernel) (by decide +kernel)) ?_
  refine P_cell C hS (n := 3) rfl dL_law_815 dL_law_816 dL_law_817 dL_law_818 dL_law_819 rfl rfl (lw_in hi hL h3 (by decide +kernel) (by decide +kernel)) ?_
  refine P_ci (R_v (ci := 12) C kv_law_X12_see (As := [.int (xs (i + 1).toNatClampNeg), .int (xs (i + 2).toNatClampNeg), .int (xs (i + 3).toNatClampNeg)]) rfl kd_74 rfl (fxl fx_74) (Nat.le_of_ble_eq_true rfl) dL_law_820 (by have h9 := LS_k S (by omega) (c := 0) (n := 0) (Nat.le_of_ble_eq_true rfl) (Nat.le_of_ble_eq_true rfl); exact h9) (L4_X12_see (Qk := fun r9 σ9 => INV (mV M) σ9 ∧ (Fr [74, 142, 143, 144] [41] σ1 σ9) ∧ (SEA r9 (xs (i + 1).toNatClampNeg) (xs (i + 2).toNatClampNeg) (xs (i + 3).toNatClampNeg) (gi σ1 74 0).toInt (gi σ1 74 41).toInt (gi σ9 74 41).toInt) ∧ (F_X12_see (xs (i + 1).toNatClampNeg) (xs (i + 2).toNatClampNeg) (xs (i + 3).toNatClampNeg) σ1 = (r9, σ9))) hI1 (fun _ _ h g0 g1 g2 => ⟨h, g0, g1, g2⟩))) ?_
  rintro r2 σ2 ⟨hI2, e2_0, e2_1, e2_2⟩
  refine P_pop C dL_law_823 rfl ?_
  refine P_goto C (tgt := 1381) dL_law_824 (by decide +kernel) ?_
  exact next M σ2 _ (LS_s S hI2 rfl rfl) (RS_see hc hI e1_0 e1_1 e1_2 e1_3 e2_0 e2_1 e2_2).1
set_option maxHeartbeats 4000000 in
theorem lwc_21 {M : Mx} {L : Nat} {xs : Nat → Int32} {j : Nat} {σ : Sg} {kn : Nat × Nat} {i : Int32} (S : LSt M L xs j σ kn) (hc : RELS σ) (hi : i.toInt = 6 * (j : Int)) (hL : 6 * j + 6 ≤ L) (h3 : L ≤ 3072) (next : ∀ M2 σ2 kn2, LSt M2 L xs (j + 1) σ2 kn2 → RELS σ2 → PS M2 1381 (lwv i) [] σ2 kn2) : PS M 827 (lwv i) [] σ kn := by
  obtain ⟨C, hS, hI, hU, hN0, hw, hk1, hk2, hN⟩ := id S
  refine P_aload_n C dL_law_827 1 rfl ?_
  refine P_ci (R_v (ci := 11) C kv_law_X11_who (As := []) rfl kd_0 rfl (fxl fx_0) (Nat.le_of_ble_eq_true rfl) dL_law_828 (LS_k S (by omega) (Nat.le_of_ble_eq_true rfl) (Nat.le_of_ble_eq_true rfl)) (L4_X11_who (Qk := fun r9 σ9 => INV (mV M) σ9 ∧ (FX (fun id => id = 34 ∨ id = 35 ∨ id = 36 ∨ id = 37 ∨ id = 38 ∨ id = 39 ∨ id = 40 ∨ id = 47 ∨ id = 48) (fun id k => (id = 33 ∧ k = 1) ∨ (id = 33 ∧ k = 3) ∨ (id = 33 ∧ k = 9) ∨ (id = 33 ∧ k = 10) ∨ (id = 33 ∧ k = 11)) σ σ9) ∧ (F_X11_who σ = (r9, σ9))) hI (fun _ _ h g0 g1 => ⟨h, g0, g1⟩))) ?_
  rintro r1 σ1 ⟨hI1, e1_0, e1_1⟩
  refine P_pop C dL_law_831 rfl ?_
  refine P_aload_n C dL_law_832 2 rfl ?_
  refine P_ci (R_v (ci := 12) C kv_law_X12_who (As := []) rfl kd_74 rfl (fxl fx_74) (Nat.le_of_ble_eq_true rfl) dL_law_833 (by have h9 := LS_k S (by omega) (c := 0) (n := 0) (Nat.le_of_ble_eq_true rfl) (Nat.le_of_ble_eq_true rfl); exact h9) (L4_X12_who (Qk := fun r9 σ9 => INV (mV M) σ9 ∧ (Fr [74, 105, 106, 107, 108, 129, 131, 132, 134, 135, 136, 137] [1, 30, 33] σ1 σ9) ∧ ((gi σ9 74 1).toInt = (gi σ1 74 1).toInt) ∧ (F_X12_who σ1 = (r9, σ9))) hI1 (fun _ _ h g0 g1 g2 => ⟨h, g0, g1, g2⟩))) ?_
  rintro r2 σ2 ⟨hI2, e2_0, e2_1, e2_2⟩
  refine P_pop C dL_law_836 rfl ?_
  refine P_goto C (tgt := 1381) dL_law_837 (by decide +kernel) ?_
  exact next M σ2 _ (LS_s S hI2 rfl rfl) (RS_who hc hI e1_0 e1_1 e2_0 e2_1 e2_2).1
set_option maxHeartbeats 4000000 in
theorem lwc_22 {M : Mx} {L : Nat} {xs : Nat → Int32} {j : Nat} {σ : Sg} {kn : Nat × Nat} {i : Int32} (S : LSt M L xs j σ kn) (hc : RELS σ) (hi : i.toInt = 6 * (j : Int)) (hL : 6 * j + 6 ≤ L) (h3 : L ≤ 3072) (next : ∀ M2 σ2 kn2, LSt M2 L xs (j + 1) σ2 kn2 → RELS σ2 → PS M2 1381 (lwv i) [] σ2 kn2) : PS M 840 (lwv i) [] σ kn := by
  obtain ⟨C, hS, hI, hU, hN0, hw, hk1, hk2, hN⟩ := id S
  refine P_aload_n C dL_law_840 1 rfl ?_
  refine P_cell C hS (n := 1) rfl dL_law_841 dL_law_842 dL_law_843 dL_law_844 dL_law_845 rfl rfl (lw_in hi hL h3 (by decide +kernel) (by decide +kernel)) ?_
  refine P_cell C hS (n := 2) rfl dL_law_846 dL_law_847 dL_law_848 dL_law_849 dL_law_850 rfl rfl (lw_in hi hL h3 (by decide +kernel) (by decide +kernel)) ?_
  refine P_cell C hS (n := 3) rfl dL_law_851 dL_law_852 dL_law_853 dL_law_854 dL_law_855 rfl rfl (lw_in hi hL h3 (by decide +kernel) (by decide +kernel)) ?_
  refine P_cl (R_v (ci := 11) C kv_law_X11_odds (As := [.int (xs (i + 1).toNatClampNeg), .int (xs (i + 2).toNatClampNeg), .int (xs (i + 3).toNatClampNeg)]) rfl kd_0 rfl (fxl fx_0) (Nat.le_of_ble_eq_true rfl) dL_law_856 (LS_k S (by omega) (Nat.le_of_ble_eq_true rfl) (Nat.le_of_ble_eq_true rfl)) (L4_X11_odds (Qk := fun r9 σ9 => INV (mV M) σ9 ∧ (FX (fun id => id = 34 ∨ id = 35 ∨ id = 36 ∨ id = 37 ∨ id = 38 ∨ id = 39 ∨ id = 40 ∨ id = 47 ∨ id = 48) (fun id k => (id = 33 ∧ k = 1) ∨ (id = 33 ∧ k = 3) ∨ (id = 33 ∧ k = 9) ∨ (id = 33 ∧ k = 10) ∨ (id = 33 ∧ k = 11)) σ σ9) ∧ (F_X11_odds (xs (i + 1).toNatClampNeg) (xs (i + 2).toNatClampNeg) (xs (i + 3).toNatClampNeg) σ = (r9, σ9))) hI (fun _ _ h g0 g1 => ⟨h, g0, g1⟩))) ?_
  rintro r1 σ1 ⟨hI1, e1_0, e1_1⟩
  refine P_pop2 C dL_law_859 rfl ?_
  refine P_aload_n C dL_law_860 2 rfl ?_
  refine P_cell C hS (n := 1) rfl dL_law_861 dL_law_862 dL_law_863 dL_law_864 dL_law_865 rfl rfl (lw_in hi hL h3 (by decide +kernel) (by decide +kernel)) ?_
  refine P_cell C hS (n := 2) rfl dL_law_866 dL_law_867 dL_law_868 dL_law_869 dL_law_870 rfl rfl (lw_in hi hL h3 (by decide +kernel) (by decide +kernel)) ?_
  refine P_cell C hS (n := 3) rfl dL_law_871 dL_law_872 dL_law_873 dL_law_874 dL_law_875 rfl rfl (lw_in hi hL h3 (by decide +kernel) (by decide +kernel)) ?_
  refine P_cl (R_v (ci := 12) C kv_law_X12_odds (As := [.int (xs (i + 1).toNatClampNeg), .int (xs (i + 2).toNatClampNeg), .int (xs (i + 3).toNatClampNeg)]) rfl kd_74 rfl (fxl fx_74) (Nat.le_of_ble_eq_true rfl) dL_law_876 (by have h9 := LS_k S (by omega) (c := 0) (n := 0) (Nat.le_of_ble_eq_true rfl) (Nat.le_of_ble_eq_true rfl); exact h9) (L4_X12_odds (Qk := fun r9 σ9 => INV (mV M) σ9 ∧ (Fr [74, 105, 106, 107, 108, 129, 131, 132, 134, 135, 136, 137] [1, 30, 33] σ1 σ9) ∧ ((gi σ9 74 1).toInt = (gi σ1 74 1).toInt) ∧ (F_X12_odds (xs (i + 1).toNatClampNeg) (xs (i + 2).toNatClampNeg) (xs (i + 3).toNatClampNeg) σ1 = (r9, σ9))) hI1 (fun _ _ h g0 g1 g2 => ⟨h, g0, g1, g2⟩))) ?_
  rintro r2 σ2 ⟨hI2, e2_0, e2_1, e2_2⟩
  refine P_pop2 C dL_law_879 rfl ?_
  refine P_goto C (tgt := 1381) dL_law_880 (by decide +kernel) ?_
  exact next M σ2 _ (LS_s S hI2 rfl rfl) (RS_odds hc hI e1_0 e1_1 e2_0 e2_1 e2_2).1
set_option maxHeartbeats 4000000 in
theorem lwc_23 {M : Mx} {L : Nat} {xs : Nat → Int32} {j : Nat} {σ : Sg} {kn : Nat × Nat} {i : Int32} (S : LSt M L xs j σ kn) (hc : RELS σ) (hi : i.toInt = 6 * (j : Int)) (hL : 6 * j + 6 ≤ L) (h3 : L ≤ 3072) (next : ∀ M2 σ2 kn2, LSt M2 L xs (j + 1) σ2 kn2 → RELS σ2 → PS M2 1381 (lwv i) [] σ2 kn2) : PS M 883 (lwv i) [] σ kn := by
  obtain ⟨C, hS, hI, hU, hN0, hw, hk1, hk2, hN⟩ := id S
  refine P_aload_n C dL_law_883 1 rfl ?_
  refine P_cell C hS (n := 1) rfl dL_law_884 dL_law_885 dL_law_886 dL_law_887 dL_law_888 rfl rfl (lw_in hi hL h3 (by decide +kernel) (by decide +kernel)) ?_
  refine P_cell C hS (n := 2) rfl dL_law_889 dL_law_890 dL_law_891 dL_law_892 dL_law_893 rfl rfl (lw_in hi hL h3 (by decide +kernel) (by decide +kernel)) ?_
  refine P_cl (R_v (ci := 11) C kv_law_X11_mean (As := [.int (xs (i + 1).toNatClampNeg), .int (xs (i + 2).toNatClampNeg)]) rfl kd_0 rfl (fxl fx_0) (Nat.le_of_ble_eq_true rfl) dL_law_894 (LS_k S (by omega) (Nat.le_of_ble_eq_true rfl) (Nat.le_of_ble_eq_true rfl)) (L4_X11_mean (Qk := fun r9 σ9 => INV (mV M) σ9 ∧ (FX (fun id => id = 34 ∨ id = 35 ∨ id = 36 ∨ id = 37 ∨ id = 38 ∨ id = 39 ∨ id = 40 ∨ id = 47 ∨ id = 48) (fun id k => (id = 33 ∧ k = 1) ∨ (id = 33 ∧ k = 3) ∨ (id = 33 ∧ k = 9) ∨ (id = 33 ∧ k = 10) ∨ (id = 33 ∧ k = 11)) σ σ9) ∧ (F_X11_mean (xs (i + 1).toNatClampNeg) (xs (i + 2).toNatClampNeg) σ = (r9, σ9))) hI (fun _ _ h g0 g1 => ⟨h, g0, g1⟩))) ?_
  rintro r1 σ1 ⟨hI1, e1_0, e1_1⟩
  refine P_pop2 C dL_law_897 rfl ?_
  refine P_aload_n C dL_law_898 2 rfl ?_
  refine P_cell C hS (n := 1) rfl dL_law_899 dL_law_900 dL_law_901 dL_law_902 dL_law_903 rfl rfl (lw_in hi hL h3 (by decide +kernel) (by decide +kernel)) ?_
  refine P_cell C hS (n := 2) rfl dL_law_904 dL_law_905 dL_law_906 dL_law_907 dL_law_908 rfl rfl (lw_in hi hL h3 (by decide +kernel) (by decide +kernel)) ?_
  refine P_cl (R_v (ci := 12) C kv_law_X12_mean (As := [.int (xs (i + 1).toNatClampNeg), .int (xs (i + 2).toNatClampNeg)]) rfl kd_74 rfl (fxl fx_74) (Nat.le_of_ble_eq_true rfl) dL_law_909 (by have h9 := LS_k S (by omega) (c := 0) (n := 0) (Nat.le_of_ble_eq_true rfl) (Nat.le_of_ble_eq_true rfl); exact h9) (L4_X12_mean (Qk := fun r9 σ9 => INV (mV M) σ9 ∧ (Fr [74, 105, 106, 107, 108, 129, 131, 132, 134, 135, 136, 137] [1, 30, 33] σ1 σ9) ∧ ((gi σ9 74 1).toInt = (gi σ1 74 1).toInt) ∧ (F_X12_mean (xs (i + 1).toNatClampNeg) (xs (i + 2).toNatClampNeg) σ1 = (r9, σ9))) hI1 (fun _ _ h g0 g1 g2 => ⟨h, g0, g1, g2⟩))) ?_
  rintro r2 σ2 ⟨hI2, e2_0, e2_1, e2_2⟩
  refine P_pop2 C dL_law_912 rfl ?_
  refine P_goto C (tgt := 1381) dL_law_913 (by decide +kernel) ?_
  exact next M σ2 _ (LS_s S hI2 rfl rfl) (RS_mean hc hI e1_0 e1_1 e2_0 e2_1 e2_2).1
set_option maxHeartbeats 4000000 in
theorem lwc_24 {M : Mx} {L : Nat} {xs : Nat → Int32} {j : Nat} {σ : Sg} {kn : Nat × Nat} {i : Int32} (S : LSt M L xs j σ kn) (hc : RELS σ) (hi : i.toInt = 6 * (j : Int)) (hL : 6 * j + 6 ≤ L) (h3 : L ≤ 3072) (next : ∀ M2 σ2 kn2, LSt M2 L xs (j + 1) σ2 kn2 → RELS σ2 → PS M2 1381 (lwv i) [] σ2 kn2) : PS M 916 (lwv i) [] σ kn := by
  obtain ⟨C, hS, hI, hU, hN0, hw, hk1, hk2, hN⟩ := id S
  refine P_aload_n C dL_law_916 1 rfl ?_
  refine P_cell C hS (n := 1) rfl dL_law_917 dL_law_918 dL_law_919 dL_law_920 dL_law_921 rfl rfl (lw_in hi hL h3 (by decide +kernel) (by decide +kernel)) ?_
  refine P_ci (R_v (ci := 11) C kv_law_X11_plan (As := [.int (xs (i + 1).toNatClampNeg)]) rfl kd_0 rfl (fxl fx_0) (Nat.le_of_ble_eq_true rfl) dL_law_922 (LS_k S (by omega) (Nat.le_of_ble_eq_true rfl) (Nat.le_of_ble_eq_true rfl)) (L4_X11_plan (Qk := fun r9 σ9 => INV (mV M) σ9 ∧ (FX (fun id => id = 12) (fun id k => (id = 11 ∧ k = 1)) σ σ9) ∧ (PBA r9 (xs (i + 1).toNatClampNeg) (gi σ 11 1) (gi σ9 11 1) (2) 10) ∧ (F_X11_plan (xs (i + 1).toNatClampNeg) σ = (r9, σ9))) hI (fun _ _ h g0 g1 g2 => ⟨h, g0, g1, g2⟩))) ?_
  rintro r1 σ1 ⟨hI1, e1_0, e1_1, e1_2⟩
  refine P_pop C dL_law_925 rfl ?_
  refine P_aload_n C dL_law_926 2 rfl ?_
  refine P_cell C hS (n := 1) rfl dL_law_927 dL_law_928 dL_law_929 dL_law_930 dL_law_931 rfl rfl (lw_in hi hL h3 (by decide +kernel) (by decide +kernel)) ?_
  refine P_ci (R_v (ci := 12) C kv_law_X12_plan (As := [.int (xs (i + 1).toNatClampNeg)]) rfl kd_74 rfl (fxl fx_74) (Nat.le_of_ble_eq_true rfl) dL_law_932 (by have h9 := LS_k S (by omega) (c := 0) (n := 0) (Nat.le_of_ble_eq_true rfl) (Nat.le_of_ble_eq_true rfl); exact h9) (L4_X12_plan (Qk := fun r9 σ9 => INV (mV M) σ9 ∧ (Fr [74, 147] [45] σ1 σ9) ∧ (PBA r9 (xs (i + 1).toNatClampNeg) (gi σ1 74 45) (gi σ9 74 45) (2) 10) ∧ (F_X12_plan (xs (i + 1).toNatClampNeg) σ1 = (r9, σ9))) hI1 (fun _ _ h g0 g1 g2 => ⟨h, g0, g1, g2⟩))) ?_
  rintro r2 σ2 ⟨hI2, e2_0, e2_1, e2_2⟩
  refine P_pop C dL_law_935 rfl ?_
  refine P_goto C (tgt := 1381) dL_law_936 (by decide +kernel) ?_
  exact next M σ2 _ (LS_s S hI2 rfl rfl) (RS_plan hc hI e1_0 e1_1 e1_2 e2_0 e2_1 e2_2).1
set_option maxHeartbeats 4000000 in
theorem lwc_25 {M : Mx} {L : Nat} {xs : Nat → Int32} {j : Nat} {σ : Sg} {kn : Nat × Nat} {i : Int32} (S : LSt M L xs j σ kn) (hc : RELS σ) (hi : i.toInt = 6 * (j : Int)) (hL : 6 * j + 6 ≤ L) (h3 : L ≤ 3072) (next : ∀ M2 σ2 kn2, LSt M2 L xs (j + 1) σ2 kn2 → RELS σ2 → PS M2 1381 (lwv i) [] σ2 kn2) : PS M 939 (lwv i) [] σ kn := by
  obtain ⟨C, hS, hI, hU, hN0, hw, hk1, hk2, hN⟩ := id S
  refine P_aload_n C dL_law_939 1 rfl ?_
  refine P_ci (R_v (ci := 11) C kv_law_X11_planned (As := []) rfl kd_0 rfl (fxl fx_0) (Nat.le_of_ble_eq_true rfl) dL_law_940 (LS_k S (by omega) (Nat.le_of_ble_eq_true rfl) (Nat.le_of_ble_eq_true rfl)) (L4_X11_planned (Qk := fun r9 σ9 => INV (mV M) σ9 ∧ (FX (fun id => id = 34 ∨ id = 35 ∨ id = 36 ∨ id = 37 ∨ id = 38 ∨ id = 39 ∨ id = 40 ∨ id = 47 ∨ id = 48) (fun id k => (id = 33 ∧ k = 1) ∨ (id = 33 ∧ k = 3) ∨ (id = 33 ∧ k = 9) ∨ (id = 33 ∧ k = 10) ∨ (id = 33 ∧ k = 11)) σ σ9) ∧ (F_X11_planned σ = (r9, σ9))) hI (fun _ _ h g0 g1 => ⟨h, g0, g1⟩))) ?_
  rintro r1 σ1 ⟨hI1, e1_0, e1_1⟩
  refine P_pop C dL_law_943 rfl ?_
  refine P_aload_n C dL_law_944 2 rfl ?_
  refine P_ci (R_v (ci := 12) C kv_law_X12_planned (As := []) rfl kd_74 rfl (fxl fx_74) (Nat.le_of_ble_eq_true rfl) dL_law_945 (by have h9 := LS_k S (by omega) (c := 0) (n := 0) (Nat.le_of_ble_eq_true rfl) (Nat.le_of_ble_eq_true rfl); exact h9) (L4_X12_planned (Qk := fun r9 σ9 => INV (mV M) σ9 ∧ (Fr [74, 105, 106, 107, 108, 129, 131, 132, 134, 135, 136, 137] [1, 30, 33] σ1 σ9) ∧ ((gi σ9 74 1).toInt = (gi σ1 74 1).toInt) ∧ (F_X12_planned σ1 = (r9, σ9))) hI1 (fun _ _ h g0 g1 g2 => ⟨h, g0, g1, g2⟩))) ?_
  rintro r2 σ2 ⟨hI2, e2_0, e2_1, e2_2⟩
  refine P_pop C dL_law_948 rfl ?_
  refine P_goto C (tgt := 1381) dL_law_949 (by decide +kernel) ?_
  exact next M σ2 _ (LS_s S hI2 rfl rfl) (RS_planned hc hI e1_0 e1_1 e2_0 e2_1 e2_2).1
set_option maxHeartbeats 4000000 in
theorem lwc_26 {M : Mx} {L : Nat} {xs : Nat → Int32} {j : Nat} {σ : Sg} {kn : Nat × Nat} {i : Int32} (S : LSt M L xs j σ kn) (hc : RELS σ) (hi : i.toInt = 6 * (j : Int)) (hL : 6 * j + 6 ≤ L) (h3 : L ≤ 3072) (next : ∀ M2 σ2 kn2, LSt M2 L xs (j + 1) σ2 kn2 → RELS σ2 → PS M2 1381 (lwv i) [] σ2 kn2) : PS M 952 (lwv i) [] σ kn := by
  obtain ⟨C, hS, hI, hU, hN0, hw, hk1, hk2, hN⟩ := id S
  refine P_aload_n C dL_law_952 1 rfl ?_
  refine P_cell C hS (n := 1) rfl dL_law_953 dL_law_954 dL_law_955 dL_law_956 dL_law_957 rfl rfl (lw_in hi hL h3 (by decide +kernel) (by decide +kernel)) ?_
  refine P_ci (R_v (ci := 11) C kv_law_X11_book (As := [.int (xs (i + 1).toNatClampNeg)]) rfl kd_0 rfl (fxl fx_0) (Nat.le_of_ble_eq_true rfl) dL_law_958 (LS_k S (by omega) (Nat.le_of_ble_eq_true rfl) (Nat.le_of_ble_eq_true rfl)) (L3_X11_book (Qk := fun r9 σ9 => INV (mV M) σ9 ∧ (FX (fun id => id = 14) (fun id k => (id = 13 ∧ k = 1)) σ σ9) ∧ (PBA r9 (xs (i + 1).toNatClampNeg) (gi σ 13 1) (gi σ9 13 1) ((gi σ 1 1).toInt - 1) 8)) hI (fun _ _ h g0 g1 => ⟨h, g0, g1⟩))) ?_
  rintro r1 σ1 ⟨hI1, e1_0, e1_1⟩
  refine P_pop C dL_law_961 rfl ?_
  refine P_aload_n C dL_law_962 2 rfl ?_
  refine P_cell C hS (n := 1) rfl dL_law_963 dL_law_964 dL_law_965 dL_law_966 dL_law_967 rfl rfl (lw_in hi hL h3 (by decide +kernel) (by decide +kernel)) ?_
  refine P_ci (R_v (ci := 12) C kv_law_X12_book (As := [.int (xs (i + 1).toNatClampNeg)]) rfl kd_74 rfl (fxl fx_74) (Nat.le_of_ble_eq_true rfl) dL_law_968 (by have h9 := LS_k S (by omega) (c := 0) (n := 0) (Nat.le_of_ble_eq_true rfl) (Nat.le_of_ble_eq_true rfl); exact h9) (L3_X12_book (Qk := fun r9 σ9 => INV (mV M) σ9 ∧ (Fr [74, 148] [46] σ1 σ9) ∧ (PBA r9 (xs (i + 1).toNatClampNeg) (gi σ1 74 46) (gi σ9 74 46) ((gi σ1 74 0).toInt - 1) 8)) hI1 (fun _ _ h g0 g1 => ⟨h, g0, g1⟩))) ?_
  rintro r2 σ2 ⟨hI2, e2_0, e2_1⟩
  refine P_pop C dL_law_971 rfl ?_
  refine P_goto C (tgt := 1381) dL_law_972 (by decide +kernel) ?_
  exact next M σ2 _ (LS_s S hI2 rfl rfl) (RS_book hc hI e1_0 e1_1 e2_0 e2_1).1
set_option maxHeartbeats 4000000 in
theorem lwc_27 {M : Mx} {L : Nat} {xs : Nat → Int32} {j : Nat} {σ : Sg} {kn : Nat × Nat} {i : Int32} (S : LSt M L xs j σ kn) (hc : RELS σ) (hi : i.toInt = 6 * (j : Int)) (hL : 6 * j + 6 ≤ L) (h3 : L ≤ 3072) (next : ∀ M2 σ2 kn2, LSt M2 L xs (j + 1) σ2 kn2 → RELS σ2 → PS M2 1381 (lwv i) [] σ2 kn2) : PS M 975 (lwv i) [] σ kn := by
  obtain ⟨C, hS, hI, hU, hN0, hw, hk1, hk2, hN⟩ := id S
  refine P_aload_n C dL_law_975 1 rfl ?_
  refine P_ci (R_v (ci := 11) C kv_law_X11_looked (As := []) rfl kd_0 rfl (fxl fx_0) (Nat.le_of_ble_eq_true rfl) dL_law_976 (LS_k S (by omega) (Nat.le_of_ble_eq_true rfl) (Nat.le_of_ble_eq_true rfl)) (L3_X11_looked (Qk := fun r9 σ9 => INV (mV M) σ9 ∧ (FX (fun id => id = 34 ∨ id = 35 ∨ id = 36 ∨ id = 37 ∨ id = 38 ∨ id = 39 ∨ id = 40 ∨ id = 47 ∨ id = 48) (fun id k => (id = 33 ∧ k = 1) ∨ (id = 33 ∧ k = 3) ∨ (id = 33 ∧ k = 9) ∨ (id = 33 ∧ k = 10) ∨ (id = 33 ∧ k = 11)) σ σ9)) hI (fun _ _ h g0 => ⟨h, g0⟩))) ?_
  rintro r1 σ1 ⟨hI1, e1_0⟩
  refine P_pop C dL_law_979 rfl ?_
  refine P_aload_n C dL_law_980 2 rfl ?_
  refine P_ci (R_v (ci := 12) C kv_law_X12_looked (As := []) rfl kd_74 rfl (fxl fx_74) (Nat.le_of_ble_eq_true rfl) dL_law_981 (by have h9 := LS_k S (by omega) (c := 0) (n := 0) (Nat.le_of_ble_eq_true rfl) (Nat.le_of_ble_eq_true rfl); exact h9) (L4_X12_looked (Qk := fun r9 σ9 => INV (mV M) σ9 ∧ (Fr [74, 105, 106, 107, 108, 129, 131, 132, 134, 135, 136, 137] [1, 30, 33] σ1 σ9) ∧ ((gi σ9 74 1).toInt = (gi σ1 74 1).toInt) ∧ (F_X12_looked σ1 = (r9, σ9))) hI1 (fun _ _ h g0 g1 g2 => ⟨h, g0, g1, g2⟩))) ?_
  rintro r2 σ2 ⟨hI2, e2_0, e2_1, e2_2⟩
  refine P_pop C dL_law_984 rfl ?_
  refine P_goto C (tgt := 1381) dL_law_985 (by decide +kernel) ?_
  exact next M σ2 _ (LS_s S hI2 rfl rfl) (RS_looked hc hI e1_0 e2_0 e2_1 e2_2)
set_option maxHeartbeats 4000000 in
theorem lwc_28 {M : Mx} {L : Nat} {xs : Nat → Int32} {j : Nat} {σ : Sg} {kn : Nat × Nat} {i : Int32} (S : LSt M L xs j σ kn) (hc : RELS σ) (hi : i.toInt = 6 * (j : Int)) (hL : 6 * j + 6 ≤ L) (h3 : L ≤ 3072) (next : ∀ M2 σ2 kn2, LSt M2 L xs (j + 1) σ2 kn2 → RELS σ2 → PS M2 1381 (lwv i) [] σ2 kn2) : PS M 988 (lwv i) [] σ kn := by
  obtain ⟨C, hS, hI, hU, hN0, hw, hk1, hk2, hN⟩ := id S
  refine P_aload_n C dL_law_988 1 rfl ?_
  refine P_cell C hS (n := 1) rfl dL_law_989 dL_law_990 dL_law_991 dL_law_992 dL_law_993 rfl rfl (lw_in hi hL h3 (by decide +kernel) (by decide +kernel)) ?_
  refine P_cell C hS (n := 2) rfl dL_law_994 dL_law_995 dL_law_996 dL_law_997 dL_law_998 rfl rfl (lw_in hi hL h3 (by decide +kernel) (by decide +kernel)) ?_
  refine P_ci (R_v (ci := 11) C kv_law_X11_judge (As := [.int (xs (i + 1).toNatClampNeg), .int (xs (i + 2).toNatClampNeg)]) rfl kd_0 rfl (fxl fx_0) (Nat.le_of_ble_eq_true rfl) dL_law_999 (LS_k S (by omega) (Nat.le_of_ble_eq_true rfl) (Nat.le_of_ble_eq_true rfl)) (L4_X11_judge (Qk := fun r9 σ9 => INV (mV M) σ9 ∧ (FX (fun id => False) (fun _ _ => False) σ σ9) ∧ (F_X11_judge (xs (i + 1).toNatClampNeg) (xs (i + 2).toNatClampNeg) σ = (r9, σ9))) hI (fun _ _ h g0 g1 => ⟨h, g0, g1⟩))) ?_
  rintro r1 σ1 ⟨hI1, e1_0, e1_1⟩
  refine P_aload_n C dL_law_1002 2 rfl ?_
  refine P_cell C hS (n := 1) rfl dL_law_1003 dL_law_1004 dL_law_1005 dL_law_1006 dL_law_1007 rfl rfl (lw_in hi hL h3 (by decide +kernel) (by decide +kernel)) ?_
  refine P_cell C hS (n := 2) rfl dL_law_1008 dL_law_1009 dL_law_1010 dL_law_1011 dL_law_1012 rfl rfl (lw_in hi hL h3 (by decide +kernel) (by decide +kernel)) ?_
  refine P_ci (R_v (ci := 12) C kv_law_X12_judge (As := [.int (xs (i + 1).toNatClampNeg), .int (xs (i + 2).toNatClampNeg)]) rfl kd_74 rfl (fxl fx_74) (Nat.le_of_ble_eq_true rfl) dL_law_1013 (by have h9 := LS_k S (by omega) (c := 0) (n := 0) (Nat.le_of_ble_eq_true rfl) (Nat.le_of_ble_eq_true rfl); exact h9) (L4_X12_judge (Qk := fun r9 σ9 => INV (mV M) σ9 ∧ (Fr [] [] σ1 σ9) ∧ (F_X12_judge (xs (i + 1).toNatClampNeg) (xs (i + 2).toNatClampNeg) σ1 = (r9, σ9))) hI1 (fun _ _ h g0 g1 => ⟨h, g0, g1⟩))) ?_
  rintro r2 σ2 ⟨hI2, e2_0, e2_1⟩
  have hF := (RS_judge hc hI e1_0 e1_1 e2_0 e2_1)
  refine P_icmp_eq C (tgt := 1381) dL_law_1016 (by decide +kernel) (fun _ => ?_) (fun h9 => absurd hF.2 h9)
  exact next M σ2 _ (LS_s S hI2 rfl rfl) hF.1
set_option maxHeartbeats 4000000 in
theorem lwc_29 {M : Mx} {L : Nat} {xs : Nat → Int32} {j : Nat} {σ : Sg} {kn : Nat × Nat} {i : Int32} (S : LSt M L xs j σ kn) (hc : RELS σ) (hi : i.toInt = 6 * (j : Int)) (hL : 6 * j + 6 ≤ L) (h3 : L ≤ 3072) (next : ∀ M2 σ2 kn2, LSt M2 L xs (j + 1) σ2 kn2 → RELS σ2 → PS M2 1381 (lwv i) [] σ2 kn2) : PS M 1021 (lwv i) [] σ kn := by
  obtain ⟨C, hS, hI, hU, hN0, hw, hk1, hk2, hN⟩ := id S
  refine P_aload_n C dL_law_1021 1 rfl ?_
  refine P_ci (R_v (ci := 11) C kv_law_X11_image (As := []) rfl kd_0 rfl (fxl fx_0) (Nat.le_of_ble_eq_true rfl) dL_law_1022 (LS_k S (by omega) (Nat.le_of_ble_eq_true rfl) (Nat.le_of_ble_eq_true rfl)) (L4_X11_image (Qk := fun r9 σ9 => INV (mV M) σ9 ∧ (FX (fun id => id = 18 ∨ id = 19 ∨ id = 20 ∨ id = 21 ∨ id = 22 ∨ id = 23 ∨ id = 24 ∨ id = 26 ∨ id = 28 ∨ id = 30) (fun id k => (id = 0 ∧ k = 3) ∨ (id = 17 ∧ k = 1) ∨ (id = 17 ∧ k = 3) ∨ (id = 17 ∧ k = 9) ∨ (id = 17 ∧ k = 10) ∨ (id = 17 ∧ k = 11) ∨ (id = 25 ∧ k = 1) ∨ (id = 27 ∧ k = 1) ∨ (id = 29 ∧ k = 1)) σ σ9) ∧ ((gi σ9 17 1).toInt = (gi σ 1 1).toInt) ∧ ((gi σ9 17 3).toInt = (gi σ 1 3).toInt) ∧ ((gi σ9 17 9).toInt = (gi σ 1 9).toInt) ∧ ((gi σ9 25 1).toInt = (gi σ 9 1).toInt) ∧ (CPY σ σ9 17 1) ∧ ((gi σ9 27 1).toInt = (gi σ 11 1).toInt) ∧ ((gi σ9 29 1).toInt = (gi σ 13 1).toInt) ∧ ((gi σ9 0 3).toInt = 1) ∧ (r9.toInt = (gi σ 1 1).toInt) ∧ (F_X11_image σ = (r9, σ9))) hI (fun _ _ h g0 g1 g2 g3 g4 g5 g6 g7 g8 g9 g10 => ⟨h, g0, g1, g2, g3, g4, g5, g6, g7, g8, g9, g10⟩))) ?_
  rintro r1 σ1 ⟨hI1, e1_0, e1_1, e1_2, e1_3, e1_4, e1_5, e1_6, e1_7, e1_8, e1_9, e1_10⟩
  refine P_pop C dL_law_1025 rfl ?_
  refine P_aload_n C dL_law_1026 2 rfl ?_
  refine P_ci (R_v (ci := 12) C kv_law_X12_image (As := []) rfl kd_74 rfl (fxl fx_74) (Nat.le_of_ble_eq_true rfl) dL_law_1027 (by have h9 := LS_k S (by omega) (c := 0) (n := 0) (Nat.le_of_ble_eq_true rfl) (Nat.le_of_ble_eq_true rfl); exact h9) (L3_X12_image (Qk := fun r9 σ9 => INV (mV M) σ9 ∧ (Fr [74, 156, 157, 158, 159, 160, 161, 162, 163, 164, 165, 166, 167, 168] [49, 50, 51, 52, 53, 54, 55] σ1 σ9) ∧ ((gi σ9 74 51).toInt = (gi σ1 74 0).toInt) ∧ ((gi σ9 74 52).toInt = (gi σ1 74 1).toInt) ∧ ((gi σ9 74 50).toInt = (gi σ1 74 12).toInt) ∧ ((gi σ9 74 54).toInt = (gi σ1 74 45).toInt) ∧ ((gi σ9 74 55).toInt = (gi σ1 74 46).toInt) ∧ ((gi σ9 74 49).toInt = 1) ∧ (r9.toInt = (gi σ1 74 0).toInt) ∧ ((gi σ9 74 53).toInt = (gi σ1 74 41).toInt) ∧ (F_X12_image σ1 = (r9, σ9))) hI1 (fun _ _ h g0 g1 g2 g3 g4 g5 g6 g7 g8 g9 => ⟨h, g0, g1, g2, g3, g4, g5, g6, g7, g8, g9⟩))) ?_
  rintro r2 σ2 ⟨hI2, e2_0, e2_1, e2_2, e2_3, e2_4, e2_5, e2_6, e2_7, e2_8, e2_9⟩
  refine P_pop C dL_law_1030 rfl ?_
  refine P_goto C (tgt := 1381) dL_law_1031 (by decide +kernel) ?_
  exact next M σ2 _ (LS_s S hI2 rfl rfl) (RS_image hc hI e1_0 e1_1 e1_2 e1_3 e1_4 e1_5 e1_6 e1_7 e1_8 e1_9 e1_10 e2_0 e2_1 e2_2 e2_3 e2_4 e2_5 e2_6 e2_7 e2_8 e2_9).1
set_option maxHeartbeats 4000000 in
theorem lwc_30 {M : Mx} {L : Nat} {xs : Nat → Int32} {j : Nat} {σ : Sg} {kn : Nat × Nat} {i : Int32} (S : LSt M L xs j σ kn) (hc : RELS σ) (hi : i.toInt = 6 * (j : Int)) (hL : 6 * j + 6 ≤ L) (h3 : L ≤ 3072) (next : ∀ M2 σ2 kn2, LSt M2 L xs (j + 1) σ2 kn2 → RELS σ2 → PS M2 1381 (lwv i) [] σ2 kn2) : PS M 1034 (lwv i) [] σ kn := by
  obtain ⟨C, hS, hI, hU, hN0, hw, hk1, hk2, hN⟩ := id S
  refine P_aload_n C dL_law_1034 1 rfl ?_
  refine P_ci (R_v (ci := 11) C kv_law_X11_undo (As := []) rfl kd_0 rfl (fxl fx_0) (Nat.le_of_ble_eq_true rfl) dL_law_1035 (LS_k S (by omega) (Nat.le_of_ble_eq_true rfl) (Nat.le_of_ble_eq_true rfl)) (L4_X11_undo (Qk := fun r9 σ9 => INV (mV M) σ9 ∧ (FX (fun id => id = 10 ∨ id = 12 ∨ id = 14 ∨ id = 2 ∨ id = 3 ∨ id = 4 ∨ id = 5 ∨ id = 6 ∨ id = 7 ∨ id = 8) (fun id k => (id = 1 ∧ k = 1) ∨ (id = 1 ∧ k = 3) ∨ (id = 1 ∧ k = 9) ∨ (id = 1 ∧ k = 10) ∨ (id = 1 ∧ k = 11) ∨ (id = 11 ∧ k = 1) ∨ (id = 13 ∧ k = 1) ∨ (id = 9 ∧ k = 1)) σ σ9) ∧ ((gi σ9 1 9).toInt ≤ 9999) ∧ ((gi σ9 1 3).toInt = (gi σ9 1 1).toInt) ∧ ((gi σ9 9 1).toInt % 3 = 0) ∧ ((gi σ 0 3).toInt ≠ 0 → CPY σ σ9 1 17) ∧ ((gi σ 0 3).toInt = 0 → σ9 = σ) ∧ (((gi σ 0 3).toInt = 0 → r9.toInt = -3 ∧ (gi σ9 1 1).toInt = (gi σ 1 1).toInt ∧ (gi σ9 11 1).toInt = (gi σ 11 1).toInt ∧ (gi σ9 13 1).toInt = (gi σ 13 1).toInt ∧ (gi σ9 1 9).toInt = (gi σ 1 9).toInt ∧ (gi σ9 9 1).toInt = (gi σ 9 1).toInt) ∧ ((gi σ 0 3).toInt ≠ 0 → r9.toInt = (gi σ 17 1).toInt ∧ (gi σ9 1 1).toInt = (gi σ 17 1).toInt ∧ (gi σ9 11 1).toInt = (gi σ 27 1).toInt ∧ (gi σ9 13 1).toInt = (gi σ 29 1).toInt ∧ (gi σ9 1 9).toInt = (gi σ 17 9).toInt ∧ (gi σ9 9 1).toInt = (gi σ 25 1).toInt)) ∧ (F_X11_undo σ = (r9, σ9))) hI (fun _ _ h g0 g1 g2 g3 g4 g5 g6 g7 => ⟨h, g0, g1, g2, g3, g4, g5, g6, g7⟩))) ?_
  rintro r1 σ1 ⟨hI1, e1_0, e1_1, e1_2, e1_3, e1_4, e1_5, e1_6, e1_7⟩
  refine P_pop C dL_law_1038 rfl ?_
  refine P_aload_n C dL_law_1039 2 rfl ?_
  refine P_ci (R_v (ci := 12) C kv_law_X12_undo (As := []) rfl kd_74 rfl (fxl fx_74) (Nat.le_of_ble_eq_true rfl) dL_law_1040 (by have h9 := LS_k S (by omega) (c := 0) (n := 0) (Nat.le_of_ble_eq_true rfl) (Nat.le_of_ble_eq_true rfl); exact h9) (L3_X12_undo (Qk := fun r9 σ9 => INV (mV M) σ9 ∧ (Fr [74, 103, 104, 105, 106, 107, 108, 109, 110, 142, 143, 144, 147, 148] [0, 1, 2, 12, 41, 45, 46] σ1 σ9) ∧ ((gi σ9 74 1).toInt ≤ 9999) ∧ ((gi σ9 74 12).toInt < (gi σ9 74 11).toInt) ∧ (((gi σ1 74 49).toInt = 0 → r9.toInt = -3 ∧ (gi σ9 74 0).toInt = (gi σ1 74 0).toInt ∧ (gi σ9 74 45).toInt = (gi σ1 74 45).toInt ∧ (gi σ9 74 46).toInt = (gi σ1 74 46).toInt ∧ (gi σ9 74 1).toInt = (gi σ1 74 1).toInt ∧ (gi σ9 74 41).toInt = (gi σ1 74 41).toInt) ∧ ((gi σ1 74 49).toInt ≠ 0 → r9.toInt = (gi σ1 74 51).toInt ∧ (gi σ9 74 0).toInt = (gi σ1 74 51).toInt ∧ (gi σ9 74 45).toInt = (gi σ1 74 54).toInt ∧ (gi σ9 74 46).toInt = (gi σ1 74 55).toInt ∧ (gi σ9 74 1).toInt = (gi σ1 74 52).toInt ∧ (gi σ9 74 41).toInt = (gi σ1 74 53).toInt)) ∧ (F_X12_undo σ1 = (r9, σ9))) hI1 (fun _ _ h g0 g1 g2 g3 g4 => ⟨h, g0, g1, g2, g3, g4⟩))) ?_
  rintro r2 σ2 ⟨hI2, e2_0, e2_1, e2_2, e2_3, e2_4⟩
  refine P_pop C dL_law_1043 rfl ?_
  refine P_goto C (tgt := 1381) dL_law_1044 (by decide +kernel) ?_
  exact next M σ2 _ (LS_s S hI2 rfl rfl) (RS_undo hc hI e1_0 e1_1 e1_2 e1_3 e1_4 e1_5 e1_6 e1_7 e2_0 e2_1 e2_2 e2_3 e2_4).1
set_option maxHeartbeats 4000000 in
theorem lwc_31 {M : Mx} {L : Nat} {xs : Nat → Int32} {j : Nat} {σ : Sg} {kn : Nat × Nat} {i : Int32} (S : LSt M L xs j σ kn) (hc : RELS σ) (hi : i.toInt = 6 * (j : Int)) (hL : 6 * j + 6 ≤ L) (h3 : L ≤ 3072) (next : ∀ M2 σ2 kn2, LSt M2 L xs (j + 1) σ2 kn2 → RELS σ2 → PS M2 1381 (lwv i) [] σ2 kn2) : PS M 1047 (lwv i) [] σ kn := by
  obtain ⟨C, hS, hI, hU, hN0, hw, hk1, hk2, hN⟩ := id S
  refine P_aload_n C dL_law_1047 1 rfl ?_
  refine P_cell C hS (n := 1) rfl dL_law_1048 dL_law_1049 dL_law_1050 dL_law_1051 dL_law_1052 rfl rfl (lw_in hi hL h3 (by decide +kernel) (by decide +kernel)) ?_
  refine P_cell C hS (n := 2) rfl dL_law_1053 dL_law_1054 dL_law_1055 dL_law_1056 dL_law_1057 rfl rfl (lw_in hi hL h3 (by decide +kernel) (by decide +kernel)) ?_
  refine P_cell C hS (n := 3) rfl dL_law_1058 dL_law_1059 dL_law_1060 dL_law_1061 dL_law_1062 rfl rfl (lw_in hi hL h3 (by decide +kernel) (by decide +kernel)) ?_
  refine P_ci (R_v (ci := 11) C kv_law_X11_act (As := [.int (xs (i + 1).toNatClampNeg), .int (xs (i + 2).toNatClampNeg), .int (xs (i + 3).toNatClampNeg)]) rfl kd_0 rfl (fxl fx_0) (Nat.le_of_ble_eq_true rfl) dL_law_1063 (LS_k S (by omega) (Nat.le_of_ble_eq_true rfl) (Nat.le_of_ble_eq_true rfl)) (L3_X11_act (Qk := fun r9 σ9 => INV (mV M) σ9 ∧ (FX (fun id => id = 65) (fun id k => (id = 64 ∧ k = 1)) σ σ9) ∧ (F_X11_act (xs (i + 1).toNatClampNeg) (xs (i + 2).toNatClampNeg) (xs (i + 3).toNatClampNeg) σ = (r9, σ9))) hI (fun _ _ h g0 g1 => ⟨h, g0, g1⟩))) ?_
  rintro r1 σ1 ⟨hI1, e1_0, e1_1⟩
  refine P_pop C dL_law_1066 rfl ?_
  refine P_aload_n C dL_law_1067 2 rfl ?_
  refine P_cell C hS (n := 1) rfl dL_law_1068 dL_law_1069 dL_law_1070 dL_law_1071 dL_law_1072 rfl rfl (lw_in hi hL h3 (by decide +kernel) (by decide +kernel)) ?_
  refine P_cell C hS (n := 2) rfl dL_law_1073 dL_law_1074 dL_law_1075 dL_law_1076 dL_law_1077 rfl rfl (lw_in hi hL h3 (by decide +kernel) (by decide +kernel)) ?_
  refine P_cell C hS (n := 3) rfl dL_law_1078 dL_law_1079 dL_law_1080 dL_law_1081 dL_law_1082 rfl rfl (lw_in hi hL h3 (by decide +kernel) (by decide +kernel)) ?_
  refine P_ci (R_v (ci := 12) C kv_law_X12_act (As := [.int (xs (i + 1).toNatClampNeg), .int (xs (i + 2).toNatClampNeg), .int (xs (i + 3).toNatClampNeg)]) rfl kd_74 rfl (fxl fx_74) (Nat.le_of_ble_eq_true rfl) dL_law_1083 (by have h9 := LS_k S (by omega) (c := 0) (n := 0) (Nat.le_of_ble_eq_true rfl) (Nat.le_of_ble_eq_true rfl); exact h9) (L3_X12_act (Qk := fun r9 σ9 => INV (mV M) σ9 ∧ (Fr [74, 170] [69] σ1 σ9) ∧ (F_X12_act (xs (i + 1).toNatClampNeg) (xs (i + 2).toNatClampNeg) (xs (i + 3).toNatClampNeg) σ1 = (r9, σ9))) hI1 (fun _ _ h g0 g1 => ⟨h, g0, g1⟩))) ?_
  rintro r2 σ2 ⟨hI2, e2_0, e2_1⟩
  refine P_pop C dL_law_1086 rfl ?_
  refine P_goto C (tgt := 1381) dL_law_1087 (by decide +kernel) ?_
  exact next M σ2 _ (LS_s S hI2 rfl rfl) (RS_act hc hI e1_0 e1_1 e2_0 e2_1).1
set_option maxHeartbeats 4000000 in
theorem lwc_32 {M : Mx} {L : Nat} {xs : Nat → Int32} {j : Nat} {σ : Sg} {kn : Nat × Nat} {i : Int32} (S : LSt M L xs j σ kn) (hc : RELS σ) (hi : i.toInt = 6 * (j : Int)) (hL : 6 * j + 6 ≤ L) (h3 : L ≤ 3072) (next : ∀ M2 σ2 kn2, LSt M2 L xs (j + 1) σ2 kn2 → RELS σ2 → PS M2 1381 (lwv i) [] σ2 kn2) : PS M 1090 (lwv i) [] σ kn := by
  obtain ⟨C, hS, hI, hU, hN0, hw, hk1, hk2, hN⟩ := id S
  refine P_aload_n C dL_law_1090 1 rfl ?_
  refine P_cell C hS (n := 1) rfl dL_law_1091 dL_law_1092 dL_law_1093 dL_law_1094 dL_law_1095 rfl rfl (lw_in hi hL h3 (by decide +kernel) (by decide +kernel)) ?_
  refine P_ci (R_v (ci := 11) C kv_law_X11_trace (As := [.int (xs (i + 1).toNatClampNeg)]) rfl kd_0 rfl (fxl fx_0) (Nat.le_of_ble_eq_true rfl) dL_law_1096 (LS_k S (by omega) (Nat.le_of_ble_eq_true rfl) (Nat.le_of_ble_eq_true rfl)) (L3_X11_trace (Qk := fun r9 σ9 => INV (mV M) σ9 ∧ (FX (fun id => False) (fun _ _ => False) σ σ9) ∧ (F_X11_trace (xs (i + 1).toNatClampNeg) σ = (r9, σ9))) hI (fun _ _ h g0 g1 => ⟨h, g0, g1⟩))) ?_
  rintro r1 σ1 ⟨hI1, e1_0, e1_1⟩
  refine P_pop C dL_law_1099 rfl ?_
  refine P_aload_n C dL_law_1100 2 rfl ?_
  refine P_cell C hS (n := 1) rfl dL_law_1101 dL_law_1102 dL_law_1103 dL_law_1104 dL_law_1105 rfl rfl (lw_in hi hL h3 (by decide +kernel) (by decide +kernel)) ?_
  refine P_ci (R_v (ci := 12) C kv_law_X12_trace (As := [.int (xs (i + 1).toNatClampNeg)]) rfl kd_74 rfl (fxl fx_74) (Nat.le_of_ble_eq_true rfl) dL_law_1106 (by have h9 := LS_k S (by omega) (c := 0) (n := 0) (Nat.le_of_ble_eq_true rfl) (Nat.le_of_ble_eq_true rfl); exact h9) (L3_X12_trace (Qk := fun r9 σ9 => INV (mV M) σ9 ∧ (Fr [] [] σ1 σ9) ∧ (F_X12_trace (xs (i + 1).toNatClampNeg) σ1 = (r9, σ9))) hI1 (fun _ _ h g0 g1 => ⟨h, g0, g1⟩))) ?_
  rintro r2 σ2 ⟨hI2, e2_0, e2_1⟩
  refine P_pop C dL_law_1109 rfl ?_
  refine P_goto C (tgt := 1381) dL_law_1110 (by decide +kernel) ?_
  exact next M σ2 _ (LS_s S hI2 rfl rfl) (RS_trace hc hI e1_0 e1_1 e2_0 e2_1).1
set_option maxHeartbeats 4000000 in
theorem lwc_33 {M : Mx} {L : Nat} {xs : Nat → Int32} {j : Nat} {σ : Sg} {kn : Nat × Nat} {i : Int32} (S : LSt M L xs j σ kn) (hc : RELS σ) (hi : i.toInt = 6 * (j : Int)) (hL : 6 * j + 6 ≤ L) (h3 : L ≤ 3072) (next : ∀ M2 σ2 kn2, LSt M2 L xs (j + 1) σ2 kn2 → RELS σ2 → PS M2 1381 (lwv i) [] σ2 kn2) : PS M 1113 (lwv i) [] σ kn := by
  obtain ⟨C, hS, hI, hU, hN0, hw, hk1, hk2, hN⟩ := id S
  refine P_aload_n C dL_law_1113 1 rfl ?_
  refine P_cell C hS (n := 1) rfl dL_law_1114 dL_law_1115 dL_law_1116 dL_law_1117 dL_law_1118 rfl rfl (lw_in hi hL h3 (by decide +kernel) (by decide +kernel)) ?_
  refine P_cell C hS (n := 2) rfl dL_law_1119 dL_law_1120 dL_law_1121 dL_law_1122 dL_law_1123 rfl rfl (lw_in hi hL h3 (by decide +kernel) (by decide +kernel)) ?_
  refine P_ci (R_v (ci := 11) C kv_law_X11_taken (As := [.int (xs (i + 1).toNatClampNeg), .int (xs (i + 2).toNatClampNeg)]) rfl kd_0 rfl (fxl fx_0) (Nat.le_of_ble_eq_true rfl) dL_law_1124 (LS_k S (by omega) (Nat.le_of_ble_eq_true rfl) (Nat.le_of_ble_eq_true rfl)) (L3_X11_taken (Qk := fun r9 σ9 => INV (mV M) σ9 ∧ (FX (fun id => False) (fun _ _ => False) σ σ9) ∧ (F_X11_taken (xs (i + 1).toNatClampNeg) (xs (i + 2).toNatClampNeg) σ = (r9, σ9))) hI (fun _ _ h g0 g1 => ⟨h, g0, g1⟩))) ?_
  rintro r1 σ1 ⟨hI1, e1_0, e1_1⟩
  refine P_pop C dL_law_1127 rfl ?_
  refine P_aload_n C dL_law_1128 2 rfl ?_
  refine P_cell C hS (n := 1) rfl dL_law_1129 dL_law_1130 dL_law_1131 dL_law_1132 dL_law_1133 rfl rfl (lw_in hi hL h3 (by decide +kernel) (by decide +kernel)) ?_
  refine P_cell C hS (n := 2) rfl dL_law_1134 dL_law_1135 dL_law_1136 dL_law_1137 dL_law_1138 rfl rfl (lw_in hi hL h3 (by decide +kernel) (by decide +kernel)) ?_
  refine P_ci (R_v (ci := 12) C kv_law_X12_taken (As := [.int (xs (i + 1).toNatClampNeg), .int (xs (i + 2).toNatClampNeg)]) rfl kd_74 rfl (fxl fx_74) (Nat.le_of_ble_eq_true rfl) dL_law_1139 (by have h9 := LS_k S (by omega) (c := 0) (n := 0) (Nat.le_of_ble_eq_true rfl) (Nat.le_of_ble_eq_true rfl); exact h9) (L3_X12_taken (Qk := fun r9 σ9 => INV (mV M) σ9 ∧ (Fr [] [] σ1 σ9) ∧ (F_X12_taken (xs (i + 1).toNatClampNeg) (xs (i + 2).toNatClampNeg) σ1 = (r9, σ9))) hI1 (fun _ _ h g0 g1 => ⟨h, g0, g1⟩))) ?_
  rintro r2 σ2 ⟨hI2, e2_0, e2_1⟩
  refine P_pop C dL_law_1142 rfl ?_
  refine P_goto C (tgt := 1381) dL_law_1143 (by decide +kernel) ?_
  exact next M σ2 _ (LS_s S hI2 rfl rfl) (RS_taken hc hI e1_0 e1_1 e2_0 e2_1).1
set_option maxHeartbeats 4000000 in
theorem lwc_34 {M : Mx} {L : Nat} {xs : Nat → Int32} {j : Nat} {σ : Sg} {kn : Nat × Nat} {i : Int32} (S : LSt M L xs j σ kn) (hc : RELS σ) (hi : i.toInt = 6 * (j : Int)) (hL : 6 * j + 6 ≤ L) (h3 : L ≤ 3072) (next : ∀ M2 σ2 kn2, LSt M2 L xs (j + 1) σ2 kn2 → RELS σ2 → PS M2 1381 (lwv i) [] σ2 kn2) : PS M 1146 (lwv i) [] σ kn := by
  obtain ⟨C, hS, hI, hU, hN0, hw, hk1, hk2, hN⟩ := id S
  refine P_aload_n C dL_law_1146 1 rfl ?_
  refine P_cell C hS (n := 1) rfl dL_law_1147 dL_law_1148 dL_law_1149 dL_law_1150 dL_law_1151 rfl rfl (lw_in hi hL h3 (by decide +kernel) (by decide +kernel)) ?_
  refine P_ci (R_v (ci := 11) C kv_law_X11_count (As := [.int (xs (i + 1).toNatClampNeg)]) rfl kd_0 rfl (fxl fx_0) (Nat.le_of_ble_eq_true rfl) dL_law_1152 (LS_k S (by omega) (Nat.le_of_ble_eq_true rfl) (Nat.le_of_ble_eq_true rfl)) (L4_X11_count (Qk := fun r9 σ9 => INV (mV M) σ9 ∧ (FX (fun id => False) (fun _ _ => False) σ σ9) ∧ (F_X11_count (xs (i + 1).toNatClampNeg) σ = (r9, σ9))) hI (fun _ _ h g0 g1 => ⟨h, g0, g1⟩))) ?_
  rintro r1 σ1 ⟨hI1, e1_0, e1_1⟩
  refine P_pop C dL_law_1155 rfl ?_
  refine P_aload_n C dL_law_1156 2 rfl ?_
  refine P_cell C hS (n := 1) rfl dL_law_1157 dL_law_1158 dL_law_1159 dL_law_1160 dL_law_1161 rfl rfl (lw_in hi hL h3 (by decide +kernel) (by decide +kernel)) ?_
  refine P_ci (R_v (ci := 12) C kv_law_X12_count (As := [.int (xs (i + 1).toNatClampNeg)]) rfl kd_74 rfl (fxl fx_74) (Nat.le_of_ble_eq_true rfl) dL_law_1162 (by have h9 := LS_k S (by omega) (c := 0) (n := 0) (Nat.le_of_ble_eq_true rfl) (Nat.le_of_ble_eq_true rfl); exact h9) (L4_X12_count (Qk := fun r9 σ9 => INV (mV M) σ9 ∧ (Fr [] [] σ1 σ9) ∧ (F_X12_count (xs (i + 1).toNatClampNeg) σ1 = (r9, σ9))) hI1 (fun _ _ h g0 g1 => ⟨h, g0, g1⟩))) ?_
  rintro r2 σ2 ⟨hI2, e2_0, e2_1⟩
  refine P_pop C dL_law_1165 rfl ?_
  refine P_goto C (tgt := 1381) dL_law_1166 (by decide +kernel) ?_
  exact next M σ2 _ (LS_s S hI2 rfl rfl) (RS_count hc hI e1_0 e1_1 e2_0 e2_1).1
set_option maxHeartbeats 4000000 in
theorem lwc_35 {M : Mx} {L : Nat} {xs : Nat → Int32} {j : Nat} {σ : Sg} {kn : Nat × Nat} {i : Int32} (S : LSt M L xs j σ kn) (hc : RELS σ) (hi : i.toInt = 6 * (j : Int)) (hL : 6 * j + 6 ≤ L) (h3 : L ≤ 3072) (next : ∀ M2 σ2 kn2, LSt M2 L xs (j + 1) σ2 kn2 → RELS σ2 → PS M2 1381 (lwv i) [] σ2 kn2) : PS M 1169 (lwv i) [] σ kn := by
  obtain ⟨C, hS, hI, hU, hN0, hw, hk1, hk2, hN⟩ := id S
  refine P_aload_n C dL_law_1169 1 rfl ?_
  refine P_cell C hS (n := 1) rfl dL_law_1170 dL_law_1171 dL_law_1172 dL_law_1173 dL_law_1174 rfl rfl (lw_in hi hL h3 (by decide +kernel) (by decide +kernel)) ?_
  refine P_cell C hS (n := 2) rfl dL_law_1175 dL_law_1176 dL_law_1177 dL_law_1178 dL_law_1179 rfl rfl (lw_in hi hL h3 (by decide +kernel) (by decide +kernel)) ?_
  refine P_cell C hS (n := 3) rfl dL_law_1180 dL_law_1181 dL_law_1182 dL_law_1183 dL_law_1184 rfl rfl (lw_in hi hL h3 (by decide +kernel) (by decide +kernel)) ?_
  refine P_ci (R_v (ci := 11) C kv_law_X11_tape (As := [.int (xs (i + 1).toNatClampNeg), .int (xs (i + 2).toNatClampNeg), .int (xs (i + 3).toNatClampNeg)]) rfl kd_0 rfl (fxl fx_0) (Nat.le_of_ble_eq_true rfl) dL_law_1185 (LS_k S (by omega) (Nat.le_of_ble_eq_true rfl) (Nat.le_of_ble_eq_true rfl)) (L3_X11_tape (Qk := fun r9 σ9 => INV (mV M) σ9 ∧ (FX (fun id => (53 ≤ id ∧ id ≤ 63)) (fun id k => (52 ≤ id ∧ id ≤ 62)) σ σ9) ∧ (F_X11_tape (xs (i + 1).toNatClampNeg) (xs (i + 2).toNatClampNeg) (xs (i + 3).toNatClampNeg) σ = (r9, σ9))) hI (fun _ _ h g0 g1 => ⟨h, g0, g1⟩))) ?_
  rintro r1 σ1 ⟨hI1, e1_0, e1_1⟩
  refine P_pop C dL_law_1188 rfl ?_
  refine P_aload_n C dL_law_1189 2 rfl ?_
  refine P_cell C hS (n := 1) rfl dL_law_1190 dL_law_1191 dL_law_1192 dL_law_1193 dL_law_1194 rfl rfl (lw_in hi hL h3 (by decide +kernel) (by decide +kernel)) ?_
  refine P_cell C hS (n := 2) rfl dL_law_1195 dL_law_1196 dL_law_1197 dL_law_1198 dL_law_1199 rfl rfl (lw_in hi hL h3 (by decide +kernel) (by decide +kernel)) ?_
  refine P_cell C hS (n := 3) rfl dL_law_1200 dL_law_1201 dL_law_1202 dL_law_1203 dL_law_1204 rfl rfl (lw_in hi hL h3 (by decide +kernel) (by decide +kernel)) ?_
  refine P_ci (R_v (ci := 12) C kv_law_X12_tape (As := [.int (xs (i + 1).toNatClampNeg), .int (xs (i + 2).toNatClampNeg), .int (xs (i + 3).toNatClampNeg)]) rfl kd_74 rfl (fxl fx_74) (Nat.le_of_ble_eq_true rfl) dL_law_1205 (by have h9 := LS_k S (by omega) (c := 0) (n := 0) (Nat.le_of_ble_eq_true rfl) (Nat.le_of_ble_eq_true rfl); exact h9) (L3_X12_tape (Qk := fun r9 σ9 => INV (mV M) σ9 ∧ (Fr [171, 172, 173] [] σ1 σ9) ∧ (F_X12_tape (xs (i + 1).toNatClampNeg) (xs (i + 2).toNatClampNeg) (xs (i + 3).toNatClampNeg) σ1 = (r9, σ9))) hI1 (fun _ _ h g0 g1 => ⟨h, g0, g1⟩))) ?_
  rintro r2 σ2 ⟨hI2, e2_0, e2_1⟩
  refine P_pop C dL_law_1208 rfl ?_
  refine P_goto C (tgt := 1381) dL_law_1209 (by decide +kernel) ?_
  exact next M σ2 _ (LS_s S hI2 rfl rfl) (RS_tape hc hI e1_0 e1_1 e2_0 e2_1).1
set_option maxHeartbeats 4000000 in
theorem lwc_36 {M : Mx} {L : Nat} {xs : Nat → Int32} {j : Nat} {σ : Sg} {kn : Nat × Nat} {i : Int32} (S : LSt M L xs j σ kn) (hc : RELS σ) (hi : i.toInt = 6 * (j : Int)) (hL : 6 * j + 6 ≤ L) (h3 : L ≤ 3072) (next : ∀ M2 σ2 kn2, LSt M2 L xs (j + 1) σ2 kn2 → RELS σ2 → PS M2 1381 (lwv i) [] σ2 kn2) : PS M 1212 (lwv i) [] σ kn := by
  obtain ⟨C, hS, hI, hU, hN0, hw, hk1, hk2, hN⟩ := id S
  refine P_aload_n C dL_law_1212 1 rfl ?_
  refine P_cell C hS (n := 1) rfl dL_law_1213 dL_law_1214 dL_law_1215 dL_law_1216 dL_law_1217 rfl rfl (lw_in hi hL h3 (by decide +kernel) (by decide +kernel)) ?_
  refine P_cell C hS (n := 2) rfl dL_law_1218 dL_law_1219 dL_law_1220 dL_law_1221 dL_law_1222 rfl rfl (lw_in hi hL h3 (by decide +kernel) (by decide +kernel)) ?_
  refine P_cell C hS (n := 3) rfl dL_law_1223 dL_law_1224 dL_law_1225 dL_law_1226 dL_law_1227 rfl rfl (lw_in hi hL h3 (by decide +kernel) (by decide +kernel)) ?_
  refine P_i2l C dL_law_1228 ?_
  refine P_bipush C (v := 32) dL_law_1229 rfl ?_
  refine P_lshl C dL_law_1231 ?_
  refine P_cell C hS (n := 4) rfl dL_law_1232 dL_law_1233 dL_law_1234 dL_law_1235 dL_law_1236 rfl rfl (lw_in hi hL h3 (by decide +kernel) (by decide +kernel)) ?_
  refine P_i2l C dL_law_1237 ?_
  refine P_ldc2 C (v := 4294967295) (lawR_in _ (List.mem_of_getElem? (i := 0) rfl) _ (List.mem_of_getElem? (i := 6) rfl)) dL_law_1238 ?_
  refine P_land C dL_law_1241 ?_
  refine P_lor C dL_law_1242 ?_
  refine P_ci (R_v (ci := 11) C kv_law_X11_item (As := [.int (xs (i + 1).toNatClampNeg), .int (xs (i + 2).toNatClampNeg), .long (((xs (i + 3).toNatClampNeg).toInt64 <<< ((32 : Int32).toInt64 &&& 63)) ||| ((xs (i + 4).toNatClampNeg).toInt64 &&& 4294967295))]) rfl kd_0 rfl (fxl fx_0) (Nat.le_of_ble_eq_true rfl) dL_law_1243 (LS_k S (by omega) (Nat.le_of_ble_eq_true rfl) (Nat.le_of_ble_eq_true rfl)) (L3_X11_item (Qk := fun r9 σ9 => INV (mV M) σ9 ∧ (FX (fun id => (53 ≤ id ∧ id ≤ 63)) (fun _ _ => False) σ σ9) ∧ (F_X11_item (xs (i + 1).toNatClampNeg) (xs (i + 2).toNatClampNeg) (((xs (i + 3).toNatClampNeg).toInt64 <<< ((32 : Int32).toInt64 &&& 63)) ||| ((xs (i + 4).toNatClampNeg).toInt64 &&& 4294967295)) σ = (r9, σ9))) hI (fun _ _ h g0 g1 => ⟨h, g0, g1⟩))) ?_
  rintro r1 σ1 ⟨hI1, e1_0, e1_1⟩
  refine P_pop C dL_law_1246 rfl ?_
  refine P_aload_n C dL_law_1247 2 rfl ?_
  refine P_cell C hS (n := 1) rfl dL_law_1248 dL_law_1249 dL_law_1250 dL_law_1251 dL_law_1252 rfl rfl (lw_in hi hL h3 (by decide +kernel) (by decide +kernel)) ?_
  refine P_cell C hS (n := 2) rfl dL_law_1253 dL_law_1254 dL_law_1255 dL_law_1256 dL_law_1257 rfl rfl (lw_in hi hL h3 (by decide +kernel) (by decide +kernel)) ?_
  refine P_cell C hS (n := 3) rfl dL_law_1258 dL_law_1259 dL_law_1260 dL_law_1261 dL_law_1262 rfl rfl (lw_in hi hL h3 (by decide +kernel) (by decide +kernel)) ?_
  refine P_i2l C dL_law_1263 ?_
  refine P_bipush C (v := 32) dL_law_1264 rfl ?_
  refine P_lshl C dL_law_1266 ?_
  refine P_cell C hS (n := 4) rfl dL_law_1267 dL_law_1268 dL_law_1269 dL_law_1270 dL_law_1271 rfl rfl (lw_in hi hL h3 (by decide +kernel) (by decide +kernel)) ?_
  refine P_i2l C dL_law_1272 ?_
  refine P_ldc2 C (v := 4294967295) (lawR_in _ (List.mem_of_getElem? (i := 0) rfl) _ (List.mem_of_getElem? (i := 6) rfl)) dL_law_1273 ?_
  refine P_land C dL_law_1276 ?_
  refine P_lor C dL_law_1277 ?_
  refine P_ci (R_v (ci := 12) C kv_law_X12_item (As := [.int (xs (i + 1).toNatClampNeg), .int (xs (i + 2).toNatClampNeg), .long (((xs (i + 3).toNatClampNeg).toInt64 <<< ((32 : Int32).toInt64 &&& 63)) ||| ((xs (i + 4).toNatClampNeg).toInt64 &&& 4294967295))]) rfl kd_74 rfl (fxl fx_74) (Nat.le_of_ble_eq_true rfl) dL_law_1278 (by have h9 := LS_k S (by omega) (c := 0) (n := 0) (Nat.le_of_ble_eq_true rfl) (Nat.le_of_ble_eq_true rfl); exact h9) (L3_X12_item (Qk := fun r9 σ9 => INV (mV M) σ9 ∧ (Fr [173] [] σ1 σ9) ∧ (F_X12_item (xs (i + 1).toNatClampNeg) (xs (i + 2).toNatClampNeg) (((xs (i + 3).toNatClampNeg).toInt64 <<< ((32 : Int32).toInt64 &&& 63)) ||| ((xs (i + 4).toNatClampNeg).toInt64 &&& 4294967295)) σ1 = (r9, σ9))) hI1 (fun _ _ h g0 g1 => ⟨h, g0, g1⟩))) ?_
  rintro r2 σ2 ⟨hI2, e2_0, e2_1⟩
  refine P_pop C dL_law_1281 rfl ?_
  refine P_goto C (tgt := 1381) dL_law_1282 (by decide +kernel) ?_
  exact next M σ2 _ (LS_s S hI2 rfl rfl) (RS_item hc hI e1_0 e1_1 e2_0 e2_1).1
set_option maxHeartbeats 4000000 in
theorem lwc_37 {M : Mx} {L : Nat} {xs : Nat → Int32} {j : Nat} {σ : Sg} {kn : Nat × Nat} {i : Int32} (S : LSt M L xs j σ kn) (hc : RELS σ) (hi : i.toInt = 6 * (j : Int)) (hL : 6 * j + 6 ≤ L) (h3 : L ≤ 3072) (next : ∀ M2 σ2 kn2, LSt M2 L xs (j + 1) σ2 kn2 → RELS σ2 → PS M2 1381 (lwv i) [] σ2 kn2) : PS M 1285 (lwv i) [] σ kn := by
  obtain ⟨C, hS, hI, hU, hN0, hw, hk1, hk2, hN⟩ := id S
  refine P_aload_n C dL_law_1285 1 rfl ?_
  refine P_cell C hS (n := 1) rfl dL_law_1286 dL_law_1287 dL_law_1288 dL_law_1289 dL_law_1290 rfl rfl (lw_in hi hL h3 (by decide +kernel) (by decide +kernel)) ?_
  refine P_cell C hS (n := 2) rfl dL_law_1291 dL_law_1292 dL_law_1293 dL_law_1294 dL_law_1295 rfl rfl (lw_in hi hL h3 (by decide +kernel) (by decide +kernel)) ?_
  refine P_cl (R_v (ci := 11) C kv_law_X11_read (As := [.int (xs (i + 1).toNatClampNeg), .int (xs (i + 2).toNatClampNeg)]) rfl kd_0 rfl (fxl fx_0) (Nat.le_of_ble_eq_true rfl) dL_law_1296 (LS_k S (by omega) (Nat.le_of_ble_eq_true rfl) (Nat.le_of_ble_eq_true rfl)) (L3_X11_read (Qk := fun r9 σ9 => INV (mV M) σ9 ∧ (FX (fun id => False) (fun _ _ => False) σ σ9) ∧ (F_X11_read (xs (i + 1).toNatClampNeg) (xs (i + 2).toNatClampNeg) σ = (r9, σ9))) hI (fun _ _ h g0 g1 => ⟨h, g0, g1⟩))) ?_
  rintro r1 σ1 ⟨hI1, e1_0, e1_1⟩
  refine P_pop2 C dL_law_1299 rfl ?_
  refine P_aload_n C dL_law_1300 2 rfl ?_
  refine P_cell C hS (n := 1) rfl dL_law_1301 dL_law_1302 dL_law_1303 dL_law_1304 dL_law_1305 rfl rfl (lw_in hi hL h3 (by decide +kernel) (by decide +kernel)) ?_
  refine P_cell C hS (n := 2) rfl dL_law_1306 dL_law_1307 dL_law_1308 dL_law_1309 dL_law_1310 rfl rfl (lw_in hi hL h3 (by decide +kernel) (by decide +kernel)) ?_
  refine P_cl (R_v (ci := 12) C kv_law_X12_read (As := [.int (xs (i + 1).toNatClampNeg), .int (xs (i + 2).toNatClampNeg)]) rfl kd_74 rfl (fxl fx_74) (Nat.le_of_ble_eq_true rfl) dL_law_1311 (by have h9 := LS_k S (by omega) (c := 0) (n := 0) (Nat.le_of_ble_eq_true rfl) (Nat.le_of_ble_eq_true rfl); exact h9) (L3_X12_read (Qk := fun r9 σ9 => INV (mV M) σ9 ∧ (Fr [] [] σ1 σ9) ∧ (F_X12_read (xs (i + 1).toNatClampNeg) (xs (i + 2).toNatClampNeg) σ1 = (r9, σ9))) hI1 (fun _ _ h g0 g1 => ⟨h, g0, g1⟩))) ?_
  rintro r2 σ2 ⟨hI2, e2_0, e2_1⟩
  refine P_pop2 C dL_law_1314 rfl ?_
  refine P_goto C (tgt := 1381) dL_law_1315 (by decide +kernel) ?_
  exact next M σ2 _ (LS_s S hI2 rfl rfl) (RS_read hc hI e1_0 e1_1 e2_0 e2_1).1
set_option maxHeartbeats 4000000 in
theorem lwc_38 {M : Mx} {L : Nat} {xs : Nat → Int32} {j : Nat} {σ : Sg} {kn : Nat × Nat} {i : Int32} (S : LSt M L xs j σ kn) (hc : RELS σ) (hi : i.toInt = 6 * (j : Int)) (hL : 6 * j + 6 ≤ L) (h3 : L ≤ 3072) (next : ∀ M2 σ2 kn2, LSt M2 L xs (j + 1) σ2 kn2 → RELS σ2 → PS M2 1381 (lwv i) [] σ2 kn2) : PS M 1318 (lwv i) [] σ kn := by
  obtain ⟨C, hS, hI, hU, hN0, hw, hk1, hk2, hN⟩ := id S
  refine P_aload_n C dL_law_1318 1 rfl ?_
  refine P_cell C hS (n := 1) rfl dL_law_1319 dL_law_1320 dL_law_1321 dL_law_1322 dL_law_1323 rfl rfl (lw_in hi hL h3 (by decide +kernel) (by decide +kernel)) ?_
  refine P_cell C hS (n := 2) rfl dL_law_1324 dL_law_1325 dL_law_1326 dL_law_1327 dL_law_1328 rfl rfl (lw_in hi hL h3 (by decide +kernel) (by decide +kernel)) ?_
  refine P_cell C hS (n := 3) rfl dL_law_1329 dL_law_1330 dL_law_1331 dL_law_1332 dL_law_1333 rfl rfl (lw_in hi hL h3 (by decide +kernel) (by decide +kernel)) ?_
  refine P_cell C hS (n := 4) rfl dL_law_1334 dL_law_1335 dL_law_1336 dL_law_1337 dL_law_1338 rfl rfl (lw_in hi hL h3 (by decide +kernel) (by decide +kernel)) ?_
  refine P_cell C hS (n := 5) rfl dL_law_1339 dL_law_1340 dL_law_1341 dL_law_1342 dL_law_1343 rfl rfl (lw_in hi hL h3 (by decide +kernel) (by decide +kernel)) ?_
  refine P_ci (R_v (ci := 11) C kv_law_X11_shift (As := [.int (xs (i + 1).toNatClampNeg), .int (xs (i + 2).toNatClampNeg), .int (xs (i + 3).toNatClampNeg), .int (xs (i + 4).toNatClampNeg), .int (xs (i + 5).toNatClampNeg)]) rfl kd_0 rfl (fxl fx_0) (Nat.le_of_ble_eq_true rfl) dL_law_1344 (LS_k S (by omega) (Nat.le_of_ble_eq_true rfl) (Nat.le_of_ble_eq_true rfl)) (L3_X11_shift (Qk := fun r9 σ9 => INV (mV M) σ9 ∧ (FX (fun id => (53 ≤ id ∧ id ≤ 63)) (fun _ _ => False) σ σ9) ∧ (F_X11_shift (xs (i + 1).toNatClampNeg) (xs (i + 2).toNatClampNeg) (xs (i + 3).toNatClampNeg) (xs (i + 4).toNatClampNeg) (xs (i + 5).toNatClampNeg) σ = (r9, σ9))) hI (fun _ _ h g0 g1 => ⟨h, g0, g1⟩))) ?_
  rintro r1 σ1 ⟨hI1, e1_0, e1_1⟩
  refine P_pop C dL_law_1347 rfl ?_
  refine P_aload_n C dL_law_1348 2 rfl ?_
  refine P_cell C hS (n := 1) rfl dL_law_1349 dL_law_1350 dL_law_1351 dL_law_1352 dL_law_1353 rfl rfl (lw_in hi hL h3 (by decide +kernel) (by decide +kernel)) ?_
  refine P_cell C hS (n := 2) rfl dL_law_1354 dL_law_1355 dL_law_1356 dL_law_1357 dL_law_1358 rfl rfl (lw_in hi hL h3 (by decide +kernel) (by decide +kernel)) ?_
  refine P_cell C hS (n := 3) rfl dL_law_1359 dL_law_1360 dL_law_1361 dL_law_1362 dL_law_1363 rfl rfl (lw_in hi hL h3 (by decide +kernel) (by decide +kernel)) ?_
  refine P_cell C hS (n := 4) rfl dL_law_1364 dL_law_1365 dL_law_1366 dL_law_1367 dL_law_1368 rfl rfl (lw_in hi hL h3 (by decide +kernel) (by decide +kernel)) ?_
  refine P_cell C hS (n := 5) rfl dL_law_1369 dL_law_1370 dL_law_1371 dL_law_1372 dL_law_1373 rfl rfl (lw_in hi hL h3 (by decide +kernel) (by decide +kernel)) ?_
  refine P_ci (R_v (ci := 12) C kv_law_X12_shift (As := [.int (xs (i + 1).toNatClampNeg), .int (xs (i + 2).toNatClampNeg), .int (xs (i + 3).toNatClampNeg), .int (xs (i + 4).toNatClampNeg), .int (xs (i + 5).toNatClampNeg)]) rfl kd_74 rfl (fxl fx_74) (Nat.le_of_ble_eq_true rfl) dL_law_1374 (by have h9 := LS_k S (by omega) (c := 0) (n := 0) (Nat.le_of_ble_eq_true rfl) (Nat.le_of_ble_eq_true rfl); exact h9) (L3_X12_shift (Qk := fun r9 σ9 => INV (mV M) σ9 ∧ (Fr [173, 174] [] σ1 σ9) ∧ (F_X12_shift (xs (i + 1).toNatClampNeg) (xs (i + 2).toNatClampNeg) (xs (i + 3).toNatClampNeg) (xs (i + 4).toNatClampNeg) (xs (i + 5).toNatClampNeg) σ1 = (r9, σ9))) hI1 (fun _ _ h g0 g1 => ⟨h, g0, g1⟩))) ?_
  rintro r2 σ2 ⟨hI2, e2_0, e2_1⟩
  refine P_pop C dL_law_1377 rfl ?_
  refine P_goto C (tgt := 1381) dL_law_1378 (by decide +kernel) ?_
  exact next M σ2 _ (LS_s S hI2 rfl rfl) (RS_shift hc hI e1_0 e1_1 e2_0 e2_1).1
/-! the law's loop -/
set_option maxHeartbeats 4000000 in
theorem lw_turn {M : Mx} {L : Nat} {xs : Nat → Int32} {j : Nat} {σ : Sg} {kn : Nat × Nat} {i : Int32} (S : LSt M L xs j σ kn) (hc : RELS σ) (hi : i.toInt = 6 * (j : Int)) (hL : 6 * j + 6 ≤ L) (h3 : L ≤ 3072) (next : ∀ M2 σ2 kn2, LSt M2 L xs (j + 1) σ2 kn2 → RELS σ2 → PS M2 1381 (lwv i) [] σ2 kn2) : PS M 27 (lwv i) [] σ kn := by
  obtain ⟨C, hS, hI, hU, hN0, hw, hk1, hk2, hN⟩ := id S
  refine P_aload_n C dL_law_27 0 rfl ?_
  refine P_iload_n C dL_law_28 3 rfl ?_
  refine P_scld C hS (vp_in_iff.mpr ⟨by omega, by omega⟩) dL_law_29 ?_
  refine P_bipush C (v := 63) dL_law_30 rfl ?_
  refine P_iand C dL_law_32 ?_
  refine P_tsw C dL_law_33 1381 (by decide +kernel) (fun _ => next M σ kn ⟨C, hS, hI, hU, hN0, hw, by omega, by omega, hN⟩ hc) (by decide +kernel) (fun i off ho q1 => ?_)
  rcases i with _ | _ | _ | _ | _ | _ | _ | _ | _ | _ | _ | _ | _ | _ | _ | _ | _ | _ | _ | _ | _ | _ | _ | _ | _ | _ | _ | _ | _ | _ | _ | _ | _ | _ | _ | _ | _ | _ | _ | i
  · obtain rfl : (171 : Int) = off := Option.some.inj ho
    exact ⟨lwc_0 S hc hi hL h3 next, by decide +kernel⟩
  · obtain rfl : (204 : Int) = off := Option.some.inj ho
    exact ⟨lwc_1 S hc hi hL h3 next, by decide +kernel⟩
  · obtain rfl : (237 : Int) = off := Option.some.inj ho
    exact ⟨lwc_2 S hc hi hL h3 next, by decide +kernel⟩
  · obtain rfl : (280 : Int) = off := Option.some.inj ho
    exact ⟨lwc_3 S hc hi hL h3 next, by decide +kernel⟩
  · obtain rfl : (323 : Int) = off := Option.some.inj ho
    exact ⟨lwc_4 S hc hi hL h3 next, by decide +kernel⟩
  · obtain rfl : (356 : Int) = off := Option.some.inj ho
    exact ⟨lwc_5 S hc hi hL h3 next, by decide +kernel⟩
  · obtain rfl : (379 : Int) = off := Option.some.inj ho
    exact ⟨lwc_6 S hc hi hL h3 next, by decide +kernel⟩
  · obtain rfl : (392 : Int) = off := Option.some.inj ho
    exact ⟨lwc_7 S hc hi hL h3 next, by decide +kernel⟩
  · obtain rfl : (415 : Int) = off := Option.some.inj ho
    exact ⟨lwc_8 S hc hi hL h3 next, by decide +kernel⟩
  · obtain rfl : (428 : Int) = off := Option.some.inj ho
    exact ⟨lwc_9 S hc hi hL h3 next, by decide +kernel⟩
  · obtain rfl : (441 : Int) = off := Option.some.inj ho
    exact ⟨lwc_10 S hc hi hL h3 next, by decide +kernel⟩
  · obtain rfl : (464 : Int) = off := Option.some.inj ho
    exact ⟨lwc_11 S hc hi hL h3 next, by decide +kernel⟩
  · obtain rfl : (497 : Int) = off := Option.some.inj ho
    exact ⟨lwc_12 S hc hi hL h3 next, by decide +kernel⟩
  · obtain rfl : (510 : Int) = off := Option.some.inj ho
    exact ⟨lwc_13 S hc hi hL h3 next, by decide +kernel⟩
  · obtain rfl : (543 : Int) = off := Option.some.inj ho
    exact ⟨lwc_14 S hc hi hL h3 next, by decide +kernel⟩
  · obtain rfl : (576 : Int) = off := Option.some.inj ho
    exact ⟨lwc_15 S hc hi hL h3 next, by decide +kernel⟩
  · obtain rfl : (609 : Int) = off := Option.some.inj ho
    exact ⟨lwc_16 S hc hi hL h3 next, by decide +kernel⟩
  · obtain rfl : (662 : Int) = off := Option.some.inj ho
    exact ⟨lwc_17 S hc hi hL h3 next, by decide +kernel⟩
  · obtain rfl : (685 : Int) = off := Option.some.inj ho
    exact ⟨lwc_18 S hc hi hL h3 next, by decide +kernel⟩
  · obtain rfl : (718 : Int) = off := Option.some.inj ho
    exact ⟨lwc_19 S hc hi hL h3 next, by decide +kernel⟩
  · obtain rfl : (751 : Int) = off := Option.some.inj ho
    exact ⟨lwc_20 S hc hi hL h3 next, by decide +kernel⟩
  · obtain rfl : (794 : Int) = off := Option.some.inj ho
    exact ⟨lwc_21 S hc hi hL h3 next, by decide +kernel⟩
  · obtain rfl : (807 : Int) = off := Option.some.inj ho
    exact ⟨lwc_22 S hc hi hL h3 next, by decide +kernel⟩
  · obtain rfl : (850 : Int) = off := Option.some.inj ho
    exact ⟨lwc_23 S hc hi hL h3 next, by decide +kernel⟩
  · obtain rfl : (883 : Int) = off := Option.some.inj ho
    exact ⟨lwc_24 S hc hi hL h3 next, by decide +kernel⟩
  · obtain rfl : (906 : Int) = off := Option.some.inj ho
    exact ⟨lwc_25 S hc hi hL h3 next, by decide +kernel⟩
  · obtain rfl : (919 : Int) = off := Option.some.inj ho
    exact ⟨lwc_26 S hc hi hL h3 next, by decide +kernel⟩
  · obtain rfl : (942 : Int) = off := Option.some.inj ho
    exact ⟨lwc_27 S hc hi hL h3 next, by decide +kernel⟩
  · obtain rfl : (955 : Int) = off := Option.some.inj ho
    exact ⟨lwc_28 S hc hi hL h3 next, by decide +kernel⟩
  · obtain rfl : (988 : Int) = off := Option.some.inj ho
    exact ⟨lwc_29 S hc hi hL h3 next, by decide +kernel⟩
  · obtain rfl : (1001 : Int) = off := Option.some.inj ho
    exact ⟨lwc_30 S hc hi hL h3 next, by decide +kernel⟩
  · obtain rfl : (1014 : Int) = off := Option.some.inj ho
    exact ⟨lwc_31 S hc hi hL h3 next, by decide +kernel⟩
  · obtain rfl : (1057 : Int) = off := Option.some.inj ho
    exact ⟨lwc_32 S hc hi hL h3 next, by decide +kernel⟩
  · obtain rfl : (1080 : Int) = off := Option.some.inj ho
    exact ⟨lwc_33 S hc hi hL h3 next, by decide +kernel⟩
  · obtain rfl : (1113 : Int) = off := Option.some.inj ho
    exact ⟨lwc_34 S hc hi hL h3 next, by decide +kernel⟩
  · obtain rfl : (1136 : Int) = off := Option.some.inj ho
    exact ⟨lwc_35 S hc hi hL h3 next, by decide +kernel⟩
  · obtain rfl : (1179 : Int) = off := Option.some.inj ho
    exact ⟨lwc_36 S hc hi hL h3 next, by decide +kernel⟩
  · obtain rfl : (1252 : Int) = off := Option.some.inj ho
    exact ⟨lwc_37 S hc hi hL h3 next, by decide +kernel⟩
  · obtain rfl : (1285 : Int) = off := Option.some.inj ho
    exact ⟨lwc_38 S hc hi hL h3 next, by decide +kernel⟩
  · exact absurd ho (by simp)
set_option maxHeartbeats 4000000 in
theorem lw_loop {L : Nat} {xs : Nat → Int32} (h3 : L ≤ 3072) : ∀ (n : Nat) (M : Mx) (j : Nat) (σ : Sg) (kn : Nat × Nat) (i : Int32), LSt M L xs j σ kn → RELS σ → i.toInt = 6 * (j : Int) → 6 * j ≤ L → L < 6 * j + n → PS M 18 (lwv i) [] σ kn := by
  intro n
  induction n with
  | zero => intro M j σ kn i S hc hi hl hn; omega
  | succ n ih =>
    intro M j σ kn i S hc hi hl hn
    obtain ⟨C, hS, hI, hU, hN0, hw, hk1, hk2, hN⟩ := id S
    have eL := ofNat_i h3
    have e6 : (Int32.ofNat L - 6).toInt = (L : Int) - 6 := by
      rw [i_sub (by rw [eL]; show -2147483648 ≤ (L : Int) - 6; omega) (by rw [eL]; show (L : Int) - 6 ≤ 2147483647; omega), eL]
      rfl
    refine P_iload_n C dL_law_18 3 rfl ?_
    refine P_aload_n C dL_law_19 0 rfl ?_
    refine P_sclen C hS dL_law_20 ?_
    refine P_bipush C (v := 6) dL_law_21 rfl ?_
    refine P_isub C dL_law_23 ?_
    refine P_icmp_gt C (tgt := 1387) dL_law_24 (by decide +kernel) (fun _ => ?_) (fun h9 => ?_)
    · refine P_iconst C (v := 1) dL_law_1387 rfl ?_
      exact P_lw S (by omega)
    · have h8 : i.toInt ≤ (L : Int) - 6 := by
        have h7 := h9
        simp only [Int32.lt_iff_toInt_lt, Int32.le_iff_toInt_le] at h7
        rw [e6] at h7
        omega
      refine lw_turn S hc hi (by omega) h3 (fun M2 σ2 kn2 S2 hc2 => ?_)
      obtain ⟨C2, hS2, hI2, hU2, hN02, hw2, hk12, hk22, hN2⟩ := id S2
      refine P_iinc C2 (v := i + 6) (lv' := [(3, .int (i + 6)), (0, .ref 500), (1, .ref 0), (2, .ref 74)]) dL_law_1381 3 rfl rfl (by rw [hN2]; decide) rfl ?_
      refine P_sub (lv' := lwv (i + 6)) [1, 2, 3, 0] rfl ?_
      refine P_goto C2 (tgt := 18) dL_law_1384 (by decide +kernel) ?_
      have ei : (i + 6).toInt = 6 * ((j + 1 : Nat) : Int) := by
        rw [i_add (by show -2147483648 ≤ i.toInt + 6; omega) (by show i.toInt + 6 ≤ 2147483647; omega)]
        show i.toInt + 6 = _
        omega
      exact ih M2 (j + 1) σ2 kn2 (i + 6) S2 hc2 ei (by omega) (by omega)
/-! the world that the constructors leave -/
noncomputable def stZ : Nat → Int32 := fun _ => 0
noncomputable def stL : Nat → Int32 := upd (upd (upd (upd (upd (upd (upd (upd (upd (upd (upd (upd (upd (upd (upd (upd (upd (upd (upd (fun _ => 0) 0 (102 : Int32)) 1 (97 : Int32)) 2 (115 : Int32)) 3 (116 : Int32)) 4 (115 : Int32)) 5 (108 : Int32)) 6 (111 : Int32)) 7 (119 : Int32)) 8 (103 : Int32)) 9 (97 : Int32)) 10 (112 : Int32)) 11 (116 : Int32)) 12 (105 : Int32)) 13 (114 : Int32)) 14 (101 : Int32)) 15 (108 : Int32)) 16 (111 : Int32)) 17 (110 : Int32)) 18 (103 : Int32)
noncomputable def stS : Nat → Int32 := upd (upd (upd (upd (upd (upd (fun _ => 0) 0 (-1 : Int32)) 1 (-1 : Int32)) 2 (-1 : Int32)) 3 (-1 : Int32)) 4 (-1 : Int32)) 5 (-1 : Int32)
noncomputable def stF : Nat → Int32 := fun j => if j = 0 then 2 else if j = 1 then 1 else if j = 2 then 60 else 0
noncomputable def stM : Nat → Int32 := fun j => if j = 12 then -1 else if j = 28 then -1 else if j = 50 then -1 else 0
noncomputable def stC : Nat → Int32 := fun j => if j = 11 then -1 else 0
noncomputable def stT : Nat → Int32 := fun j => if j = 1 then -1 else 0
noncomputable def stI : Nat → Nat → Int32 := fun id => if id = 69 then stF else if id = 74 then stM else if id = 127 then stL else if id = 171 then stS else if id = 1 then stC else if id = 17 then stC else if id = 33 then stC else if id = 52 then stT else if id = 54 then stT else if id = 56 then stT else if id = 58 then stT else if id = 60 then stT else if id = 62 then stT else stZ
noncomputable def stRn : Nat → Option Nat := fun _ => none
noncomputable def stRc : Nat → Option Nat := fun j => if j = 10 then some 69 else none
noncomputable def stR : Nat → Nat → Option Nat := fun id => if id = 1 then stRc else if id = 17 then stRc else if id = 33 then stRc else stRn
noncomputable def st0 : Sg := (stI, fun _ _ => 0, stR)
/-- the cells' addresses -/
noncomputable def stV (V : Vx) (Q : List Nat) : Vx := (vD V, vC V, vA V, (fun id => if id < 175 then Q.getD id 0 else va V id), [], vX V)
theorem stV_hi {V : Vx} {Q : List Nat} {id : Nat} (h : 175 ≤ id) : va (stV V Q) id = va V id := by
  show (if id < 175 then Q.getD id 0 else va V id) = _
  rw [if_neg (by omega)]
theorem stV_fix {V : Vx} {Q : List Nat} : ids (stV V Q) = fixL := List.append_nil _
noncomputable def stO : List Nat := [0, 1, 2, 3, 4, 5, 6, 7, 8, 9, 10, 11, 12, 13, 14, 15, 16, 17, 18, 19, 20, 21, 22, 23, 24, 25, 26, 27, 28, 29, 30, 31, 32, 33, 34, 35, 36, 37, 38, 39, 40, 41, 42, 43, 44, 45, 46, 47, 48, 49, 50, 51, 64, 65, 66, 67, 68, 69, 70, 71, 72, 73, 52, 53, 54, 55, 56, 57, 58, 59, 60, 61, 62, 63, 74, 103, 104, 105, 106, 107, 108, 109, 110, 116, 117, 118, 119, 120, 121, 122, 123, 127, 129, 131, 132, 134, 135, 136, 137, 138, 139, 140, 142, 143, 144, 147, 148, 156, 157, 158, 159, 160, 161, 162, 163, 164, 165, 166, 167, 168, 170, 171, 172, 173, 174]
theorem stO_perm : stO.Perm fixL := by decide +kernel
/-- cells, each as good as what the raw world holds at its address -/
theorem st_GH {V : Vx} {Q : List Nat} {ω : RWd} {H : Heap} {L : List (Nat × va_E)} (hG : GRH V ω H) (hm : ∀ x ∈ L, x.1 ∈ ω.1 ∧ ω.2 x.1 = x.2) (hn : (L.map (fun x => x.1)).Nodup) (hL : L.map (fun x => x.1) = stO.map (fun id => va (stV V Q) id)) (hE : ∀ y ∈ stO.zip L, EQV y.2.2 (ct (stV V Q) st0 y.1)) : GH (stV V Q) st0 H := by
  have hlen : L.length = stO.length := by
    have := congrArg List.length hL
    rwa [List.length_map, List.length_map] at this
  have hat : ∀ x ∈ L, va_at (vD V) vwCl x H ∧ vA V x.1 := fun x hx => by
    obtain ⟨h1, h2⟩ := hm x hx
    obtain ⟨i, hi⟩ := rc_at h1
    rw [h2] at hi
    exact ⟨hG.1 i _ hi, hG.2.2 i _ hi⟩
  have hall : ∀ id ∈ fixL, va_at (vD V) vwCl (va (stV V Q) id, ct (stV V Q) st0 id) H ∧ vA V (va (stV V Q) id) := fun id hid => by
    obtain ⟨i, hi⟩ := List.getElem?_of_mem (stO_perm.mem_iff.mpr hid)
    obtain ⟨l1, e1⟩ := List.getElem?_eq_some_iff.mp hi
    have l2 : i < L.length := by omega
    have e2 : L[i]? = some L[i] := List.getElem?_eq_getElem l2
    have e3 : (L[i]).1 = va (stV V Q) id := by
      have h1 : (L.map (fun x => x.1))[i]? = some (L[i]).1 := by rw [List.getElem?_map, e2]; rfl
      have h2 : (stO.map (fun id => va (stV V Q) id))[i]? = some (va (stV V Q) id) := by rw [List.getElem?_map, hi]; rfl
      rw [hL, h2] at h1
      exact (Option.some.inj h1).symm
    have hz : (id, L[i]) ∈ stO.zip L := by
      refine List.mem_of_getElem? (i := i) ?_
      rw [List.getElem?_zip_eq_some]
      exact ⟨hi, e2⟩
    obtain ⟨a1, a2⟩ := hat _ (List.mem_of_getElem? e2)
    have k := hE _ hz (vD V) (L[i]).1 H a1
    rw [e3] at k a2
    exact ⟨k, a2⟩
  refine ⟨fun k q hq => ?_, va_D_of ?_ (fun q hq => ?_), fun f hf hk => ?_⟩
  · obtain ⟨id, hi, rfl⟩ := List.mem_map.mp (List.mem_of_getElem? hq)
    rw [stV_fix] at hi
    exact (hall id hi).1
  · unfold cells
    rw [List.map_map, stV_fix]
    rw [hL] at hn
    exact (stO_perm.map (fun id => va (stV V Q) id)).nodup_iff.mp hn
  · obtain ⟨id, hi, rfl⟩ := List.mem_map.mp hq
    rw [stV_fix] at hi
    exact (hall id hi).2
  · rw [stV_fix] at hf ⊢
    exact (show ∀ f ∈ fixL, kd f = (12, 0) → f + 1 ∈ fixL ∧ f + 2 ∈ fixL ∧ f + 3 ∈ fixL ∧ f + 4 ∈ fixL by decide +kernel) f hf hk
/-! each cell of it -/
noncomputable def fl2 (g : Nat → Nat → Value) : Nat → List Nat → List Value
  | _, [] => []
  | n, c :: cs => g n c :: fl2 g (n + 1) cs
theorem fl2_eq (g : Nat → Nat → Value) : ∀ (l : List Nat) (n : Nat), l.mapIdx (fun k c => g (k + n) c) = fl2 g n l := by
  intro l
  induction l with
  | nil => intro n; rfl
  | cons c cs ih =>
    intro n
    rw [List.mapIdx_cons]
    show g (0 + n) c :: _ = g n c :: fl2 g (n + 1) cs
    rw [Nat.zero_add, ← ih (n + 1)]
    congr 1
    congr 1
    funext i d
    show g (i + 1 + n) d = g (i + (n + 1)) d
    rw [Nat.add_assoc, Nat.add_comm 1 n]
theorem flds_2 {ad : Nat → Nat} {id ci : Nat} {f : Nat → Int32} {r : Nat → Option Nat} : flds ad id f r ci = fl2 (fun k c => fv ad id f r k c) 0 (tplT.getD ci []) := by
  rw [← fl2_eq]
  rfl
set_option maxRecDepth 100000 in
set_option maxHeartbeats 4000000 in
theorem flds74 (ad : Nat → Nat) : flds ad 74 stM stRn 12 = [.int (0 : Int32), .int (0 : Int32), .int (0 : Int32), .ref (ad 103), .ref (ad 104), .ref (ad 105), .ref (ad 106), .ref (ad 107), .ref (ad 108), .ref (ad 109), .ref (ad 110), .int (0 : Int32), .int (-1 : Int32), .int (0 : Int32), .int (0 : Int32), .int (0 : Int32), .ref (ad 116), .ref (ad 117), .ref (ad 118), .ref (ad 119), .ref (ad 120), .ref (ad 121), .ref (ad 122), .ref (ad 123), .int (0 : Int32), .int (0 : Int32), .int (0 : Int32), .ref (ad 127), .int (-1 : Int32), .ref (ad 129), .int (0 : Int32), .ref (ad 131), .ref (ad 132), .int (0 : Int32), .ref (ad 134), .ref (ad 135), .ref (ad 136), .ref (ad 137), .ref (ad 138), .ref (ad 139), .ref (ad 140), .int (0 : Int32), .ref (ad 142), .ref (ad 143), .ref (ad 144), .int (0 : Int32), .int (0 : Int32), .ref (ad 147), .ref (ad 148), .int (0 : Int32), .int (-1 : Int32), .int (0 : Int32), .int (0 : Int32), .int (0 : Int32), .int (0 : Int32), .int (0 : Int32), .ref (ad 156), .ref (ad 157), .ref (ad 158), .ref (ad 159), .ref (ad 160), .ref (ad 161), .ref (ad 162), .ref (ad 163), .ref (ad 164), .ref (ad 165), .ref (ad 166), .ref (ad 167), .ref (ad 168), .int (0 : Int32), .ref (ad 170), .ref (ad 171), .ref (ad 172), .ref (ad 173), .ref (ad 174)] := by
  rw [flds_2]
  rfl
noncomputable def stQ (h0 x1 x3 x4 x5 x6 x7 x8 x9 x10 x11 x12 x13 x14 x15 x16 x17 x23 x25 x26 x27 x28 x29 x30 x31 x32 x33 x34 x35 x36 x37 x38 x39 x45 x47 x48 x49 x50 x51 x52 x53 x54 x55 x56 x57 x58 x59 x60 x61 x70 x80 x90 x97 x99 x105 x112 x119 x126 x128 x129 x130 x131 x143 x145 x151 x153 x159 x161 x167 x169 x175 x177 x183 x185 h1 m10 m17 m24 m31 m38 m45 m52 m59 m81 m88 m95 m102 m109 m116 m123 m130 m146 m213 m223 m230 m240 m247 m254 m261 m268 m275 m282 m292 m299 m306 m319 m326 m354 m361 m368 m375 m382 m389 m396 m403 m410 m417 m424 m431 m438 m448 m455 m480 m487 m494 : Nat) : List Nat := [h0, x1, x3, x4, x5, x6, x7, x8, x9, x10, x11, x12, x13, x14, x15, x16, x17, x23, x25, x26, x27, x28, x29, x30, x31, x32, x33, x34, x35, x36, x37, x38, x39, x45, x47, x48, x49, x50, x51, x52, x53, x54, x55, x56, x57, x58, x59, x60, x61, x70, x80, x90, x143, x145, x151, x153, x159, x161, x167, x169, x175, x177, x183, x185, x97, x99, x105, x112, x119, x126, x128, x129, x130, x131, h1, 0, 0, 0, 0, 0, 0, 0, 0, 0, 0, 0, 0, 0, 0, 0, 0, 0, 0, 0, 0, 0, 0, 0, 0, 0, 0, 0, 0, m10, m17, m24, m31, m38, m45, m52, m59, 0, 0, 0, 0, 0, m81, m88, m95, m102, m109, m116, m123, m130, 0, 0, 0, m146, 0, m213, 0, m223, m230, 0, m240, m247, m254, m261, m268, m275, m282, 0, m292, m299, m306, 0, 0, m319, m326, 0, 0, 0, 0, 0, 0, 0, m354, m361, m368, m375, m382, m389, m396, m403, m410, m417, m424, m431, m438, 0, m448, m455, m480, m487, m494]
noncomputable def stC0 (V : Vx) (h0 x1 x3 x4 x5 x6 x7 x8 x9 x10 x11 x12 x13 x14 x15 x16 x17 x23 x25 x26 x27 x28 x29 x30 x31 x32 x33 x34 x35 x36 x37 x38 x39 x45 x47 x48 x49 x50 x51 x52 x53 x54 x55 x56 x57 x58 x59 x60 x61 x70 x80 x90 x97 x99 x105 x112 x119 x126 x128 x129 x130 x131 x143 x145 x151 x153 x159 x161 x167 x169 x175 x177 x183 x185 h1 m10 m17 m24 m31 m38 m45 m52 m59 m81 m88 m95 m102 m109 m116 m123 m130 m146 m213 m223 m230 m240 m247 m254 m261 m268 m275 m282 m292 m299 m306 m319 m326 m354 m361 m368 m375 m382 m389 m396 m403 m410 m417 m424 m431 m438 m448 m455 m480 m487 m494 : Nat) : List (Nat × va_E) := [(h0, .inr (11, [.ref x1, .ref x23, .ref x45, .int (0 : Int32), .ref x70, .int (0 : Int32), .ref x80, .int (0 : Int32), .ref x90, .ref x97, .ref x105, .ref x112, .ref x119])), (x1, .inr (1, [.ref x3, .int (0 : Int32), .ref x4, .int (0 : Int32), .ref x5, .ref x6, .ref x7, .ref x8, .ref x9, .int (0 : Int32), .ref x126, .int (-1 : Int32), .ref x10, .ref x12, .ref x14, .ref x16, .ref x17])), (x3, .inl (vC V 4, 6, .inr (.inr (.inr (.inr (fun _ => none)))))), (x4, .inl (vC V 0, (6, .inl (fun _ => 0)))), (x5, .inl (vC V 0, (6, .inl (fun _ => 0)))), (x6, .inl (vC V 0, (6, .inl (fun _ => 0)))), (x7, .inl (vC V 0, (6, .inl (fun _ => 0)))), (x8, .inl (vC V 0, (6, .inl (fun _ => 0)))), (x9, .inl (vC V 0, (24, .inl (fun _ => 0)))), (x10, .inr (5, [.ref x11, .int (0 : Int32)])), (x11, .inl (vC V 0, (18, .inl (fun _ => 0)))), (x12, .inr (5, [.ref x13, .int (0 : Int32)])), (x13, .inl (vC V 0, (10, .inl (fun _ => 0)))), (x14, .inr (5, [.ref x15, .int (0 : Int32)])), (x15, .inl (vC V 0, (8, .inl (fun _ => 0)))), (x16, .inl (vC V 0, (6, .inl (fun _ => 0)))), (x17, .inl (vC V 0, (6, .inl (fun _ => 0)))), (x23, .inr (1, [.ref x25, .int (0 : Int32), .ref x26, .int (0 : Int32), .ref x27, .ref x28, .ref x29, .ref x30, .ref x31, .int (0 : Int32), .ref x126, .int (-1 : Int32), .ref x32, .ref x34, .ref x36, .ref x38, .ref x39])), (x25, .inl (vC V 4, 6, .inr (.inr (.inr (.inr (fun _ => none)))))), (x26, .inl (vC V 0, (6, .inl (fun _ => 0)))), (x27, .inl (vC V 0, (6, .inl (fun _ => 0)))), (x28, .inl (vC V 0, (6, .inl (fun _ => 0)))), (x29, .inl (vC V 0, (6, .inl (fun _ => 0)))), (x30, .inl (vC V 0, (6, .inl (fun _ => 0)))), (x31, .inl (vC V 0, (24, .inl (fun _ => 0)))), (x32, .inr (5, [.ref x33, .int (0 : Int32)])), (x33, .inl (vC V 0, (18, .inl (fun _ => 0)))), (x34, .inr (5, [.ref x35, .int (0 : Int32)])), (x35, .inl (vC V 0, (10, .inl (fun _ => 0)))), (x36, .inr (5, [.ref x37, .int (0 : Int32)])), (x37, .inl (vC V 0, (8, .inl (fun _ => 0)))), (x38, .inl (vC V 0, (6, .inl (fun _ => 0)))), (x39, .inl (vC V 0, (6, .inl (fun _ => 0)))), (x45, .inr (1, [.ref x47, .int (0 : Int32), .ref x48, .int (0 : Int32), .ref x49, .ref x50, .ref x51, .ref x52, .ref x53, .int (0 : Int32), .ref x126, .int (-1 : Int32), .ref x54, .ref x56, .ref x58, .ref x60, .ref x61])), (x47, .inl (vC V 4, 6, .inr (.inr (.inr (.inr (fun _ => none)))))), (x48, .inl (vC V 0, (6, .inl (fun _ => 0)))), (x49, .inl (vC V 0, (6, .inl (fun _ => 0)))), (x50, .inl (vC V 0, (6, .inl (fun _ => 0)))), (x51, .inl (vC V 0, (6, .inl (fun _ => 0)))), (x52, .inl (vC V 0, (6, .inl (fun _ => 0)))), (x53, .inl (vC V 0, (24, .inl (fun _ => 0)))), (x54, .inr (5, [.ref x55, .int (0 : Int32)])), (x55, .inl (vC V 0, (18, .inl (fun _ => 0)))), (x56, .inr (5, [.ref x57, .int (0 : Int32)])), (x57, .inl (vC V 0, (10, .inl (fun _ => 0)))), (x58, .inr (5, [.ref x59, .int (0 : Int32)])), (x59, .inl (vC V 0, (8, .inl (fun _ => 0)))), (x60, .inl (vC V 0, (6, .inl (fun _ => 0)))), (x61, .inl (vC V 0, (6, .inl (fun _ => 0)))), (x70, .inl (vC V 5, 6, .inr (.inr (.inr (.inr (fun _ => none)))))), (x80, .inl (vC V 1, (100, .inl (fun _ => 0)))), (x90, .inl (vC V 6, 6, .inr (.inr (.inr (.inr (va_up (va_up (va_up (va_up (va_up (va_up (fun _ => none) 0 (some x143)) 1 (some x151)) 2 (some x159)) 3 (some x167)) 4 (some x175)) 5 (some x183))))))), (x97, .inr (5, [.ref x99, .int (0 : Int32)])), (x99, .inl (vC V 0, (20, .inl (fun _ => 0)))), (x105, .inl (vC V 0, (5, .inl (fun _ => 0)))), (x112, .inl (vC V 0, (5, .inl (fun _ => 0)))), (x119, .inl (vC V 0, (6, .inl (fun _ => 0)))), (x126, .inr (2, [.int (2 : Int32), .int (1 : Int32), .int (60 : Int32), .ref x128, .int (0 : Int32), .ref x129, .ref x130, .ref x131, .int (0 : Int32), .null, .int (0 : Int32), .int (0 : Int32)])), (x128, .inl (vC V 0, (100, .inl (fun _ => 0)))), (x129, .inl (vC V 0, (10, .inl (fun _ => 0)))), (x130, .inl (vC V 0, (10, .inl (fun _ => 0)))), (x131, .inl (vC V 0, (10, .inl (fun _ => 0)))), (x143, .inr (9, [.ref x145, .int (-1 : Int32), .int (0 : Int32)])), (x145, .inl (vC V 3, (60, .inr (.inl (fun _ => 0))))), (x151, .inr (9, [.ref x153, .int (-1 : Int32), .int (0 : Int32)])), (x153, .inl (vC V 3, (60, .inr (.inl (fun _ => 0))))), (x159, .inr (9, [.ref x161, .int (-1 : Int32), .int (0 : Int32)])), (x161, .inl (vC V 3, (60, .inr (.inl (fun _ => 0))))), (x167, .inr (9, [.ref x169, .int (-1 : Int32), .int (0 : Int32)])), (x169, .inl (vC V 3, (60, .inr (.inl (fun _ => 0))))), (x175, .inr (9, [.ref x177, .int (-1 : Int32), .int (0 : Int32)])), (x177, .inl (vC V 3, (60, .inr (.inl (fun _ => 0))))), (x183, .inr (9, [.ref x185, .int (-1 : Int32), .int (0 : Int32)])), (x185, .inl (vC V 3, (60, .inr (.inl (fun _ => 0))))), (h1, .inr (12, [.int (0 : Int32), .int (0 : Int32), .int (0 : Int32), .ref m10, .ref m17, .ref m24, .ref m31, .ref m38, .ref m45, .ref m52, .ref m59, .int (0 : Int32), .int (-1 : Int32), .int (0 : Int32), .int (0 : Int32), .int (0 : Int32), .ref m81, .ref m88, .ref m95, .ref m102, .ref m109, .ref m116, .ref m123, .ref m130, .int (0 : Int32), .int (0 : Int32), .int (0 : Int32), .ref m146, .int (-1 : Int32), .ref m213, .int (0 : Int32), .ref m223, .ref m230, .int (0 : Int32), .ref m240, .ref m247, .ref m254, .ref m261, .ref m268, .ref m275, .ref m282, .int (0 : Int32), .ref m292, .ref m299, .ref m306, .int (0 : Int32), .int (0 : Int32), .ref m319, .ref m326, .int (0 : Int32), .int (-1 : Int32), .int (0 : Int32), .int (0 : Int32), .int (0 : Int32), .int (0 : Int32), .int (0 : Int32), .ref m354, .ref m361, .ref m368, .ref m375, .ref m382, .ref m389, .ref m396, .ref m403, .ref m410, .ref m417, .ref m424, .ref m431, .ref m438, .int (0 : Int32), .ref m448, .ref m455, .ref m480, .ref m487, .ref m494])), (m10, .inl (vC V 0, (6, .inl (fun _ => 0)))), (m17, .inl (vC V 0, (6, .inl (fun _ => 0)))), (m24, .inl (vC V 0, (6, .inl (fun _ => 0)))), (m31, .inl (vC V 0, (6, .inl (fun _ => 0)))), (m38, .inl (vC V 0, (6, .inl (fun _ => 0)))), (m45, .inl (vC V 0, (6, .inl (fun _ => 0)))), (m52, .inl (vC V 0, (24, .inl (fun _ => 0)))), (m59, .inl (vC V 0, (6, .inl (fun _ => 0)))), (m81, .inl (vC V 0, (100, .inl (fun _ => 0)))), (m88, .inl (vC V 0, (6, .inl (fun _ => 0)))), (m95, .inl (vC V 0, (60, .inl (fun _ => 0)))), (m102, .inl (vC V 0, (60, .inl (fun _ => 0)))), (m109, .inl (vC V 0, (60, .inl (fun _ => 0)))), (m116, .inl (vC V 0, (60, .inl (fun _ => 0)))), (m123, .inl (vC V 0, (600, .inl (fun _ => 0)))), (m130, .inl (vC V 0, (101, .inl (fun _ => 0)))), (m146, .inl (vC V 0, (19, .inl (upd (upd (upd (upd (upd (upd (upd (upd (upd (upd (upd (upd (upd (upd (upd (upd (upd (upd (upd (fun _ => 0) 0 (102 : Int32)) 1 (97 : Int32)) 2 (115 : Int32)) 3 (116 : Int32)) 4 (115 : Int32)) 5 (108 : Int32)) 6 (111 : Int32)) 7 (119 : Int32)) 8 (103 : Int32)) 9 (97 : Int32)) 10 (112 : Int32)) 11 (116 : Int32)) 12 (105 : Int32)) 13 (114 : Int32)) 14 (101 : Int32)) 15 (108 : Int32)) 16 (111 : Int32)) 17 (110 : Int32)) 18 (103 : Int32))))), (m213, .inl (vC V 2, (100, .inl (fun _ => 0)))), (m223, .inl (vC V 0, (6, .inl (fun _ => 0)))), (m230, .inl (vC V 0, (6, .inl (fun _ => 0)))), (m240, .inl (vC V 0, (6, .inl (fun _ => 0)))), (m247, .inl (vC V 0, (6, .inl (fun _ => 0)))), (m254, .inl (vC V 0, (6, .inl (fun _ => 0)))), (m261, .inl (vC V 0, (6, .inl (fun _ => 0)))), (m268, .inl (vC V 0, (6, .inl (fun _ => 0)))), (m275, .inl (vC V 0, (6, .inl (fun _ => 0)))), (m282, .inl (vC V 0, (6, .inl (fun _ => 0)))), (m292, .inl (vC V 0, (6, .inl (fun _ => 0)))), (m299, .inl (vC V 0, (6, .inl (fun _ => 0)))), (m306, .inl (vC V 0, (6, .inl (fun _ => 0)))), (m319, .inl (vC V 0, (10, .inl (fun _ => 0)))), (m326, .inl (vC V 0, (8, .inl (fun _ => 0)))), (m354, .inl (vC V 0, (6, .inl (fun _ => 0)))), (m361, .inl (vC V 0, (6, .inl (fun _ => 0)))), (m368, .inl (vC V 0, (6, .inl (fun _ => 0)))), (m375, .inl (vC V 0, (6, .inl (fun _ => 0)))), (m382, .inl (vC V 0, (6, .inl (fun _ => 0)))), (m389, .inl (vC V 0, (6, .inl (fun _ => 0)))), (m396, .inl (vC V 0, (6, .inl (fun _ => 0)))), (m403, .inl (vC V 0, (24, .inl (fun _ => 0)))), (m410, .inl (vC V 0, (6, .inl (fun _ => 0)))), (m417, .inl (vC V 0, (6, .inl (fun _ => 0)))), (m424, .inl (vC V 0, (6, .inl (fun _ => 0)))), (m431, .inl (vC V 0, (10, .inl (fun _ => 0)))), (m438, .inl (vC V 0, (8, .inl (fun _ => 0)))), (m448, .inl (vC V 0, (20, .inl (fun _ => 0)))), (m455, .inl (vC V 0, (6, .inl (upd (upd (upd (upd (upd (upd (fun _ => 0) 0 (-1 : Int32)) 1 (-1 : Int32)) 2 (-1 : Int32)) 3 (-1 : Int32)) 4 (-1 : Int32)) 5 (-1 : Int32))))), (m480, .inl (vC V 0, (6, .inl (fun _ => 0)))), (m487, .inl (vC V 3, (360, .inr (.inl (fun _ => 0))))), (m494, .inl (vC V 3, (60, .inr (.inl (fun _ => 0)))))]
theorem stI_z {id : Nat} (h : id ∉ [69, 74, 127, 171, 1, 17, 33, 52, 54, 56, 58, 60, 62]) : stI id = fun _ => 0 := by
  simp only [List.mem_cons, List.not_mem_nil, or_false, not_or] at h
  obtain ⟨h1, h2, h3, h4, h5, h6, h7, h8, h9, h10, h11, h12, h13⟩ := h
  unfold stI
  rw [if_neg h1, if_neg h2, if_neg h3, if_neg h4, if_neg h5, if_neg h6, if_neg h7, if_neg h8, if_neg h9, if_neg h10, if_neg h11, if_neg h12, if_neg h13]
  rfl
theorem stc_i {V : Vx} {Q : List Nat} {a t n : Nat} (h : kd a = (t, n)) (ht : t < 3) (hf : stI a = fun _ => 0) : ct (stV V Q) st0 a = .inl (vC V t, n, .inl (fun _ => 0)) := by
  rw [ct_i h ht, ← hf]; rfl
theorem stc_l {V : Vx} {Q : List Nat} {a n : Nat} (h : kd a = (3, n)) : ct (stV V Q) st0 a = .inl (vC V 3, n, .inr (.inl (fun _ => 0))) := by
  rw [ct_l h]; rfl
noncomputable def stP_0 (V : Vx) (Q : List Nat) : List (Nat × (Nat × va_E)) := [(0, ((Q.getD 0 0), .inr (11, [.ref (Q.getD 1 0), .ref (Q.getD 17 0), .ref (Q.getD 33 0), .int (0 : Int32), .ref (Q.getD 49 0), .int (0 : Int32), .ref (Q.getD 50 0), .int (0 : Int32), .ref (Q.getD 51 0), .ref (Q.getD 64 0), .ref (Q.getD 66 0), .ref (Q.getD 67 0), .ref (Q.getD 68 0)]))), (1, ((Q.getD 1 0), .inr (1, [.ref (Q.getD 2 0), .int (0 : Int32), .ref (Q.getD 3 0), .int (0 : Int32), .ref (Q.getD 4 0), .ref (Q.getD 5 0), .ref (Q.getD 6 0), .ref (Q.getD 7 0), .ref (Q.getD 8 0), .int (0 : Int32), .ref (Q.getD 69 0), .int (-1 : Int32), .ref (Q.getD 9 0), .ref (Q.getD 11 0), .ref (Q.getD 13 0), .ref (Q.getD 15 0), .ref (Q.getD 16 0)]))), (2, ((Q.getD 2 0), .inl (vC V 4, 6, .inr (.inr (.inr (.inr (fun _ => none))))))), (3, ((Q.getD 3 0), .inl (vC V 0, (6, .inl (fun _ => 0))))), (4, ((Q.getD 4 0), .inl (vC V 0, (6, .inl (fun _ => 0))))), (5, ((Q.getD 5 0), .inl (vC V 0, (6, .inl (fun _ => 0))))), (6, ((Q.getD 6 0), .inl (vC V 0, (6, .inl (fun _ => 0))))), (7, ((Q.getD 7 0), .inl (vC V 0, (6, .inl (fun _ => 0))))), (8, ((Q.getD 8 0), .inl (vC V 0, (24, .inl (fun _ => 0))))), (9, ((Q.getD 9 0), .inr (5, [.ref (Q.getD 10 0), .int (0 : Int32)]))), (10, ((Q.getD 10 0), .inl (vC V 0, (18, .inl (fun _ => 0))))), (11, ((Q.getD 11 0), .inr (5, [.ref (Q.getD 12 0), .int (0 : Int32)]))), (12, ((Q.getD 12 0), .inl (vC V 0, (10, .inl (fun _ => 0))))), (13, ((Q.getD 13 0), .inr (5, [.ref (Q.getD 14 0), .int (0 : Int32)]))), (14, ((Q.getD 14 0), .inl (vC V 0, (8, .inl (fun _ => 0))))), (15, ((Q.getD 15 0), .inl (vC V 0, (6, .inl (fun _ => 0)))))]
set_option maxRecDepth 100000 in
set_option maxHeartbeats 4000000 in
theorem stE_0 {V : Vx} (Q : List Nat) : ∀ y ∈ stP_0 V Q, EQV y.2.2 (ct (stV V Q) st0 y.1) := by
  unfold stP_0
  refine List.forall_mem_cons.mpr ⟨?_, ?_⟩
  · show EQV _ (ct _ _ 0)
    rw [ct_o (ci := 11) kd_0, flds_2]; exact EQV_rf
  refine List.forall_mem_cons.mpr ⟨?_, ?_⟩
  · show EQV _ (ct _ _ 1)
    rw [ct_o (ci := 1) kd_1, flds_2]; exact EQV_rf
  refine List.forall_mem_cons.mpr ⟨?_, ?_⟩
  · show EQV _ (ct _ _ 2)
    rw [ct_r kd_2 (by decide +kernel) (by decide +kernel)]; exact EQV_rf
  refine List.forall_mem_cons.mpr ⟨?_, ?_⟩
  · show EQV _ (ct _ _ 3)
    rw [stc_i kd_3 (by decide +kernel) (stI_z (by decide +kernel))]; exact EQV_rf
  refine List.forall_mem_cons.mpr ⟨?_, ?_⟩
  · show EQV _ (ct _ _ 4)
    rw [stc_i kd_4 (by decide +kernel) (stI_z (by decide +kernel))]; exact EQV_rf
  refine List.forall_mem_cons.mpr ⟨?_, ?_⟩
  · show EQV _ (ct _ _ 5)
    rw [stc_i kd_5 (by decide +kernel) (stI_z (by decide +kernel))]; exact EQV_rf
  refine List.forall_mem_cons.mpr ⟨?_, ?_⟩
  · show EQV _ (ct _ _ 6)
    rw [stc_i kd_6 (by decide +kernel) (stI_z (by decide +kernel))]; exact EQV_rf
  refine List.forall_mem_cons.mpr ⟨?_, ?_⟩
  · show EQV _ (ct _ _ 7)
    rw [stc_i kd_7 (by decide +kernel) (stI_z (by decide +kernel))]; exact EQV_rf
  refine List.forall_mem_cons.mpr ⟨?_, ?_⟩
  · show EQV _ (ct _ _ 8)
    rw [stc_i kd_8 (by decide +kernel) (stI_z (by decide +kernel))]; exact EQV_rf
  refine List.forall_mem_cons.mpr ⟨?_, ?_⟩
  · show EQV _ (ct _ _ 9)
    rw [ct_o (ci := 5) kd_9, flds_2]; exact EQV_rf
  refine List.forall_mem_cons.mpr ⟨?_, ?_⟩
  · show EQV _ (ct _ _ 10)
    rw [stc_i kd_10 (by decide +kernel) (stI_z (by decide +kernel))]; exact EQV_rf
  refine List.forall_mem_cons.mpr ⟨?_, ?_⟩
  · show EQV _ (ct _ _ 11)
    rw [ct_o (ci := 5) kd_11, flds_2]; exact EQV_rf
  refine List.forall_mem_cons.mpr ⟨?_, ?_⟩
  · show EQV _ (ct _ _ 12)
    rw [stc_i kd_12 (by decide +kernel) (stI_z (by decide +kernel))]; exact EQV_rf
  refine List.forall_mem_cons.mpr ⟨?_, ?_⟩
  · show EQV _ (ct _ _ 13)
    rw [ct_o (ci := 5) kd_13, flds_2]; exact EQV_rf
  refine List.forall_mem_cons.mpr ⟨?_, ?_⟩
  · show EQV _ (ct _ _ 14)
    rw [stc_i kd_14 (by decide +kernel) (stI_z (by decide +kernel))]; exact EQV_rf
  refine List.forall_mem_cons.mpr ⟨?_, ?_⟩
  · show EQV _ (ct _ _ 15)
    rw [stc_i kd_15 (by decide +kernel) (stI_z (by decide +kernel))]; exact EQV_rf
  exact fun _ h => absurd h List.not_mem_nil
noncomputable def stP_1 (V : Vx) (Q : List Nat) : List (Nat × (Nat × va_E)) := [(16, ((Q.getD 16 0), .inl (vC V 0, (6, .inl (fun _ => 0))))), (17, ((Q.getD 17 0), .inr (1, [.ref (Q.getD 18 0), .int (0 : Int32), .ref (Q.getD 19 0), .int (0 : Int32), .ref (Q.getD 20 0), .ref (Q.getD 21 0), .ref (Q.getD 22 0), .ref (Q.getD 23 0), .ref (Q.getD 24 0), .int (0 : Int32), .ref (Q.getD 69 0), .int (-1 : Int32), .ref (Q.getD 25 0), .ref (Q.getD 27 0), .ref (Q.getD 29 0), .ref (Q.getD 31 0), .ref (Q.getD 32 0)]))), (18, ((Q.getD 18 0), .inl (vC V 4, 6, .inr (.inr (.inr (.inr (fun _ => none))))))), (19, ((Q.getD 19 0), .inl (vC V 0, (6, .inl (fun _ => 0))))), (20, ((Q.getD 20 0), .inl (vC V 0, (6, .inl (fun _ => 0))))), (21, ((Q.getD 21 0), .inl (vC V 0, (6, .inl (fun _ => 0))))), (22, ((Q.getD 22 0), .inl (vC V 0, (6, .inl (fun _ => 0))))), (23, ((Q.getD 23 0), .inl (vC V 0, (6, .inl (fun _ => 0))))), (24, ((Q.getD 24 0), .inl (vC V 0, (24, .inl (fun _ => 0))))), (25, ((Q.getD 25 0), .inr (5, [.ref (Q.getD 26 0), .int (0 : Int32)]))), (26, ((Q.getD 26 0), .inl (vC V 0, (18, .inl (fun _ => 0))))), (27, ((Q.getD 27 0), .inr (5, [.ref (Q.getD 28 0), .int (0 : Int32)]))), (28, ((Q.getD 28 0), .inl (vC V 0, (10, .inl (fun _ => 0))))), (29, ((Q.getD 29 0), .inr (5, [.ref (Q.getD 30 0), .int (0 : Int32)]))), (30, ((Q.getD 30 0), .inl (vC V 0, (8, .inl (fun _ => 0))))), (31, ((Q.getD 31 0), .inl (vC V 0, (6, .inl (fun _ => 0)))))]
set_option maxRecDepth 100000 in
set_option maxHeartbeats 4000000 in
theorem stE_1 {V : Vx} (Q : List Nat) : ∀ y ∈ stP_1 V Q, EQV y.2.2 (ct (stV V Q) st0 y.1) := by
  unfold stP_1
  refine List.forall_mem_cons.mpr ⟨?_, ?_⟩
  · show EQV _ (ct _ _ 16)
    rw [stc_i kd_16 (by decide +kernel) (stI_z (by decide +kernel))]; exact EQV_rf
  refine List.forall_mem_cons.mpr ⟨?_, ?_⟩
  · show EQV _ (ct _ _ 17)
    rw [ct_o (ci := 1) kd_17, flds_2]; exact EQV_rf
  refine List.forall_mem_cons.mpr ⟨?_, ?_⟩
  · show EQV _ (ct _ _ 18)
    rw [ct_r kd_18 (by decide +kernel) (by decide +kernel)]; exact EQV_rf
  refine List.forall_mem_cons.mpr ⟨?_, ?_⟩
  · show EQV _ (ct _ _ 19)
    rw [stc_i kd_19 (by decide +kernel) (stI_z (by decide +kernel))]; exact EQV_rf
  refine List.forall_mem_cons.mpr ⟨?_, ?_⟩
  · show EQV _ (ct _ _ 20)
    rw [stc_i kd_20 (by decide +kernel) (stI_z (by decide +kernel))]; exact EQV_rf
  refine List.forall_mem_cons.mpr ⟨?_, ?_⟩
  · show EQV _ (ct _ _ 21)
    rw [stc_i kd_21 (by decide +kernel) (stI_z (by decide +kernel))]; exact EQV_rf
  refine List.forall_mem_cons.mpr ⟨?_, ?_⟩
  · show EQV _ (ct _ _ 22)
    rw [stc_i kd_22 (by decide +kernel) (stI_z (by decide +kernel))]; exact EQV_rf
  refine List.forall_mem_cons.mpr ⟨?_, ?_⟩
  · show EQV _ (ct _ _ 23)
    rw [stc_i kd_23 (by decide +kernel) (stI_z (by decide +kernel))]; exact EQV_rf
  refine List.forall_mem_cons.mpr ⟨?_, ?_⟩
  · show EQV _ (ct _ _ 24)
    rw [stc_i kd_24 (by decide +kernel) (stI_z (by decide +kernel))]; exact EQV_rf
  refine List.forall_mem_cons.mpr ⟨?_, ?_⟩
  · show EQV _ (ct _ _ 25)
    rw [ct_o (ci := 5) kd_25, flds_2]; exact EQV_rf
  refine List.forall_mem_cons.mpr ⟨?_, ?_⟩
  · show EQV _ (ct _ _ 26)
    rw [stc_i kd_26 (by decide +kernel) (stI_z (by decide +kernel))]; exact EQV_rf
  refine List.forall_mem_cons.mpr ⟨?_, ?_⟩
  · show EQV _ (ct _ _ 27)
    rw [ct_o (ci := 5) kd_27, flds_2]; exact EQV_rf
  refine List.forall_mem_cons.mpr ⟨?_, ?_⟩
  · show EQV _ (ct _ _ 28)
    rw [stc_i kd_28 (by decide +kernel) (stI_z (by decide +kernel))]; exact EQV_rf
  refine List.forall_mem_cons.mpr ⟨?_, ?_⟩
  · show EQV _ (ct _ _ 29)
    rw [ct_o (ci := 5) kd_29, flds_2]; exact EQV_rf
  refine List.forall_mem_cons.mpr ⟨?_, ?_⟩
  · show EQV _ (ct _ _ 30)
    rw [stc_i kd_30 (by decide +kernel) (stI_z (by decide +kernel))]; exact EQV_rf
  refine List.forall_mem_cons.mpr ⟨?_, ?_⟩
  · show EQV _ (ct _ _ 31)
    rw [stc_i kd_31 (by decide +kernel) (stI_z (by decide +kernel))]; exact EQV_rf
  exact fun _ h => absurd h List.not_mem_nil
noncomputable def stP_2 (V : Vx) (Q : List Nat) : List (Nat × (Nat × va_E)) := [(32, ((Q.getD 32 0), .inl (vC V 0, (6, .inl (fun _ => 0))))), (33, ((Q.getD 33 0), .inr (1, [.ref (Q.getD 34 0), .int (0 : Int32), .ref (Q.getD 35 0), .int (0 : Int32), .ref (Q.getD 36 0), .ref (Q.getD 37 0), .ref (Q.getD 38 0), .ref (Q.getD 39 0), .ref (Q.getD 40 0), .int (0 : Int32), .ref (Q.getD 69 0), .int (-1 : Int32), .ref (Q.getD 41 0), .ref (Q.getD 43 0), .ref (Q.getD 45 0), .ref (Q.getD 47 0), .ref (Q.getD 48 0)]))), (34, ((Q.getD 34 0), .inl (vC V 4, 6, .inr (.inr (.inr (.inr (fun _ => none))))))), (35, ((Q.getD 35 0), .inl (vC V 0, (6, .inl (fun _ => 0))))), (36, ((Q.getD 36 0), .inl (vC V 0, (6, .inl (fun _ => 0))))), (37, ((Q.getD 37 0), .inl (vC V 0, (6, .inl (fun _ => 0))))), (38, ((Q.getD 38 0), .inl (vC V 0, (6, .inl (fun _ => 0))))), (39, ((Q.getD 39 0), .inl (vC V 0, (6, .inl (fun _ => 0))))), (40, ((Q.getD 40 0), .inl (vC V 0, (24, .inl (fun _ => 0))))), (41, ((Q.getD 41 0), .inr (5, [.ref (Q.getD 42 0), .int (0 : Int32)]))), (42, ((Q.getD 42 0), .inl (vC V 0, (18, .inl (fun _ => 0))))), (43, ((Q.getD 43 0), .inr (5, [.ref (Q.getD 44 0), .int (0 : Int32)]))), (44, ((Q.getD 44 0), .inl (vC V 0, (10, .inl (fun _ => 0))))), (45, ((Q.getD 45 0), .inr (5, [.ref (Q.getD 46 0), .int (0 : Int32)]))), (46, ((Q.getD 46 0), .inl (vC V 0, (8, .inl (fun _ => 0))))), (47, ((Q.getD 47 0), .inl (vC V 0, (6, .inl (fun _ => 0)))))]
set_option maxRecDepth 100000 in
set_option maxHeartbeats 4000000 in
theorem stE_2 {V : Vx} (Q : List Nat) : ∀ y ∈ stP_2 V Q, EQV y.2.2 (ct (stV V Q) st0 y.1) := by
  unfold stP_2
  refine List.forall_mem_cons.mpr ⟨?_, ?_⟩
  · show EQV _ (ct _ _ 32)
    rw [stc_i kd_32 (by decide +kernel) (stI_z (by decide +kernel))]; exact EQV_rf
  refine List.forall_mem_cons.mpr ⟨?_, ?_⟩
  · show EQV _ (ct _ _ 33)
    rw [ct_o (ci := 1) kd_33, flds_2]; exact EQV_rf
  refine List.forall_mem_cons.mpr ⟨?_, ?_⟩
  · show EQV _ (ct _ _ 34)
    rw [ct_r kd_34 (by decide +kernel) (by decide +kernel)]; exact EQV_rf
  refine List.forall_mem_cons.mpr ⟨?_, ?_⟩
  · show EQV _ (ct _ _ 35)
    rw [stc_i kd_35 (by decide +kernel) (stI_z (by decide +kernel))]; exact EQV_rf
  refine List.forall_mem_cons.mpr ⟨?_, ?_⟩
  · show EQV _ (ct _ _ 36)
    rw [stc_i kd_36 (by decide +kernel) (stI_z (by decide +kernel))]; exact EQV_rf
  refine List.forall_mem_cons.mpr ⟨?_, ?_⟩
  · show EQV _ (ct _ _ 37)
    rw [stc_i kd_37 (by decide +kernel) (stI_z (by decide +kernel))]; exact EQV_rf
  refine List.forall_mem_cons.mpr ⟨?_, ?_⟩
  · show EQV _ (ct _ _ 38)
    rw [stc_i kd_38 (by decide +kernel) (stI_z (by decide +kernel))]; exact EQV_rf
  refine List.forall_mem_cons.mpr ⟨?_, ?_⟩
  · show EQV _ (ct _ _ 39)
    rw [stc_i kd_39 (by decide +kernel) (stI_z (by decide +kernel))]; exact EQV_rf
  refine List.forall_mem_cons.mpr ⟨?_, ?_⟩
  · show EQV _ (ct _ _ 40)
    rw [stc_i kd_40 (by decide +kernel) (stI_z (by decide +kernel))]; exact EQV_rf
  refine List.forall_mem_cons.mpr ⟨?_, ?_⟩
  · show EQV _ (ct _ _ 41)
    rw [ct_o (ci := 5) kd_41, flds_2]; exact EQV_rf
  refine List.forall_mem_cons.mpr ⟨?_, ?_⟩
  · show EQV _ (ct _ _ 42)
    rw [stc_i kd_42 (by decide +kernel) (stI_z (by decide +kernel))]; exact EQV_rf
  refine List.forall_mem_cons.mpr ⟨?_, ?_⟩
  · show EQV _ (ct _ _ 43)
    rw [ct_o (ci := 5) kd_43, flds_2]; exact EQV_rf
  refine List.forall_mem_cons.mpr ⟨?_, ?_⟩
  · show EQV _ (ct _ _ 44)
    rw [stc_i kd_44 (by decide +kernel) (stI_z (by decide +kernel))]; exact EQV_rf
  refine List.forall_mem_cons.mpr ⟨?_, ?_⟩
  · show EQV _ (ct _ _ 45)
    rw [ct_o (ci := 5) kd_45, flds_2]; exact EQV_rf
  refine List.forall_mem_cons.mpr ⟨?_, ?_⟩
  · show EQV _ (ct _ _ 46)
    rw [stc_i kd_46 (by decide +kernel) (stI_z (by decide +kernel))]; exact EQV_rf
  refine List.forall_mem_cons.mpr ⟨?_, ?_⟩
  · show EQV _ (ct _ _ 47)
    rw [stc_i kd_47 (by decide +kernel) (stI_z (by decide +kernel))]; exact EQV_rf
  exact fun _ h => absurd h List.not_mem_nil
noncomputable def stP_3 (V : Vx) (Q : List Nat) : List (Nat × (Nat × va_E)) := [(48, ((Q.getD 48 0), .inl (vC V 0, (6, .inl (fun _ => 0))))), (49, ((Q.getD 49 0), .inl (vC V 5, 6, .inr (.inr (.inr (.inr (fun _ => none))))))), (50, ((Q.getD 50 0), .inl (vC V 1, (100, .inl (fun _ => 0))))), (51, ((Q.getD 51 0), .inl (vC V 6, 6, .inr (.inr (.inr (.inr (va_up (va_up (va_up (va_up (va_up (va_up (fun _ => none) 0 (some (Q.getD 52 0))) 1 (some (Q.getD 54 0))) 2 (some (Q.getD 56 0))) 3 (some (Q.getD 58 0))) 4 (some (Q.getD 60 0))) 5 (some (Q.getD 62 0))))))))), (64, ((Q.getD 64 0), .inr (5, [.ref (Q.getD 65 0), .int (0 : Int32)]))), (65, ((Q.getD 65 0), .inl (vC V 0, (20, .inl (fun _ => 0))))), (66, ((Q.getD 66 0), .inl (vC V 0, (5, .inl (fun _ => 0))))), (67, ((Q.getD 67 0), .inl (vC V 0, (5, .inl (fun _ => 0))))), (68, ((Q.getD 68 0), .inl (vC V 0, (6, .inl (fun _ => 0))))), (69, ((Q.getD 69 0), .inr (2, [.int (2 : Int32), .int (1 : Int32), .int (60 : Int32), .ref (Q.getD 70 0), .int (0 : Int32), .ref (Q.getD 71 0), .ref (Q.getD 72 0), .ref (Q.getD 73 0), .int (0 : Int32), .null, .int (0 : Int32), .int (0 : Int32)]))), (70, ((Q.getD 70 0), .inl (vC V 0, (100, .inl (fun _ => 0))))), (71, ((Q.getD 71 0), .inl (vC V 0, (10, .inl (fun _ => 0))))), (72, ((Q.getD 72 0), .inl (vC V 0, (10, .inl (fun _ => 0))))), (73, ((Q.getD 73 0), .inl (vC V 0, (10, .inl (fun _ => 0))))), (52, ((Q.getD 52 0), .inr (9, [.ref (Q.getD 53 0), .int (-1 : Int32), .int (0 : Int32)]))), (53, ((Q.getD 53 0), .inl (vC V 3, (60, .inr (.inl (fun _ => 0))))))]
set_option maxRecDepth 100000 in
set_option maxHeartbeats 4000000 in
theorem stE_3 {V : Vx} (Q : List Nat) : ∀ y ∈ stP_3 V Q, EQV y.2.2 (ct (stV V Q) st0 y.1) := by
  unfold stP_3
  refine List.forall_mem_cons.mpr ⟨?_, ?_⟩
  · show EQV _ (ct _ _ 48)
    rw [stc_i kd_48 (by decide +kernel) (stI_z (by decide +kernel))]; exact EQV_rf
  refine List.forall_mem_cons.mpr ⟨?_, ?_⟩
  · show EQV _ (ct _ _ 49)
    rw [ct_r kd_49 (by decide +kernel) (by decide +kernel)]; exact EQV_rf
  refine List.forall_mem_cons.mpr ⟨?_, ?_⟩
  · show EQV _ (ct _ _ 50)
    rw [stc_i kd_50 (by decide +kernel) (stI_z (by decide +kernel))]; exact EQV_rf
  refine List.forall_mem_cons.mpr ⟨?_, ?_⟩
  · show EQV _ (ct _ _ 51)
    rw [ct_t kd_51]; exact EQV_refs (fun k hk => by rcases k with _ | _ | _ | _ | _ | _ | k <;> first | rfl | omega)
  refine List.forall_mem_cons.mpr ⟨?_, ?_⟩
  · show EQV _ (ct _ _ 64)
    rw [ct_o (ci := 5) kd_64, flds_2]; exact EQV_rf
  refine List.forall_mem_cons.mpr ⟨?_, ?_⟩
  · show EQV _ (ct _ _ 65)
    rw [stc_i kd_65 (by decide +kernel) (stI_z (by decide +kernel))]; exact EQV_rf
  refine List.forall_mem_cons.mpr ⟨?_, ?_⟩
  · show EQV _ (ct _ _ 66)
    rw [stc_i kd_66 (by decide +kernel) (stI_z (by decide +kernel))]; exact EQV_rf
  refine List.forall_mem_cons.mpr ⟨?_, ?_⟩
  · show EQV _ (ct _ _ 67)
    rw [stc_i kd_67 (by decide +kernel) (stI_z (by decide +kernel))]; exact EQV_rf
  refine List.forall_mem_cons.mpr ⟨?_, ?_⟩
  · show EQV _ (ct _ _ 68)
    rw [stc_i kd_68 (by decide +kernel) (stI_z (by decide +kernel))]; exact EQV_rf
  refine List.forall_mem_cons.mpr ⟨?_, ?_⟩
  · show EQV _ (ct _ _ 69)
    rw [ct_o (ci := 2) kd_69, flds_2]; exact EQV_rf
  refine List.forall_mem_cons.mpr ⟨?_, ?_⟩
  · show EQV _ (ct _ _ 70)
    rw [stc_i kd_70 (by decide +kernel) (stI_z (by decide +kernel))]; exact EQV_rf
  refine List.forall_mem_cons.mpr ⟨?_, ?_⟩
  · show EQV _ (ct _ _ 71)
    rw [stc_i kd_71 (by decide +kernel) (stI_z (by decide +kernel))]; exact EQV_rf
  refine List.forall_mem_cons.mpr ⟨?_, ?_⟩
  · show EQV _ (ct _ _ 72)
    rw [stc_i kd_72 (by decide +kernel) (stI_z (by decide +kernel))]; exact EQV_rf
  refine List.forall_mem_cons.mpr ⟨?_, ?_⟩
  · show EQV _ (ct _ _ 73)
    rw [stc_i kd_73 (by decide +kernel) (stI_z (by decide +kernel))]; exact EQV_rf
  refine List.forall_mem_cons.mpr ⟨?_, ?_⟩
  · show EQV _ (ct _ _ 52)
    rw [ct_o (ci := 9) kd_52, flds_2]; exact EQV_rf
  refine List.forall_mem_cons.mpr ⟨?_, ?_⟩
  · show EQV _ (ct _ _ 53)
    rw [stc_l kd_53]; exact EQV_rf
  exact fun _ h => absurd h List.not_mem_nil
noncomputable def stP_4 (V : Vx) (Q : List Nat) : List (Nat × (Nat × va_E)) := [(54, ((Q.getD 54 0), .inr (9, [.ref (Q.getD 55 0), .int (-1 : Int32), .int (0 : Int32)]))), (55, ((Q.getD 55 0), .inl (vC V 3, (60, .inr (.inl (fun _ => 0)))))), (56, ((Q.getD 56 0), .inr (9, [.ref (Q.getD 57 0), .int (-1 : Int32), .int (0 : Int32)]))), (57, ((Q.getD 57 0), .inl (vC V 3, (60, .inr (.inl (fun _ => 0)))))), (58, ((Q.getD 58 0), .inr (9, [.ref (Q.getD 59 0), .int (-1 : Int32), .int (0 : Int32)]))), (59, ((Q.getD 59 0), .inl (vC V 3, (60, .inr (.inl (fun _ => 0)))))), (60, ((Q.getD 60 0), .inr (9, [.ref (Q.getD 61 0), .int (-1 : Int32), .int (0 : Int32)]))), (61, ((Q.getD 61 0), .inl (vC V 3, (60, .inr (.inl (fun _ => 0)))))), (62, ((Q.getD 62 0), .inr (9, [.ref (Q.getD 63 0), .int (-1 : Int32), .int (0 : Int32)]))), (63, ((Q.getD 63 0), .inl (vC V 3, (60, .inr (.inl (fun _ => 0)))))), (74, ((Q.getD 74 0), .inr (12, [.int (0 : Int32), .int (0 : Int32), .int (0 : Int32), .ref (Q.getD 103 0), .ref (Q.getD 104 0), .ref (Q.getD 105 0), .ref (Q.getD 106 0), .ref (Q.getD 107 0), .ref (Q.getD 108 0), .ref (Q.getD 109 0), .ref (Q.getD 110 0), .int (0 : Int32), .int (-1 : Int32), .int (0 : Int32), .int (0 : Int32), .int (0 : Int32), .ref (Q.getD 116 0), .ref (Q.getD 117 0), .ref (Q.getD 118 0), .ref (Q.getD 119 0), .ref (Q.getD 120 0), .ref (Q.getD 121 0), .ref (Q.getD 122 0), .ref (Q.getD 123 0), .int (0 : Int32), .int (0 : Int32), .int (0 : Int32), .ref (Q.getD 127 0), .int (-1 : Int32), .ref (Q.getD 129 0), .int (0 : Int32), .ref (Q.getD 131 0), .ref (Q.getD 132 0), .int (0 : Int32), .ref (Q.getD 134 0), .ref (Q.getD 135 0), .ref (Q.getD 136 0), .ref (Q.getD 137 0), .ref (Q.getD 138 0), .ref (Q.getD 139 0), .ref (Q.getD 140 0), .int (0 : Int32), .ref (Q.getD 142 0), .ref (Q.getD 143 0), .ref (Q.getD 144 0), .int (0 : Int32), .int (0 : Int32), .ref (Q.getD 147 0), .ref (Q.getD 148 0), .int (0 : Int32), .int (-1 : Int32), .int (0 : Int32), .int (0 : Int32), .int (0 : Int32), .int (0 : Int32), .int (0 : Int32), .ref (Q.getD 156 0), .ref (Q.getD 157 0), .ref (Q.getD 158 0), .ref (Q.getD 159 0), .ref (Q.getD 160 0), .ref (Q.getD 161 0), .ref (Q.getD 162 0), .ref (Q.getD 163 0), .ref (Q.getD 164 0), .ref (Q.getD 165 0), .ref (Q.getD 166 0), .ref (Q.getD 167 0), .ref (Q.getD 168 0), .int (0 : Int32), .ref (Q.getD 170 0), .ref (Q.getD 171 0), .ref (Q.getD 172 0), .ref (Q.getD 173 0), .ref (Q.getD 174 0)]))), (103, ((Q.getD 103 0), .inl (vC V 0, (6, .inl (fun _ => 0))))), (104, ((Q.getD 104 0), .inl (vC V 0, (6, .inl (fun _ => 0))))), (105, ((Q.getD 105 0), .inl (vC V 0, (6, .inl (fun _ => 0))))), (106, ((Q.getD 106 0), .inl (vC V 0, (6, .inl (fun _ => 0))))), (107, ((Q.getD 107 0), .inl (vC V 0, (6, .inl (fun _ => 0)))))]
set_option maxRecDepth 100000 in
set_option maxHeartbeats 4000000 in
theorem stE_4 {V : Vx} (Q : List Nat) : ∀ y ∈ stP_4 V Q, EQV y.2.2 (ct (stV V Q) st0 y.1) := by
  unfold stP_4
  refine List.forall_mem_cons.mpr ⟨?_, ?_⟩
  · show EQV _ (ct _ _ 54)
    rw [ct_o (ci := 9) kd_54, flds_2]; exact EQV_rf
  refine List.forall_mem_cons.mpr ⟨?_, ?_⟩
  · show EQV _ (ct _ _ 55)
    rw [stc_l kd_55]; exact EQV_rf
  refine List.forall_mem_cons.mpr ⟨?_, ?_⟩
  · show EQV _ (ct _ _ 56)
    rw [ct_o (ci := 9) kd_56, flds_2]; exact EQV_rf
  refine List.forall_mem_cons.mpr ⟨?_, ?_⟩
  · show EQV _ (ct _ _ 57)
    rw [stc_l kd_57]; exact EQV_rf
  refine List.forall_mem_cons.mpr ⟨?_, ?_⟩
  · show EQV _ (ct _ _ 58)
    rw [ct_o (ci := 9) kd_58, flds_2]; exact EQV_rf
  refine List.forall_mem_cons.mpr ⟨?_, ?_⟩
  · show EQV _ (ct _ _ 59)
    rw [stc_l kd_59]; exact EQV_rf
  refine List.forall_mem_cons.mpr ⟨?_, ?_⟩
  · show EQV _ (ct _ _ 60)
    rw [ct_o (ci := 9) kd_60, flds_2]; exact EQV_rf
  refine List.forall_mem_cons.mpr ⟨?_, ?_⟩
  · show EQV _ (ct _ _ 61)
    rw [stc_l kd_61]; exact EQV_rf
  refine List.forall_mem_cons.mpr ⟨?_, ?_⟩
  · show EQV _ (ct _ _ 62)
    rw [ct_o (ci := 9) kd_62, flds_2]; exact EQV_rf
  refine List.forall_mem_cons.mpr ⟨?_, ?_⟩
  · show EQV _ (ct _ _ 63)
    rw [stc_l kd_63]; exact EQV_rf
  refine List.forall_mem_cons.mpr ⟨?_, ?_⟩
  · show EQV _ (ct _ _ 74)
    rw [ct_o (ci := 12) kd_74]
    show EQV _ (.inr (12, flds (va _) 74 stM stRn 12))
    rw [flds74]; exact EQV_rf
  refine List.forall_mem_cons.mpr ⟨?_, ?_⟩
  · show EQV _ (ct _ _ 103)
    rw [stc_i kd_103 (by decide +kernel) (stI_z (by decide +kernel))]; exact EQV_rf
  refine List.forall_mem_cons.mpr ⟨?_, ?_⟩
  · show EQV _ (ct _ _ 104)
    rw [stc_i kd_104 (by decide +kernel) (stI_z (by decide +kernel))]; exact EQV_rf
  refine List.forall_mem_cons.mpr ⟨?_, ?_⟩
  · show EQV _ (ct _ _ 105)
    rw [stc_i kd_105 (by decide +kernel) (stI_z (by decide +kernel))]; exact EQV_rf
  refine List.forall_mem_cons.mpr ⟨?_, ?_⟩
  · show EQV _ (ct _ _ 106)
    rw [stc_i kd_106 (by decide +kernel) (stI_z (by decide +kernel))]; exact EQV_rf
  refine List.forall_mem_cons.mpr ⟨?_, ?_⟩
  · show EQV _ (ct _ _ 107)
    rw [stc_i kd_107 (by decide +kernel) (stI_z (by decide +kernel))]; exact EQV_rf
  exact fun _ h => absurd h List.not_mem_nil
noncomputable def stP_5 (V : Vx) (Q : List Nat) : List (Nat × (Nat × va_E)) := [(108, ((Q.getD 108 0), .inl (vC V 0, (6, .inl (fun _ => 0))))), (109, ((Q.getD 109 0), .inl (vC V 0, (24, .inl (fun _ => 0))))), (110, ((Q.getD 110 0), .inl (vC V 0, (6, .inl (fun _ => 0))))), (116, ((Q.getD 116 0), .inl (vC V 0, (100, .inl (fun _ => 0))))), (117, ((Q.getD 117 0), .inl (vC V 0, (6, .inl (fun _ => 0))))), (118, ((Q.getD 118 0), .inl (vC V 0, (60, .inl (fun _ => 0))))), (119, ((Q.getD 119 0), .inl (vC V 0, (60, .inl (fun _ => 0))))), (120, ((Q.getD 120 0), .inl (vC V 0, (60, .inl (fun _ => 0))))), (121, ((Q.getD 121 0), .inl (vC V 0, (60, .inl (fun _ => 0))))), (122, ((Q.getD 122 0), .inl (vC V 0, (600, .inl (fun _ => 0))))), (123, ((Q.getD 123 0), .inl (vC V 0, (101, .inl (fun _ => 0))))), (127, ((Q.getD 127 0), .inl (vC V 0, (19, .inl (upd (upd (upd (upd (upd (upd (upd (upd (upd (upd (upd (upd (upd (upd (upd (upd (upd (upd (upd (fun _ => 0) 0 (102 : Int32)) 1 (97 : Int32)) 2 (115 : Int32)) 3 (116 : Int32)) 4 (115 : Int32)) 5 (108 : Int32)) 6 (111 : Int32)) 7 (119 : Int32)) 8 (103 : Int32)) 9 (97 : Int32)) 10 (112 : Int32)) 11 (116 : Int32)) 12 (105 : Int32)) 13 (114 : Int32)) 14 (101 : Int32)) 15 (108 : Int32)) 16 (111 : Int32)) 17 (110 : Int32)) 18 (103 : Int32)))))), (129, ((Q.getD 129 0), .inl (vC V 2, (100, .inl (fun _ => 0))))), (131, ((Q.getD 131 0), .inl (vC V 0, (6, .inl (fun _ => 0))))), (132, ((Q.getD 132 0), .inl (vC V 0, (6, .inl (fun _ => 0))))), (134, ((Q.getD 134 0), .inl (vC V 0, (6, .inl (fun _ => 0)))))]
set_option maxRecDepth 100000 in
set_option maxHeartbeats 4000000 in
theorem stE_5 {V : Vx} (Q : List Nat) : ∀ y ∈ stP_5 V Q, EQV y.2.2 (ct (stV V Q) st0 y.1) := by
  unfold stP_5
  refine List.forall_mem_cons.mpr ⟨?_, ?_⟩
  · show EQV _ (ct _ _ 108)
    rw [stc_i kd_108 (by decide +kernel) (stI_z (by decide +kernel))]; exact EQV_rf
  refine List.forall_mem_cons.mpr ⟨?_, ?_⟩
  · show EQV _ (ct _ _ 109)
    rw [stc_i kd_109 (by decide +kernel) (stI_z (by decide +kernel))]; exact EQV_rf
  refine List.forall_mem_cons.mpr ⟨?_, ?_⟩
  · show EQV _ (ct _ _ 110)
    rw [stc_i kd_110 (by decide +kernel) (stI_z (by decide +kernel))]; exact EQV_rf
  refine List.forall_mem_cons.mpr ⟨?_, ?_⟩
  · show EQV _ (ct _ _ 116)
    rw [stc_i kd_116 (by decide +kernel) (stI_z (by decide +kernel))]; exact EQV_rf
  refine List.forall_mem_cons.mpr ⟨?_, ?_⟩
  · show EQV _ (ct _ _ 117)
    rw [stc_i kd_117 (by decide +kernel) (stI_z (by decide +kernel))]; exact EQV_rf
  refine List.forall_mem_cons.mpr ⟨?_, ?_⟩
  · show EQV _ (ct _ _ 118)
    rw [stc_i kd_118 (by decide +kernel) (stI_z (by decide +kernel))]; exact EQV_rf
  refine List.forall_mem_cons.mpr ⟨?_, ?_⟩
  · show EQV _ (ct _ _ 119)
    rw [stc_i kd_119 (by decide +kernel) (stI_z (by decide +kernel))]; exact EQV_rf
  refine List.forall_mem_cons.mpr ⟨?_, ?_⟩
  · show EQV _ (ct _ _ 120)
    rw [stc_i kd_120 (by decide +kernel) (stI_z (by decide +kernel))]; exact EQV_rf
  refine List.forall_mem_cons.mpr ⟨?_, ?_⟩
  · show EQV _ (ct _ _ 121)
    rw [stc_i kd_121 (by decide +kernel) (stI_z (by decide +kernel))]; exact EQV_rf
  refine List.forall_mem_cons.mpr ⟨?_, ?_⟩
  · show EQV _ (ct _ _ 122)
    rw [stc_i kd_122 (by decide +kernel) (stI_z (by decide +kernel))]; exact EQV_rf
  refine List.forall_mem_cons.mpr ⟨?_, ?_⟩
  · show EQV _ (ct _ _ 123)
    rw [stc_i kd_123 (by decide +kernel) (stI_z (by decide +kernel))]; exact EQV_rf
  refine List.forall_mem_cons.mpr ⟨?_, ?_⟩
  · show EQV _ (ct _ _ 127)
    rw [ct_i kd_127 (by decide +kernel)]; exact EQV_rf
  refine List.forall_mem_cons.mpr ⟨?_, ?_⟩
  · show EQV _ (ct _ _ 129)
    rw [stc_i kd_129 (by decide +kernel) (stI_z (by decide +kernel))]; exact EQV_rf
  refine List.forall_mem_cons.mpr ⟨?_, ?_⟩
  · show EQV _ (ct _ _ 131)
    rw [stc_i kd_131 (by decide +kernel) (stI_z (by decide +kernel))]; exact EQV_rf
  refine List.forall_mem_cons.mpr ⟨?_, ?_⟩
  · show EQV _ (ct _ _ 132)
    rw [stc_i kd_132 (by decide +kernel) (stI_z (by decide +kernel))]; exact EQV_rf
  refine List.forall_mem_cons.mpr ⟨?_, ?_⟩
  · show EQV _ (ct _ _ 134)
    rw [stc_i kd_134 (by decide +kernel) (stI_z (by decide +kernel))]; exact EQV_rf
  exact fun _ h => absurd h List.not_mem_nil
noncomputable def stP_6 (V : Vx) (Q : List Nat) : List (Nat × (Nat × va_E)) := [(135, ((Q.getD 135 0), .inl (vC V 0, (6, .inl (fun _ => 0))))), (136, ((Q.getD 136 0), .inl (vC V 0, (6, .inl (fun _ => 0))))), (137, ((Q.getD 137 0), .inl (vC V 0, (6, .inl (fun _ => 0))))), (138, ((Q.getD 138 0), .inl (vC V 0, (6, .inl (fun _ => 0))))), (139, ((Q.getD 139 0), .inl (vC V 0, (6, .inl (fun _ => 0))))), (140, ((Q.getD 140 0), .inl (vC V 0, (6, .inl (fun _ => 0))))), (142, ((Q.getD 142 0), .inl (vC V 0, (6, .inl (fun _ => 0))))), (143, ((Q.getD 143 0), .inl (vC V 0, (6, .inl (fun _ => 0))))), (144, ((Q.getD 144 0), .inl (vC V 0, (6, .inl (fun _ => 0))))), (147, ((Q.getD 147 0), .inl (vC V 0, (10, .inl (fun _ => 0))))), (148, ((Q.getD 148 0), .inl (vC V 0, (8, .inl (fun _ => 0))))), (156, ((Q.getD 156 0), .inl (vC V 0, (6, .inl (fun _ => 0))))), (157, ((Q.getD 157 0), .inl (vC V 0, (6, .inl (fun _ => 0))))), (158, ((Q.getD 158 0), .inl (vC V 0, (6, .inl (fun _ => 0))))), (159, ((Q.getD 159 0), .inl (vC V 0, (6, .inl (fun _ => 0))))), (160, ((Q.getD 160 0), .inl (vC V 0, (6, .inl (fun _ => 0)))))]
set_option maxRecDepth 100000 in
set_option maxHeartbeats 4000000 in
theorem stE_6 {V : Vx} (Q : List Nat) : ∀ y ∈ stP_6 V Q, EQV y.2.2 (ct (stV V Q) st0 y.1) := by
  unfold stP_6
  refine List.forall_mem_cons.mpr ⟨?_, ?_⟩
  · show EQV _ (ct _ _ 135)
    rw [stc_i kd_135 (by decide +kernel) (stI_z (by decide +kernel))]; exact EQV_rf
  refine List.forall_mem_cons.mpr ⟨?_, ?_⟩
  · show EQV _ (ct _ _ 136)
    rw [stc_i kd_136 (by decide +kernel) (stI_z (by decide +kernel))]; exact EQV_rf
  refine List.forall_mem_cons.mpr ⟨?_, ?_⟩
  · show EQV _ (ct _ _ 137)
    rw [stc_i kd_137 (by decide +kernel) (stI_z (by decide +kernel))]; exact EQV_rf
  refine List.forall_mem_cons.mpr ⟨?_, ?_⟩
  · show EQV _ (ct _ _ 138)
    rw [stc_i kd_138 (by decide +kernel) (stI_z (by decide +kernel))]; exact EQV_rf
  refine List.forall_mem_cons.mpr ⟨?_, ?_⟩
  · show EQV _ (ct _ _ 139)
    rw [stc_i kd_139 (by decide +kernel) (stI_z (by decide +kernel))]; exact EQV_rf
  refine List.forall_mem_cons.mpr ⟨?_, ?_⟩
  · show EQV _ (ct _ _ 140)
    rw [stc_i kd_140 (by decide +kernel) (stI_z (by decide +kernel))]; exact EQV_rf
  refine List.forall_mem_cons.mpr ⟨?_, ?_⟩
  · show EQV _ (ct _ _ 142)
    rw [stc_i kd_142 (by decide +kernel) (stI_z (by decide +kernel))]; exact EQV_rf
  refine List.forall_mem_cons.mpr ⟨?_, ?_⟩
  · show EQV _ (ct _ _ 143)
    rw [stc_i kd_143 (by decide +kernel) (stI_z (by decide +kernel))]; exact EQV_rf
  refine List.forall_mem_cons.mpr ⟨?_, ?_⟩
  · show EQV _ (ct _ _ 144)
    rw [stc_i kd_144 (by decide +kernel) (stI_z (by decide +kernel))]; exact EQV_rf
  refine List.forall_mem_cons.mpr ⟨?_, ?_⟩
  · show EQV _ (ct _ _ 147)
    rw [stc_i kd_147 (by decide +kernel) (stI_z (by decide +kernel))]; exact EQV_rf
  refine List.forall_mem_cons.mpr ⟨?_, ?_⟩
  · show EQV _ (ct _ _ 148)
    rw [stc_i kd_148 (by decide +kernel) (stI_z (by decide +kernel))]; exact EQV_rf
  refine List.forall_mem_cons.mpr ⟨?_, ?_⟩
  · show EQV _ (ct _ _ 156)
    rw [stc_i kd_156 (by decide +kernel) (stI_z (by decide +kernel))]; exact EQV_rf
  refine List.forall_mem_cons.mpr ⟨?_, ?_⟩
  · show EQV _ (ct _ _ 157)
    rw [stc_i kd_157 (by decide +kernel) (stI_z (by decide +kernel))]; exact EQV_rf
  refine List.forall_mem_cons.mpr ⟨?_, ?_⟩
  · show EQV _ (ct _ _ 158)
    rw [stc_i kd_158 (by decide +kernel) (stI_z (by decide +kernel))]; exact EQV_rf
  refine List.forall_mem_cons.mpr ⟨?_, ?_⟩
  · show EQV _ (ct _ _ 159)
    rw [stc_i kd_159 (by decide +kernel) (stI_z (by decide +kernel))]; exact EQV_rf
  refine List.forall_mem_cons.mpr ⟨?_, ?_⟩
  · show EQV _ (ct _ _ 160)
    rw [stc_i kd_160 (by decide +kernel) (stI_z (by decide +kernel))]; exact EQV_rf
  exact fun _ h => absurd h List.not_mem_nil
noncomputable def stP_7 (V : Vx) (Q : List Nat) : List (Nat × (Nat × va_E)) := [(161, ((Q.getD 161 0), .inl (vC V 0, (6, .inl (fun _ => 0))))), (162, ((Q.getD 162 0), .inl (vC V 0, (6, .inl (fun _ => 0))))), (163, ((Q.getD 163 0), .inl (vC V 0, (24, .inl (fun _ => 0))))), (164, ((Q.getD 164 0), .inl (vC V 0, (6, .inl (fun _ => 0))))), (165, ((Q.getD 165 0), .inl (vC V 0, (6, .inl (fun _ => 0))))), (166, ((Q.getD 166 0), .inl (vC V 0, (6, .inl (fun _ => 0))))), (167, ((Q.getD 167 0), .inl (vC V 0, (10, .inl (fun _ => 0))))), (168, ((Q.getD 168 0), .inl (vC V 0, (8, .inl (fun _ => 0))))), (170, ((Q.getD 170 0), .inl (vC V 0, (20, .inl (fun _ => 0))))), (171, ((Q.getD 171 0), .inl (vC V 0, (6, .inl (upd (upd (upd (upd (upd (upd (fun _ => 0) 0 (-1 : Int32)) 1 (-1 : Int32)) 2 (-1 : Int32)) 3 (-1 : Int32)) 4 (-1 : Int32)) 5 (-1 : Int32)))))), (172, ((Q.getD 172 0), .inl (vC V 0, (6, .inl (fun _ => 0))))), (173, ((Q.getD 173 0), .inl (vC V 3, (360, .inr (.inl (fun _ => 0)))))), (174, ((Q.getD 174 0), .inl (vC V 3, (60, .inr (.inl (fun _ => 0))))))]
set_option maxRecDepth 100000 in
set_option maxHeartbeats 4000000 in
theorem stE_7 {V : Vx} (Q : List Nat) : ∀ y ∈ stP_7 V Q, EQV y.2.2 (ct (stV V Q) st0 y.1) := by
  unfold stP_7
  refine List.forall_mem_cons.mpr ⟨?_, ?_⟩
  · show EQV _ (ct _ _ 161)
    rw [stc_i kd_161 (by decide +kernel) (stI_z (by decide +kernel))]; exact EQV_rf
  refine List.forall_mem_cons.mpr ⟨?_, ?_⟩
  · show EQV _ (ct _ _ 162)
    rw [stc_i kd_162 (by decide +kernel) (stI_z (by decide +kernel))]; exact EQV_rf
  refine List.forall_mem_cons.mpr ⟨?_, ?_⟩
  · show EQV _ (ct _ _ 163)
    rw [stc_i kd_163 (by decide +kernel) (stI_z (by decide +kernel))]; exact EQV_rf
  refine List.forall_mem_cons.mpr ⟨?_, ?_⟩
  · show EQV _ (ct _ _ 164)
    rw [stc_i kd_164 (by decide +kernel) (stI_z (by decide +kernel))]; exact EQV_rf
  refine List.forall_mem_cons.mpr ⟨?_, ?_⟩
  · show EQV _ (ct _ _ 165)
    rw [stc_i kd_165 (by decide +kernel) (stI_z (by decide +kernel))]; exact EQV_rf
  refine List.forall_mem_cons.mpr ⟨?_, ?_⟩
  · show EQV _ (ct _ _ 166)
    rw [stc_i kd_166 (by decide +kernel) (stI_z (by decide +kernel))]; exact EQV_rf
  refine List.forall_mem_cons.mpr ⟨?_, ?_⟩
  · show EQV _ (ct _ _ 167)
    rw [stc_i kd_167 (by decide +kernel) (stI_z (by decide +kernel))]; exact EQV_rf
  refine List.forall_mem_cons.mpr ⟨?_, ?_⟩
  · show EQV _ (ct _ _ 168)
    rw [stc_i kd_168 (by decide +kernel) (stI_z (by decide +kernel))]; exact EQV_rf
  refine List.forall_mem_cons.mpr ⟨?_, ?_⟩
  · show EQV _ (ct _ _ 170)
    rw [stc_i kd_170 (by decide +kernel) (stI_z (by decide +kernel))]; exact EQV_rf
  refine List.forall_mem_cons.mpr ⟨?_, ?_⟩
  · show EQV _ (ct _ _ 171)
    rw [ct_i kd_171 (by decide +kernel)]; exact EQV_rf
  refine List.forall_mem_cons.mpr ⟨?_, ?_⟩
  · show EQV _ (ct _ _ 172)
    rw [stc_i kd_172 (by decide +kernel) (stI_z (by decide +kernel))]; exact EQV_rf
  refine List.forall_mem_cons.mpr ⟨?_, ?_⟩
  · show EQV _ (ct _ _ 173)
    rw [stc_l kd_173]; exact EQV_rf
  refine List.forall_mem_cons.mpr ⟨?_, ?_⟩
  · show EQV _ (ct _ _ 174)
    rw [stc_l kd_174]; exact EQV_rf
  exact fun _ h => absurd h List.not_mem_nil
set_option maxRecDepth 100000 in
set_option maxHeartbeats 4000000 in
theorem st_E {V : Vx} (h0 x1 x3 x4 x5 x6 x7 x8 x9 x10 x11 x12 x13 x14 x15 x16 x17 x23 x25 x26 x27 x28 x29 x30 x31 x32 x33 x34 x35 x36 x37 x38 x39 x45 x47 x48 x49 x50 x51 x52 x53 x54 x55 x56 x57 x58 x59 x60 x61 x70 x80 x90 x97 x99 x105 x112 x119 x126 x128 x129 x130 x131 x143 x145 x151 x153 x159 x161 x167 x169 x175 x177 x183 x185 h1 m10 m17 m24 m31 m38 m45 m52 m59 m81 m88 m95 m102 m109 m116 m123 m130 m146 m213 m223 m230 m240 m247 m254 m261 m268 m275 m282 m292 m299 m306 m319 m326 m354 m361 m368 m375 m382 m389 m396 m403 m410 m417 m424 m431 m438 m448 m455 m480 m487 m494 : Nat) : ∀ y ∈ stO.zip (stC0 V h0 x1 x3 x4 x5 x6 x7 x8 x9 x10 x11 x12 x13 x14 x15 x16 x17 x23 x25 x26 x27 x28 x29 x30 x31 x32 x33 x34 x35 x36 x37 x38 x39 x45 x47 x48 x49 x50 x51 x52 x53 x54 x55 x56 x57 x58 x59 x60 x61 x70 x80 x90 x97 x99 x105 x112 x119 x126 x128 x129 x130 x131 x143 x145 x151 x153 x159 x161 x167 x169 x175 x177 x183 x185 h1 m10 m17 m24 m31 m38 m45 m52 m59 m81 m88 m95 m102 m109 m116 m123 m130 m146 m213 m223 m230 m240 m247 m254 m261 m268 m275 m282 m292 m299 m306 m319 m326 m354 m361 m368 m375 m382 m389 m396 m403 m410 m417 m424 m431 m438 m448 m455 m480 m487 m494), EQV y.2.2 (ct (stV V (stQ h0 x1 x3 x4 x5 x6 x7 x8 x9 x10 x11 x12 x13 x14 x15 x16 x17 x23 x25 x26 x27 x28 x29 x30 x31 x32 x33 x34 x35 x36 x37 x38 x39 x45 x47 x48 x49 x50 x51 x52 x53 x54 x55 x56 x57 x58 x59 x60 x61 x70 x80 x90 x97 x99 x105 x112 x119 x126 x128 x129 x130 x131 x143 x145 x151 x153 x159 x161 x167 x169 x175 x177 x183 x185 h1 m10 m17 m24 m31 m38 m45 m52 m59 m81 m88 m95 m102 m109 m116 m123 m130 m146 m213 m223 m230 m240 m247 m254 m261 m268 m275 m282 m292 m299 m306 m319 m326 m354 m361 m368 m375 m382 m389 m396 m403 m410 m417 m424 m431 m438 m448 m455 m480 m487 m494)) st0 y.1) := by
  have h : stO.zip (stC0 V h0 x1 x3 x4 x5 x6 x7 x8 x9 x10 x11 x12 x13 x14 x15 x16 x17 x23 x25 x26 x27 x28 x29 x30 x31 x32 x33 x34 x35 x36 x37 x38 x39 x45 x47 x48 x49 x50 x51 x52 x53 x54 x55 x56 x57 x58 x59 x60 x61 x70 x80 x90 x97 x99 x105 x112 x119 x126 x128 x129 x130 x131 x143 x145 x151 x153 x159 x161 x167 x169 x175 x177 x183 x185 h1 m10 m17 m24 m31 m38 m45 m52 m59 m81 m88 m95 m102 m109 m116 m123 m130 m146 m213 m223 m230 m240 m247 m254 m261 m268 m275 m282 m292 m299 m306 m319 m326 m354 m361 m368 m375 m382 m389 m396 m403 m410 m417 m424 m431 m438 m448 m455 m480 m487 m494) = stP_0 V (stQ h0 x1 x3 x4 x5 x6 x7 x8 x9 x10 x11 x12 x13 x14 x15 x16 x17 x23 x25 x26 x27 x28 x29 x30 x31 x32 x33 x34 x35 x36 x37 x38 x39 x45 x47 x48 x49 x50 x51 x52 x53 x54 x55 x56 x57 x58 x59 x60 x61 x70 x80 x90 x97 x99 x105 x112 x119 x126 x128 x129 x130 x131 x143 x145 x151 x153 x159 x161 x167 x169 x175 x177 x183 x185 h1 m10 m17 m24 m31 m38 m45 m52 m59 m81 m88 m95 m102 m109 m116 m123 m130 m146 m213 m223 m230 m240 m247 m254 m261 m268 m275 m282 m292 m299 m306 m319 m326 m354 m361 m368 m375 m382 m389 m396 m403 m410 m417 m424 m431 m438 m448 m455 m480 m487 m494) ++ (stP_1 V (stQ h0 x1 x3 x4 x5 x6 x7 x8 x9 x10 x11 x12 x13 x14 x15 x16 x17 x23 x25 x26 x27 x28 x29 x30 x31 x32 x33 x34 x35 x36 x37 x38 x39 x45 x47 x48 x49 x50 x51 x52 x53 x54 x55 x56 x57 x58 x59 x60 x61 x70 x80 x90 x97 x99 x105 x112 x119 x126 x128 x129 x130 x131 x143 x145 x151 x153 x159 x161 x167 x169 x175 x177 x183 x185 h1 m10 m17 m24 m31 m38 m45 m52 m59 m81 m88 m95 m102 m109 m116 m123 m130 m146 m213 m223 m230 m240 m247 m254 m261 m268 m275 m282 m292 m299 m306 m319 m326 m354 m361 m368 m375 m382 m389 m396 m403 m410 m417 m424 m431 m438 m448 m455 m480 m487 m494) ++ (stP_2 V (stQ h0 x1 x3 x4 x5 x6 x7 x8 x9 x10 x11 x12 x13 x14 x15 x16 x17 x23 x25 x26 x27 x28 x29 x30 x31 x32 x33 x34 x35 x36 x37 x38 x39 x45 x47 x48 x49 x50 x51 x52 x53 x54 x55 x56 x57 x58 x59 x60 x61 x70 x80 x90 x97 x99 x105 x112 x119 x126 x128 x129 x130 x131 x143 x145 x151 x153 x159 x161 x167 x169 x175 x177 x183 x185 h1 m10 m17 m24 m31 m38 m45 m52 m59 m81 m88 m95 m102 m109 m116 m123 m130 m146 m213 m223 m230 m240 m247 m254 m261 m268 m275 m282 m292 m299 m306 m319 m326 m354 m361 m368 m375 m382 m389 m396 m403 m410 m417 m424 m431 m438 m448 m455 m480 m487 m494) ++ (stP_3 V (stQ h0 x1 x3 x4 x5 x6 x7 x8 x9 x10 x11 x12 x13 x14 x15 x16 x17 x23 x25 x26 x27 x28 x29 x30 x31 x32 x33 x34 x35 x36 x37 x38 x39 x45 x47 x48 x49 x50 x51 x52 x53 x54 x55 x56 x57 x58 x59 x60 x61 x70 x80 x90 x97 x99 x105 x112 x119 x126 x128 x129 x130 x131 x143 x145 x151 x153 x159 x161 x167 x169 x175 x177 x183 x185 h1 m10 m17 m24 m31 m38 m45 m52 m59 m81 m88 m95 m102 m109 m116 m123 m130 m146 m213 m223 m230 m240 m247 m254 m261 m268 m275 m282 m292 m299 m306 m319 m326 m354 m361 m368 m375 m382 m389 m396 m403 m410 m417 m424 m431 m438 m448 m455 m480 m487 m494) ++ (stP_4 V (stQ h0 x1 x3 x4 x5 x6 x7 x8 x9 x10 x11 x12 x13 x14 x15 x16 x17 x23 x25 x26 x27 x28 x29 x30 x31 x32 x33 x34 x35 x36 x37 x38 x39 x45 x47 x48 x49 x50 x51 x52 x53 x54 x55 x56 x57 x58 x59 x60 x61 x70 x80 x90 x97 x99 x105 x112 x119 x126 x128 x129 x130 x131 x143 x145 x151 x153 x159 x161 x167 x169 x175 x177 x183 x185 h1 m10 m17 m24 m31 m38 m45 m52 m59 m81 m88 m95 m102 m109 m116 m123 m130 m146 m213 m223 m230 m240 m247 m254 m261 m268 m275 m282 m292 m299 m306 m319 m326 m354 m361 m368 m375 m382 m389 m396 m403 m410 m417 m424 m431 m438 m448 m455 m480 m487 m494) ++ (stP_5 V (stQ h0 x1 x3 x4 x5 x6 x7 x8 x9 x10 x11 x12 x13 x14 x15 x16 x17 x23 x25 x26 x27 x28 x29 x30 x31 x32 x33 x34 x35 x36 x37 x38 x39 x45 x47 x48 x49 x50 x51 x52 x53 x54 x55 x56 x57 x58 x59 x60 x61 x70 x80 x90 x97 x99 x105 x112 x119 x126 x128 x129 x130 x131 x143 x145 x151 x153 x159 x161 x167 x169 x175 x177 x183 x185 h1 m10 m17 m24 m31 m38 m45 m52 m59 m81 m88 m95 m102 m109 m116 m123 m130 m146 m213 m223 m230 m240 m247 m254 m261 m268 m275 m282 m292 m299 m306 m319 m326 m354 m361 m368 m375 m382 m389 m396 m403 m410 m417 m424 m431 m438 m448 m455 m480 m487 m494) ++ (stP_6 V (stQ h0 x1 x3 x4 x5 x6 x7 x8 x9 x10 x11 x12 x13 x14 x15 x16 x17 x23 x25 x26 x27 x28 x29 x30 x31 x32 x33 x34 x35 x36 x37 x38 x39 x45 x47 x48 x49 x50 x51 x52 x53 x54 x55 x56 x57 x58 x59 x60 x61 x70 x80 x90 x97 x99 x105 x112 x119 x126 x128 x129 x130 x131 x143 x145 x151 x153 x159 x161 x167 x169 x175 x177 x183 x185 h1 m10 m17 m24 m31 m38 m45 m52 m59 m81 m88 m95 m102 m109 m116 m123 m130 m146 m213 m223 m230 m240 m247 m254 m261 m268 m275 m282 m292 m299 m306 m319 m326 m354 m361 m368 m375 m382 m389 m396 m403 m410 m417 m424 m431 m438 m448 m455 m480 m487 m494) ++ (stP_7 V (stQ h0 x1 x3 x4 x5 x6 x7 x8 x9 x10 x11 x12 x13 x14 x15 x16 x17 x23 x25 x26 x27 x28 x29 x30 x31 x32 x33 x34 x35 x36 x37 x38 x39 x45 x47 x48 x49 x50 x51 x52 x53 x54 x55 x56 x57 x58 x59 x60 x61 x70 x80 x90 x97 x99 x105 x112 x119 x126 x128 x129 x130 x131 x143 x145 x151 x153 x159 x161 x167 x169 x175 x177 x183 x185 h1 m10 m17 m24 m31 m38 m45 m52 m59 m81 m88 m95 m102 m109 m116 m123 m130 m146 m213 m223 m230 m240 m247 m254 m261 m268 m275 m282 m292 m299 m306 m319 m326 m354 m361 m368 m375 m382 m389 m396 m403 m410 m417 m424 m431 m438 m448 m455 m480 m487 m494)))))))) := rfl
  rw [h]
  exact List.forall_mem_append.mpr ⟨stE_0 _, List.forall_mem_append.mpr ⟨stE_1 _, List.forall_mem_append.mpr ⟨stE_2 _, List.forall_mem_append.mpr ⟨stE_3 _, List.forall_mem_append.mpr ⟨stE_4 _, List.forall_mem_append.mpr ⟨stE_5 _, List.forall_mem_append.mpr ⟨stE_6 _, stE_7 _⟩⟩⟩⟩⟩⟩⟩
set_option maxRecDepth 100000 in
set_option maxHeartbeats 4000000 in
theorem st_L {V : Vx} (h0 x1 x3 x4 x5 x6 x7 x8 x9 x10 x11 x12 x13 x14 x15 x16 x17 x23 x25 x26 x27 x28 x29 x30 x31 x32 x33 x34 x35 x36 x37 x38 x39 x45 x47 x48 x49 x50 x51 x52 x53 x54 x55 x56 x57 x58 x59 x60 x61 x70 x80 x90 x97 x99 x105 x112 x119 x126 x128 x129 x130 x131 x143 x145 x151 x153 x159 x161 x167 x169 x175 x177 x183 x185 h1 m10 m17 m24 m31 m38 m45 m52 m59 m81 m88 m95 m102 m109 m116 m123 m130 m146 m213 m223 m230 m240 m247 m254 m261 m268 m275 m282 m292 m299 m306 m319 m326 m354 m361 m368 m375 m382 m389 m396 m403 m410 m417 m424 m431 m438 m448 m455 m480 m487 m494 : Nat) : (stC0 V h0 x1 x3 x4 x5 x6 x7 x8 x9 x10 x11 x12 x13 x14 x15 x16 x17 x23 x25 x26 x27 x28 x29 x30 x31 x32 x33 x34 x35 x36 x37 x38 x39 x45 x47 x48 x49 x50 x51 x52 x53 x54 x55 x56 x57 x58 x59 x60 x61 x70 x80 x90 x97 x99 x105 x112 x119 x126 x128 x129 x130 x131 x143 x145 x151 x153 x159 x161 x167 x169 x175 x177 x183 x185 h1 m10 m17 m24 m31 m38 m45 m52 m59 m81 m88 m95 m102 m109 m116 m123 m130 m146 m213 m223 m230 m240 m247 m254 m261 m268 m275 m282 m292 m299 m306 m319 m326 m354 m361 m368 m375 m382 m389 m396 m403 m410 m417 m424 m431 m438 m448 m455 m480 m487 m494).map (fun x => x.1) = stO.map (fun id => va (stV V (stQ h0 x1 x3 x4 x5 x6 x7 x8 x9 x10 x11 x12 x13 x14 x15 x16 x17 x23 x25 x26 x27 x28 x29 x30 x31 x32 x33 x34 x35 x36 x37 x38 x39 x45 x47 x48 x49 x50 x51 x52 x53 x54 x55 x56 x57 x58 x59 x60 x61 x70 x80 x90 x97 x99 x105 x112 x119 x126 x128 x129 x130 x131 x143 x145 x151 x153 x159 x161 x167 x169 x175 x177 x183 x185 h1 m10 m17 m24 m31 m38 m45 m52 m59 m81 m88 m95 m102 m109 m116 m123 m130 m146 m213 m223 m230 m240 m247 m254 m261 m268 m275 m282 m292 m299 m306 m319 m326 m354 m361 m368 m375 m382 m389 m396 m403 m410 m417 m424 m431 m438 m448 m455 m480 m487 m494)) id) := rfl
/-! what holds at the start -/
theorem st_spec {id k : Nat} {lo hi : Int} (h : lim id k = some (lo, hi)) : stI id k = 0 ∨ (stI id k = -1 ∧ lim id k = some (-1, 4)) := by
  by_cases e69 : id = 69
  · subst e69
    by_cases k0 : k = 0
    · subst k0; exact absurd (show (none : Option (Int × Int)) = some (lo, hi) from h) (by simp)
    by_cases k1 : k = 1
    · subst k1; exact absurd (show (none : Option (Int × Int)) = some (lo, hi) from h) (by simp)
    by_cases k2 : k = 2
    · subst k2; exact absurd (show (none : Option (Int × Int)) = some (lo, hi) from h) (by simp)
    left
    show stF k = 0
    unfold stF
    rw [if_neg k0, if_neg k1, if_neg k2]
  by_cases e74 : id = 74
  · subst e74; exact absurd (show (none : Option (Int × Int)) = some (lo, hi) from h) (by simp)
  by_cases e127 : id = 127
  · subst e127; exact absurd (show (none : Option (Int × Int)) = some (lo, hi) from h) (by simp)
  by_cases e171 : id = 171
  · subst e171; exact absurd (show (none : Option (Int × Int)) = some (lo, hi) from h) (by simp)
  by_cases ec : id = 1 ∨ id = 17 ∨ id = 33
  · by_cases k11 : k = 11
    · subst k11
      rcases ec with rfl | rfl | rfl <;> exact absurd (show (none : Option (Int × Int)) = some (lo, hi) from h) (by simp)
    · left
      have e : stC k = 0 := by unfold stC; rw [if_neg k11]
      rcases ec with rfl | rfl | rfl <;> exact e
  by_cases et : id = 52 ∨ id = 54 ∨ id = 56 ∨ id = 58 ∨ id = 60 ∨ id = 62
  · by_cases k1 : k = 1
    · subst k1
      right
      rcases et with rfl | rfl | rfl | rfl | rfl | rfl <;> exact ⟨rfl, rfl⟩
    · left
      have e : stT k = 0 := by unfold stT; rw [if_neg k1]
      rcases et with rfl | rfl | rfl | rfl | rfl | rfl <;> exact e
  left
  unfold stI
  rw [if_neg e69, if_neg e74, if_neg e127, if_neg e171, if_neg (by omega), if_neg (by omega), if_neg (by omega), if_neg (by omega), if_neg (by omega), if_neg (by omega), if_neg (by omega), if_neg (by omega), if_neg (by omega)]
  rfl
theorem st_lim0 {id k : Nat} {lo hi : Int} (h : lim id k = some (lo, hi)) : lo ≤ 0 ∧ 0 ≤ hi := by
  have hs : ∀ {a b : Int}, some (a, b) = some (lo, hi) → a ≤ 0 → 0 ≤ b → lo ≤ 0 ∧ 0 ≤ hi := fun q h1 h2 => by
    cases q; exact ⟨h1, h2⟩
  have hn : (none : Option (Int × Int)) = some (lo, hi) → lo ≤ 0 ∧ 0 ≤ hi := fun q => by cases q
  unfold lim at h
  split at h
  · unfold limL at h
    (repeat' split at h) <;> first | exact hn h | exact hs h (by decide +kernel) (by decide +kernel) | (unfold limC at h; (repeat' split at h) <;> first | exact hn h | exact hs h (by decide +kernel) (by decide +kernel))
  · split at h
    · unfold limF at h
      (repeat' split at h) <;> first | exact hn h | exact hs h (by decide +kernel) (by decide +kernel)
    · (repeat' split at h) <;> first | exact hn h | exact hs h (by decide +kernel) (by decide +kernel)
theorem st_hi {f : Nat} (h : 1000 ≤ f) : stR f = stRn := by
  unfold stR
  rw [if_neg (by omega), if_neg (by omega), if_neg (by omega)]
theorem st_XI {V : Vx} {Q : List Nat} : XI (stV V Q) st0 := by
  refine ⟨fun id k lo hi h => ?_, fun c hc => ⟨⟨69, ?_, kd_69, by rw [stV_fix]; decide⟩, fun k μ hμ => ?_⟩, fun k f hf => ?_, fun f hf => ?_⟩
  · show lo ≤ (stI id k).toInt ∧ (stI id k).toInt ≤ hi
    rcases st_spec h with e | ⟨e, e2⟩
    · rw [e]; exact st_lim0 h
    · rw [e]
      rw [e2] at h
      cases h
      decide
  · rcases hc with rfl | rfl | rfl <;> rfl
  · exfalso
    rcases hc with rfl | rfl | rfl
    · exact absurd (show (none : Option Nat) = some μ from hμ) (by simp)
    · exact absurd (show (none : Option Nat) = some μ from hμ) (by simp)
    · exact absurd (show (none : Option Nat) = some μ from hμ) (by simp)
  · exact absurd (show (none : Option Nat) = some f from hf) (by simp)
  · left
    rcases kdF_ge hf with rfl | ⟨h1, -, -⟩
    · rfl
    · show stR f 9 = none
      rw [st_hi h1]; rfl
theorem st_NN {c : Nat} (hc : c = 1 ∨ c = 17) : NN st0 c := by
  have e1 : (gi st0 c 1).toInt = 0 := by rcases hc with rfl | rfl <;> decide
  have e3 : (gi st0 c 3).toInt = 0 := by rcases hc with rfl | rfl <;> decide
  exact ⟨fun p hp => by rw [e3] at hp; omega, fun m hm => by rw [e1] at hm; omega⟩
theorem fixL_lt : ∀ id ∈ fixL, id < 175 := by decide +kernel
theorem st_FI {V : Vx} {Q : List Nat} : FI (stV V Q) st0 := fun k _ _ r _ hm => by
  rw [stV_fix] at hm
  have := fixL_lt _ hm
  omega
theorem st_bZ {n : Nat} {lo hi : Int} (h1 : lo ≤ 0) (h2 : 0 ≤ hi) : bnd stZ n lo hi := fun _ _ => ⟨h1, h2⟩
theorem st_MI0 : MI0 st0 := by unfold MI0; decide +kernel
theorem st_bL : bnd stL 19 0 127 := by unfold bnd; decide +kernel
theorem st_bS : bnd stS 6 (-1) 4 := by unfold bnd; decide +kernel
theorem st_MI1 : MI1 st0 :=
  ⟨st_bZ (by decide +kernel) (by decide +kernel), st_bZ (by decide +kernel) (by decide +kernel), st_bZ (by decide +kernel) (by decide +kernel), st_bZ (by decide +kernel) (by decide +kernel), st_bL, st_bZ (by decide +kernel) (by decide +kernel), st_bZ (by decide +kernel) (by decide +kernel), st_bZ (by decide +kernel) (by decide +kernel), st_bZ (by decide +kernel) (by decide +kernel), st_bZ (by decide +kernel) (by decide +kernel), st_bZ (by decide +kernel) (by decide +kernel), st_bZ (by decide +kernel) (by decide +kernel), st_bZ (by decide +kernel) (by decide +kernel), st_bZ (by decide +kernel) (by decide +kernel), st_bZ (by decide +kernel) (by decide +kernel), st_bS, st_bZ (by decide +kernel) (by decide +kernel)⟩
theorem st_11 : (gi st0 74 11).toInt = 0 := by decide +kernel
theorem st_12 : (gi st0 74 12).toInt = -1 := by decide +kernel
theorem st_50 : (gi st0 74 50).toInt = -1 := by decide +kernel
theorem st_FV : FV st0 := fun f _ h => by
  rw [st_11, st_12, st_50] at h
  exfalso
  omega
theorem st_IVM : IVM st0 := by
  refine ⟨⟨st_MI0, st_MI1, st_FV⟩, by rw [st_11, st_12]; decide, by rw [st_11, st_50]; decide, fun m hm => ?_, fun m hm => ?_, by decide +kernel, by decide +kernel⟩
  · have e : (gi st0 74 0).toInt = 0 := by decide +kernel
    rw [e] at hm; omega
  · have e : (gi st0 74 51).toInt = 0 := by decide +kernel
    rw [e] at hm; omega
theorem st_INV {V : Vx} {Q : List Nat} : INV (stV V Q) st0 := ⟨⟨st_XI, st_NN (Or.inl rfl), st_NN (Or.inr rfl), by decide +kernel, by decide +kernel, by decide +kernel, by decide +kernel, by decide +kernel, by decide +kernel, st_FI⟩, st_IVM⟩
theorem st_SX {V : Vx} {Q : List Nat} {U : State} (q : SX V U) : SX (stV V Q) U := by
  obtain ⟨q1, q2, q3, q4⟩ := q
  unfold SX
  refine ⟨vk_S_eq q1 (fun i hi => stV_hi (by omega)) (fun i hi => stV_hi (by omega)), fun i hi => ?_, q3, ?_⟩
  · rw [stV_hi (by omega)]; exact q2 i hi
  · rw [stV_hi (by decide +kernel)]; exact q4
theorem st_XC {V : Vx} {Q : List Nat} (q : XC V) : XC (stV V Q) := ⟨q.1, fun U hx => ⟨(q.2 U hx).1, st_SX (q.2 U hx).2⟩⟩
theorem st_wfd {V : Vx} {Q : List Nat} : wfd (stV V Q) := fun f hf hk => by
  rw [stV_fix] at hf ⊢
  exact (show ∀ f ∈ fixL, kd f = (12, 0) → f + 1 ∈ fixL ∧ f + 2 ∈ fixL ∧ f + 3 ∈ fixL ∧ f + 4 ∈ fixL by decide +kernel) f hf hk
theorem st_Cx {M : Mx} {cc : ByteArray} {ret : Option FieldType} {own : String} {Ts : List Cond} {rm : Room} {mc ms : Nat} {Qc : Array Value → State → Outcome → State → Prop} {Q : List Nat} (C : Cx M cc ret own Ts rm mc ms Qc) : Cx (mset M (stV (mV M) Q)) cc ret own Ts rm mc ms Qc := by
  obtain ⟨p, l, e, R, s, m, args, below, meth, c, V, nL, Qx⟩ := M
  obtain ⟨hx, hb, hml, hown, hts, hr, hlk, hK, hR, hQ, hw0, hX⟩ := C
  exact ⟨hx, hb, hml, hown, hts, hr, hlk, hK, hR, hQ, st_wfd, hX.1, st_XC hX.2⟩
/-- a constructor that asks for the private ones' links -/
theorem Z_ciK {M : Mx} {cc : ByteArray} {ret : Option FieldType} {own : String} {Ts : List Cond} {rm rc0 : Room} {mc ms : Nat} {Qc : Array Value → State → Outcome → State → Prop} {pc : Nat} {lv : List (Nat × Value)} {st : List Value} {ω : RWd} {kn : Nat × Nat} {Qk : RWd → Prop} {idx n b : Nat} {y : MethodName} {ws : List Cond} {As : List Value} (C : Cx M cc ret own Ts rm mc ms Qc) (hNW : mNW M) (k : KI own Ts rm idx y ws rc0 n) (hn : As.length = n) (hst : (st.map fun v => v.category).sum ≤ 8) (hd : decode cc pc = .ok (.invokespecial idx, 3)) (hf : kn.1 + rc0.cells ≤ rm.cells ∧ kn.2 + rc0.slots ≤ rm.slots) (hM : KrN (mL M) (mV M) y ws rc0 rc0.cells rc0.slots (.ref b :: As) ω (QRV (mV M) Qk)) (h : ∀ ω', Qk ω' → PR M (pc + 3) lv st ω' (kn.1 + rc0.cells, kn.2 + rc0.slots)) : PR M pc lv (As.reverse ++ .ref b :: st) ω kn := by
  obtain ⟨p, l, e, R, s, m, args, below, meth, c, V, nL, Q⟩ := M
  intro ls H locs hl hG hS
  obtain ⟨hx, hb, hml, hown, hts, hr, hlk, hK, rfl, rfl, hw, hX⟩ := C
  obtain ⟨bytes, maxL, ws', k1, k2, k3, k4, k5, k6, k7, k8⟩ := k
  have hst2 : 2 * (F0 m pc ls (As.reverse ++ .ref b :: st)).monitorRoom + (st.map fun v => v.category).sum ≤ 8 := by show 2 * 0 + _ ≤ 8; omega
  exact va_callv (va_runI (As := As) (b := b) ⟨hx, hb, hml, hown, hts⟩ hM (cwI n hts k1 k2 rfl rfl (hts _ k3) (hts _ k4) (hts _ k5) k6 k7 k8) ⟨GRRblindN, fun U hU hW => ⟨rfl, GRR_mk hU hG hK hw hX hS hW, NWU_w hW hNW⟩⟩ rfl hn hl.1 rfl hst2 hd hf) hS (fun _ _ h => h) (fun _ h => h) (fun u t H1 locs1 ht hvm hq hB hz hk hS1 => by subst ht; exact h u hq ls _ locs1 hl hB.1 hS1)
/-! at the start both states are alike -/
theorem st_RSC : RSC st0 := by
  unfold RSC
  decide +kernel
theorem st_TAP : TAP st0 := by
  intro t ht
  have h : ∀ t : Nat, t < 6 → gi st0 (52 + 2 * t) 1 = gi st0 171 t ∧ gi st0 (52 + 2 * t) 2 = gi st0 172 t ∧ (gi st0 172 t).toInt = 0 := by decide +kernel
  obtain ⟨h1, h2, h3⟩ := h t ht
  exact ⟨h1, h2, fun _ => h3, fun _ _ => rfl⟩
theorem st_REL2 : REL2 st0 := by
  have e1 : (gi st0 1 1).toInt = 0 := by decide +kernel
  have e17 : (gi st0 17 1).toInt = 0 := by decide +kernel
  exact ⟨⟨by decide +kernel, fun _ _ => rfl⟩, fun _ _ => rfl, fun _ _ => rfl, ⟨fun _ _ => rfl, fun _ _ _ => rfl⟩, ⟨fun _ _ => rfl, fun _ _ _ => rfl⟩, fun m hm => by omega, fun m hm => by omega⟩
theorem st_REL : REL st0 := ⟨st_RSC, st_TAP, st_REL2⟩
/-! at the start both are alike, texts and fields too -/
theorem st_ltrs : ∀ j, j < 19 → (gi st0 127 j).toInt = ltrs.getD j 0 := by decide +kernel
theorem st_LTM : LTM st0 := by
  intro j c h
  have hj : j < 19 := (List.getElem?_eq_some_iff.mp h).1
  have := st_ltrs j hj
  rw [List.getD_eq_getElem?_getD, h] at this
  exact this
theorem st_Fd : FdA st0 69 [] := by
  refine ⟨⟨by decide +kernel, fun i c h => ?_⟩, ⟨by decide +kernel, by decide +kernel, by decide +kernel⟩, ⟨by decide +kernel, fun j t h => ?_⟩⟩
  · rw [List.getElem?_nil] at h; cases h
  · rw [show toksOf ([] : List Cls) = [] from rfl, List.getElem?_nil] at h; cases h
theorem st_RF : RF st0 := by
  have e7 : (gi st0 0 7).toInt = 0 := by decide +kernel
  have e5 : (gi st0 0 5).toInt = 0 := by decide +kernel
  refine ⟨⟨⟨by decide +kernel, fun p hp => by omega⟩, ⟨by decide +kernel, by omega, fun k _ => Or.inl rfl, fun k hk => by omega⟩, st_Fd, st_LTM⟩, Or.inl ⟨by decide +kernel, rfl⟩, Or.inl ⟨by decide +kernel, rfl⟩⟩
theorem st_RELF : RELF st0 := ⟨st_REL, st_RF⟩
/-! at the start both are alike, the minutes too -/
theorem st_BNW : BNW st0 := by
  refine ⟨?_, ?_, ?_, ?_, ?_, ?_, ?_⟩ <;> (unfold BR; decide +kernel)
theorem st_BIM : BIM st0 := by
  refine ⟨?_, ?_, ?_, ?_, ?_, ?_, ?_⟩ <;> (unfold BR; decide +kernel)
theorem st_E1 : EQN st0 1 105 := by unfold EQN; decide +kernel
theorem st_E2 : EQN st0 17 158 := by unfold EQN; decide +kernel
theorem st_MN : MN st0 := ⟨st_BNW, st_BIM, st_E1, st_E2, by decide +kernel, by decide +kernel, by decide +kernel, by decide +kernel⟩
theorem st_RELM : RELM st0 := ⟨st_RELF, st_MN⟩
/-! at the start both are alike, what is told by hand too -/
theorem st_g0 : gi st0 9 1 = 0 ∧ gi st0 25 1 = 0 ∧ gi st0 11 1 = 0 ∧ gi st0 27 1 = 0 := by decide +kernel
theorem st_SNP : SNP st0 := by
  obtain ⟨h9, h25, h11, h27⟩ := st_g0
  refine ⟨fun k hk => ?_, fun k hk => ?_, fun k hk => ?_, fun k hk => ?_⟩
  · exfalso; rw [show (1 + 8 : Nat) = 9 from rfl, h9] at hk; have hk : 3 * (k : Int) < 0 := hk; omega
  · exfalso; rw [show (17 + 8 : Nat) = 25 from rfl, h25] at hk; have hk : 3 * (k : Int) < 0 := hk; omega
  · exfalso; rw [show (1 + 10 : Nat) = 11 from rfl, h11] at hk; have hk : (k : Int) < 0 := hk; omega
  · exfalso; rw [show (17 + 10 : Nat) = 27 from rfl, h27] at hk; have hk : (k : Int) < 0 := hk; omega
theorem st_RELS : RELS st0 := ⟨st_RELM, st_SNP⟩
/-! what is known at the law's entry -/
theorem st_no {args : Array Value} {s : State} {C T : String} {c t : ClassId} (h : (Cond.not (.castable C T)).before args s = true) (hc : s.vm.findClass C = some c) (ht : s.vm.findClass T = some t) : s.vm.assignable c t = false := by
  cases hb : s.vm.assignable c t with
  | false => rfl
  | true => simp [Cond.before, Cond.holds, Cond.value, hc, ht, hb] at h
theorem st_arr {args : Array Value} {s : State} {ty : FieldType} (h : (Cond.arrayClass ty).before args s = true) : ∃ cA, ArrOfT s cA ty ∧ s.vm.findClass ("[" ++ ty.toString) = some cA := by
  simp only [Cond.before, Cond.holds, Cond.value] at h
  cases hc : s.vm.findClass ("[" ++ ty.toString) with
  | none => simp [hc] at h
  | some c =>
    cases hk : s.vm.classes[c]? with
    | none => simp [hc, hk] at h
    | some k =>
      simp [hc, hk] at h
      cases hkind : k.kind with
      | array comp t => rw [hkind] at h; simp at h; subst h; exact ⟨c, fun n z => ⟨fun k h => (by cases h), k, hk, comp, hkind⟩, rfl⟩
      | _ => rw [hkind] at h; simp at h
theorem st_over {args : Array Value} {s : State} {n : String} (h : (Cond.arrayOver (.object n)).before args s = true) : ∃ cA, ArrOfT s cA (.object n) ∧ va_RA s cA (.object n) := by
  obtain ⟨comp, c, k, h1, h2, h3, h4, h5⟩ := Cond.arrayOver_spec h
  exact ⟨c, fun N z => ⟨fun k h => (by cases h), k, h3, comp, h4⟩, k, comp, h3, h4, h1, h5⟩
set_option maxRecDepth 20000 in
theorem st_ik_0_0 {b : Nat} {s : State} (hts : ∀ w ∈ lw_tbl, w.before #[Value.ref b] s = true) (hgv : (Jvm.Cond.and given_1 narrow_1).before #[Value.ref b] s = true) {c t : ClassId} (hc : s.vm.findClass (mnm 0) = some c) (ht : s.vm.findClass (mnm 0) = some t) : s.vm.assignable c t = msub 0 0 := vb_asgS t c ht hc
set_option maxRecDepth 20000 in
theorem st_ik_0_3 {b : Nat} {s : State} (hts : ∀ w ∈ lw_tbl, w.before #[Value.ref b] s = true) (hgv : (Jvm.Cond.and given_1 narrow_1).before #[Value.ref b] s = true) {c t : ClassId} (hc : s.vm.findClass (mnm 0) = some c) (ht : s.vm.findClass (mnm 3) = some t) : s.vm.assignable c t = msub 0 3 := st_no (flat_of_before _ hgv (Jvm.Cond.not (Jvm.Cond.castable "NineMowers$Boy" "NineMowers$Hasty")) (List.mem_of_getElem? (i := 39) rfl)) hc ht
set_option maxRecDepth 20000 in
theorem st_ik_0_4 {b : Nat} {s : State} (hts : ∀ w ∈ lw_tbl, w.before #[Value.ref b] s = true) (hgv : (Jvm.Cond.and given_1 narrow_1).before #[Value.ref b] s = true) {c t : ClassId} (hc : s.vm.findClass (mnm 0) = some c) (ht : s.vm.findClass (mnm 4) = some t) : s.vm.assignable c t = msub 0 4 := vb_asgC (va_Nw.of rfl (hts (Cond.castable "NineMowers$Boy" "NineMowers$Mower") (List.mem_append_right _ (List.mem_of_getElem? (i := 1610) (by decide +kernel))))) t c ht hc
set_option maxRecDepth 20000 in
theorem st_ik_0_6 {b : Nat} {s : State} (hts : ∀ w ∈ lw_tbl, w.before #[Value.ref b] s = true) (hgv : (Jvm.Cond.and given_1 narrow_1).before #[Value.ref b] s = true) {c t : ClassId} (hc : s.vm.findClass (mnm 0) = some c) (ht : s.vm.findClass (mnm 6) = some t) : s.vm.assignable c t = msub 0 6 := st_no (flat_of_before _ hgv (Jvm.Cond.not (Jvm.Cond.castable "NineMowers$Boy" "NineMowers$Old")) (List.mem_of_getElem? (i := 62) rfl)) hc ht
set_option maxRecDepth 20000 in
theorem st_ik_0_7 {b : Nat} {s : State} (hts : ∀ w ∈ lw_tbl, w.before #[Value.ref b] s = true) (hgv : (Jvm.Cond.and given_1 narrow_1).before #[Value.ref b] s = true) {c t : ClassId} (hc : s.vm.findClass (mnm 0) = some c) (ht : s.vm.findClass (mnm 7) = some t) : s.vm.assignable c t = msub 0 7 := st_no (flat_of_before _ hgv (Jvm.Cond.not (Jvm.Cond.castable "NineMowers$Boy" "NineMowers$Pressed")) (List.mem_of_getElem? (i := 74) rfl)) hc ht
set_option maxRecDepth 20000 in
theorem st_ik_0_8 {b : Nat} {s : State} (hts : ∀ w ∈ lw_tbl, w.before #[Value.ref b] s = true) (hgv : (Jvm.Cond.and given_1 narrow_1).before #[Value.ref b] s = true) {c t : ClassId} (hc : s.vm.findClass (mnm 0) = some c) (ht : s.vm.findClass (mnm 8) = some t) : s.vm.assignable c t = msub 0 8 := st_no (flat_of_before _ hgv (Jvm.Cond.not (Jvm.Cond.castable "NineMowers$Boy" "NineMowers$Steady")) (List.mem_of_getElem? (i := 28) rfl)) hc ht
set_option maxRecDepth 20000 in
theorem st_ik_0_10 {b : Nat} {s : State} (hts : ∀ w ∈ lw_tbl, w.before #[Value.ref b] s = true) (hgv : (Jvm.Cond.and given_1 narrow_1).before #[Value.ref b] s = true) {c t : ClassId} (hc : s.vm.findClass (mnm 0) = some c) (ht : s.vm.findClass (mnm 10) = some t) : s.vm.assignable c t = msub 0 10 := st_no (flat_of_before _ hgv (Jvm.Cond.not (Jvm.Cond.castable "NineMowers$Boy" "NineMowers$Told")) (List.mem_of_getElem? (i := 17) rfl)) hc ht
set_option maxRecDepth 20000 in
theorem st_ik_3_0 {b : Nat} {s : State} (hts : ∀ w ∈ lw_tbl, w.before #[Value.ref b] s = true) (hgv : (Jvm.Cond.and given_1 narrow_1).before #[Value.ref b] s = true) {c t : ClassId} (hc : s.vm.findClass (mnm 3) = some c) (ht : s.vm.findClass (mnm 0) = some t) : s.vm.assignable c t = msub 3 0 := st_no (flat_of_before _ hgv (Jvm.Cond.not (Jvm.Cond.castable "NineMowers$Hasty" "NineMowers$Boy")) (List.mem_of_getElem? (i := 50) rfl)) hc ht
set_option maxRecDepth 20000 in
theorem st_ik_3_3 {b : Nat} {s : State} (hts : ∀ w ∈ lw_tbl, w.before #[Value.ref b] s = true) (hgv : (Jvm.Cond.and given_1 narrow_1).before #[Value.ref b] s = true) {c t : ClassId} (hc : s.vm.findClass (mnm 3) = some c) (ht : s.vm.findClass (mnm 3) = some t) : s.vm.assignable c t = msub 3 3 := vb_asgS t c ht hc
set_option maxRecDepth 20000 in
theorem st_ik_3_4 {b : Nat} {s : State} (hts : ∀ w ∈ lw_tbl, w.before #[Value.ref b] s = true) (hgv : (Jvm.Cond.and given_1 narrow_1).before #[Value.ref b] s = true) {c t : ClassId} (hc : s.vm.findClass (mnm 3) = some c) (ht : s.vm.findClass (mnm 4) = some t) : s.vm.assignable c t = msub 3 4 := vb_asgC (va_Nw.of rfl (hts (Cond.castable "NineMowers$Hasty" "NineMowers$Mower") (List.mem_append_right _ (List.mem_of_getElem? (i := 1609) (by decide +kernel))))) t c ht hc
set_option maxRecDepth 20000 in
theorem st_ik_3_6 {b : Nat} {s : State} (hts : ∀ w ∈ lw_tbl, w.before #[Value.ref b] s = true) (hgv : (Jvm.Cond.and given_1 narrow_1).before #[Value.ref b] s = true) {c t : ClassId} (hc : s.vm.findClass (mnm 3) = some c) (ht : s.vm.findClass (mnm 6) = some t) : s.vm.assignable c t = msub 3 6 := st_no (flat_of_before _ hgv (Jvm.Cond.not (Jvm.Cond.castable "NineMowers$Hasty" "NineMowers$Old")) (List.mem_of_getElem? (i := 61) rfl)) hc ht
set_option maxRecDepth 20000 in
theorem st_ik_3_7 {b : Nat} {s : State} (hts : ∀ w ∈ lw_tbl, w.before #[Value.ref b] s = true) (hgv : (Jvm.Cond.and given_1 narrow_1).before #[Value.ref b] s = true) {c t : ClassId} (hc : s.vm.findClass (mnm 3) = some c) (ht : s.vm.findClass (mnm 7) = some t) : s.vm.assignable c t = msub 3 7 := st_no (flat_of_before _ hgv (Jvm.Cond.not (Jvm.Cond.castable "NineMowers$Hasty" "NineMowers$Pressed")) (List.mem_of_getElem? (i := 73) rfl)) hc ht
set_option maxRecDepth 20000 in
theorem st_ik_3_8 {b : Nat} {s : State} (hts : ∀ w ∈ lw_tbl, w.before #[Value.ref b] s = true) (hgv : (Jvm.Cond.and given_1 narrow_1).before #[Value.ref b] s = true) {c t : ClassId} (hc : s.vm.findClass (mnm 3) = some c) (ht : s.vm.findClass (mnm 8) = some t) : s.vm.assignable c t = msub 3 8 := st_no (flat_of_before _ hgv (Jvm.Cond.not (Jvm.Cond.castable "NineMowers$Hasty" "NineMowers$Steady")) (List.mem_of_getElem? (i := 27) rfl)) hc ht
set_option maxRecDepth 20000 in
theorem st_ik_3_10 {b : Nat} {s : State} (hts : ∀ w ∈ lw_tbl, w.before #[Value.ref b] s = true) (hgv : (Jvm.Cond.and given_1 narrow_1).before #[Value.ref b] s = true) {c t : ClassId} (hc : s.vm.findClass (mnm 3) = some c) (ht : s.vm.findClass (mnm 10) = some t) : s.vm.assignable c t = msub 3 10 := st_no (flat_of_before _ hgv (Jvm.Cond.not (Jvm.Cond.castable "NineMowers$Hasty" "NineMowers$Told")) (List.mem_of_getElem? (i := 16) rfl)) hc ht
set_option maxRecDepth 20000 in
theorem st_ik_4_0 {b : Nat} {s : State} (hts : ∀ w ∈ lw_tbl, w.before #[Value.ref b] s = true) (hgv : (Jvm.Cond.and given_1 narrow_1).before #[Value.ref b] s = true) {c t : ClassId} (hc : s.vm.findClass (mnm 4) = some c) (ht : s.vm.findClass (mnm 0) = some t) : s.vm.assignable c t = msub 4 0 := st_no (flat_of_before _ hgv (Jvm.Cond.not (Jvm.Cond.castable "NineMowers$Mower" "NineMowers$Boy")) (List.mem_of_getElem? (i := 53) rfl)) hc ht
set_option maxRecDepth 20000 in
theorem st_ik_4_3 {b : Nat} {s : State} (hts : ∀ w ∈ lw_tbl, w.before #[Value.ref b] s = true) (hgv : (Jvm.Cond.and given_1 narrow_1).before #[Value.ref b] s = true) {c t : ClassId} (hc : s.vm.findClass (mnm 4) = some c) (ht : s.vm.findClass (mnm 3) = some t) : s.vm.assignable c t = msub 4 3 := st_no (flat_of_before _ hgv (Jvm.Cond.not (Jvm.Cond.castable "NineMowers$Mower" "NineMowers$Hasty")) (List.mem_of_getElem? (i := 42) rfl)) hc ht
set_option maxRecDepth 20000 in
theorem st_ik_4_4 {b : Nat} {s : State} (hts : ∀ w ∈ lw_tbl, w.before #[Value.ref b] s = true) (hgv : (Jvm.Cond.and given_1 narrow_1).before #[Value.ref b] s = true) {c t : ClassId} (hc : s.vm.findClass (mnm 4) = some c) (ht : s.vm.findClass (mnm 4) = some t) : s.vm.assignable c t = msub 4 4 := vb_asgS t c ht hc
set_option maxRecDepth 20000 in
theorem st_ik_4_6 {b : Nat} {s : State} (hts : ∀ w ∈ lw_tbl, w.before #[Value.ref b] s = true) (hgv : (Jvm.Cond.and given_1 narrow_1).before #[Value.ref b] s = true) {c t : ClassId} (hc : s.vm.findClass (mnm 4) = some c) (ht : s.vm.findClass (mnm 6) = some t) : s.vm.assignable c t = msub 4 6 := st_no (flat_of_before _ hgv (Jvm.Cond.not (Jvm.Cond.castable "NineMowers$Mower" "NineMowers$Old")) (List.mem_of_getElem? (i := 65) rfl)) hc ht
set_option maxRecDepth 20000 in
theorem st_ik_4_7 {b : Nat} {s : State} (hts : ∀ w ∈ lw_tbl, w.before #[Value.ref b] s = true) (hgv : (Jvm.Cond.and given_1 narrow_1).before #[Value.ref b] s = true) {c t : ClassId} (hc : s.vm.findClass (mnm 4) = some c) (ht : s.vm.findClass (mnm 7) = some t) : s.vm.assignable c t = msub 4 7 := st_no (flat_of_before _ hgv (Jvm.Cond.not (Jvm.Cond.castable "NineMowers$Mower" "NineMowers$Pressed")) (List.mem_of_getElem? (i := 77) rfl)) hc ht
set_option maxRecDepth 20000 in
theorem st_ik_4_8 {b : Nat} {s : State} (hts : ∀ w ∈ lw_tbl, w.before #[Value.ref b] s = true) (hgv : (Jvm.Cond.and given_1 narrow_1).before #[Value.ref b] s = true) {c t : ClassId} (hc : s.vm.findClass (mnm 4) = some c) (ht : s.vm.findClass (mnm 8) = some t) : s.vm.assignable c t = msub 4 8 := st_no (flat_of_before _ hgv (Jvm.Cond.not (Jvm.Cond.castable "NineMowers$Mower" "NineMowers$Steady")) (List.mem_of_getElem? (i := 31) rfl)) hc ht
set_option maxRecDepth 20000 in
theorem st_ik_4_10 {b : Nat} {s : State} (hts : ∀ w ∈ lw_tbl, w.before #[Value.ref b] s = true) (hgv : (Jvm.Cond.and given_1 narrow_1).before #[Value.ref b] s = true) {c t : ClassId} (hc : s.vm.findClass (mnm 4) = some c) (ht : s.vm.findClass (mnm 10) = some t) : s.vm.assignable c t = msub 4 10 := st_no (flat_of_before _ hgv (Jvm.Cond.not (Jvm.Cond.castable "NineMowers$Mower" "NineMowers$Told")) (List.mem_of_getElem? (i := 20) rfl)) hc ht
set_option maxRecDepth 20000 in
theorem st_ik_6_0 {b : Nat} {s : State} (hts : ∀ w ∈ lw_tbl, w.before #[Value.ref b] s = true) (hgv : (Jvm.Cond.and given_1 narrow_1).before #[Value.ref b] s = true) {c t : ClassId} (hc : s.vm.findClass (mnm 6) = some c) (ht : s.vm.findClass (mnm 0) = some t) : s.vm.assignable c t = msub 6 0 := st_no (flat_of_before _ hgv (Jvm.Cond.not (Jvm.Cond.castable "NineMowers$Old" "NineMowers$Boy")) (List.mem_of_getElem? (i := 51) rfl)) hc ht
set_option maxRecDepth 20000 in
theorem st_ik_6_3 {b : Nat} {s : State} (hts : ∀ w ∈ lw_tbl, w.before #[Value.ref b] s = true) (hgv : (Jvm.Cond.and given_1 narrow_1).before #[Value.ref b] s = true) {c t : ClassId} (hc : s.vm.findClass (mnm 6) = some c) (ht : s.vm.findClass (mnm 3) = some t) : s.vm.assignable c t = msub 6 3 := st_no (flat_of_before _ hgv (Jvm.Cond.not (Jvm.Cond.castable "NineMowers$Old" "NineMowers$Hasty")) (List.mem_of_getElem? (i := 40) rfl)) hc ht
set_option maxRecDepth 20000 in
theorem st_ik_6_4 {b : Nat} {s : State} (hts : ∀ w ∈ lw_tbl, w.before #[Value.ref b] s = true) (hgv : (Jvm.Cond.and given_1 narrow_1).before #[Value.ref b] s = true) {c t : ClassId} (hc : s.vm.findClass (mnm 6) = some c) (ht : s.vm.findClass (mnm 4) = some t) : s.vm.assignable c t = msub 6 4 := vb_asgC (va_Nw.of rfl (hts (Cond.castable "NineMowers$Old" "NineMowers$Mower") (List.mem_append_right _ (List.mem_of_getElem? (i := 1611) (by decide +kernel))))) t c ht hc
set_option maxRecDepth 20000 in
theorem st_ik_6_6 {b : Nat} {s : State} (hts : ∀ w ∈ lw_tbl, w.before #[Value.ref b] s = true) (hgv : (Jvm.Cond.and given_1 narrow_1).before #[Value.ref b] s = true) {c t : ClassId} (hc : s.vm.findClass (mnm 6) = some c) (ht : s.vm.findClass (mnm 6) = some t) : s.vm.assignable c t = msub 6 6 := vb_asgS t c ht hc
set_option maxRecDepth 20000 in
theorem st_ik_6_7 {b : Nat} {s : State} (hts : ∀ w ∈ lw_tbl, w.before #[Value.ref b] s = true) (hgv : (Jvm.Cond.and given_1 narrow_1).before #[Value.ref b] s = true) {c t : ClassId} (hc : s.vm.findClass (mnm 6) = some c) (ht : s.vm.findClass (mnm 7) = some t) : s.vm.assignable c t = msub 6 7 := st_no (flat_of_before _ hgv (Jvm.Cond.not (Jvm.Cond.castable "NineMowers$Old" "NineMowers$Pressed")) (List.mem_of_getElem? (i := 75) rfl)) hc ht
set_option maxRecDepth 20000 in
theorem st_ik_6_8 {b : Nat} {s : State} (hts : ∀ w ∈ lw_tbl, w.before #[Value.ref b] s = true) (hgv : (Jvm.Cond.and given_1 narrow_1).before #[Value.ref b] s = true) {c t : ClassId} (hc : s.vm.findClass (mnm 6) = some c) (ht : s.vm.findClass (mnm 8) = some t) : s.vm.assignable c t = msub 6 8 := vb_asgC (va_Nw.of rfl (hts (Cond.castable "NineMowers$Old" "NineMowers$Steady") (List.mem_append_right _ (List.mem_of_getElem? (i := 1605) (by decide +kernel))))) t c ht hc
set_option maxRecDepth 20000 in
theorem st_ik_6_10 {b : Nat} {s : State} (hts : ∀ w ∈ lw_tbl, w.before #[Value.ref b] s = true) (hgv : (Jvm.Cond.and given_1 narrow_1).before #[Value.ref b] s = true) {c t : ClassId} (hc : s.vm.findClass (mnm 6) = some c) (ht : s.vm.findClass (mnm 10) = some t) : s.vm.assignable c t = msub 6 10 := st_no (flat_of_before _ hgv (Jvm.Cond.not (Jvm.Cond.castable "NineMowers$Old" "NineMowers$Told")) (List.mem_of_getElem? (i := 18) rfl)) hc ht
set_option maxRecDepth 20000 in
theorem st_ik_7_0 {b : Nat} {s : State} (hts : ∀ w ∈ lw_tbl, w.before #[Value.ref b] s = true) (hgv : (Jvm.Cond.and given_1 narrow_1).before #[Value.ref b] s = true) {c t : ClassId} (hc : s.vm.findClass (mnm 7) = some c) (ht : s.vm.findClass (mnm 0) = some t) : s.vm.assignable c t = msub 7 0 := st_no (flat_of_before _ hgv (Jvm.Cond.not (Jvm.Cond.castable "NineMowers$Pressed" "NineMowers$Boy")) (List.mem_of_getElem? (i := 52) rfl)) hc ht
set_option maxRecDepth 20000 in
theorem st_ik_7_3 {b : Nat} {s : State} (hts : ∀ w ∈ lw_tbl, w.before #[Value.ref b] s = true) (hgv : (Jvm.Cond.and given_1 narrow_1).before #[Value.ref b] s = true) {c t : ClassId} (hc : s.vm.findClass (mnm 7) = some c) (ht : s.vm.findClass (mnm 3) = some t) : s.vm.assignable c t = msub 7 3 := vb_asgC (va_Nw.of rfl (hts (Cond.castable "NineMowers$Pressed" "NineMowers$Hasty") (List.mem_append_right _ (List.mem_of_getElem? (i := 1606) (by decide +kernel))))) t c ht hc
set_option maxRecDepth 20000 in
theorem st_ik_7_4 {b : Nat} {s : State} (hts : ∀ w ∈ lw_tbl, w.before #[Value.ref b] s = true) (hgv : (Jvm.Cond.and given_1 narrow_1).before #[Value.ref b] s = true) {c t : ClassId} (hc : s.vm.findClass (mnm 7) = some c) (ht : s.vm.findClass (mnm 4) = some t) : s.vm.assignable c t = msub 7 4 := vb_asgC (va_Nw.of rfl (hts (Cond.castable "NineMowers$Pressed" "NineMowers$Mower") (List.mem_append_right _ (List.mem_of_getElem? (i := 1612) (by decide +kernel))))) t c ht hc
set_option maxRecDepth 20000 in
theorem st_ik_7_6 {b : Nat} {s : State} (hts : ∀ w ∈ lw_tbl, w.before #[Value.ref b] s = true) (hgv : (Jvm.Cond.and given_1 narrow_1).before #[Value.ref b] s = true) {c t : ClassId} (hc : s.vm.findClass (mnm 7) = some c) (ht : s.vm.findClass (mnm 6) = some t) : s.vm.assignable c t = msub 7 6 := st_no (flat_of_before _ hgv (Jvm.Cond.not (Jvm.Cond.castable "NineMowers$Pressed" "NineMowers$Old")) (List.mem_of_getElem? (i := 63) rfl)) hc ht
set_option maxRecDepth 20000 in
theorem st_ik_7_7 {b : Nat} {s : State} (hts : ∀ w ∈ lw_tbl, w.before #[Value.ref b] s = true) (hgv : (Jvm.Cond.and given_1 narrow_1).before #[Value.ref b] s = true) {c t : ClassId} (hc : s.vm.findClass (mnm 7) = some c) (ht : s.vm.findClass (mnm 7) = some t) : s.vm.assignable c t = msub 7 7 := vb_asgS t c ht hc
set_option maxRecDepth 20000 in
theorem st_ik_7_8 {b : Nat} {s : State} (hts : ∀ w ∈ lw_tbl, w.before #[Value.ref b] s = true) (hgv : (Jvm.Cond.and given_1 narrow_1).before #[Value.ref b] s = true) {c t : ClassId} (hc : s.vm.findClass (mnm 7) = some c) (ht : s.vm.findClass (mnm 8) = some t) : s.vm.assignable c t = msub 7 8 := st_no (flat_of_before _ hgv (Jvm.Cond.not (Jvm.Cond.castable "NineMowers$Pressed" "NineMowers$Steady")) (List.mem_of_getElem? (i := 29) rfl)) hc ht
set_option maxRecDepth 20000 in
theorem st_ik_7_10 {b : Nat} {s : State} (hts : ∀ w ∈ lw_tbl, w.before #[Value.ref b] s = true) (hgv : (Jvm.Cond.and given_1 narrow_1).before #[Value.ref b] s = true) {c t : ClassId} (hc : s.vm.findClass (mnm 7) = some c) (ht : s.vm.findClass (mnm 10) = some t) : s.vm.assignable c t = msub 7 10 := st_no (flat_of_before _ hgv (Jvm.Cond.not (Jvm.Cond.castable "NineMowers$Pressed" "NineMowers$Told")) (List.mem_of_getElem? (i := 19) rfl)) hc ht
set_option maxRecDepth 20000 in
theorem st_ik_8_0 {b : Nat} {s : State} (hts : ∀ w ∈ lw_tbl, w.before #[Value.ref b] s = true) (hgv : (Jvm.Cond.and given_1 narrow_1).before #[Value.ref b] s = true) {c t : ClassId} (hc : s.vm.findClass (mnm 8) = some c) (ht : s.vm.findClass (mnm 0) = some t) : s.vm.assignable c t = msub 8 0 := st_no (flat_of_before _ hgv (Jvm.Cond.not (Jvm.Cond.castable "NineMowers$Steady" "NineMowers$Boy")) (List.mem_of_getElem? (i := 49) rfl)) hc ht
set_option maxRecDepth 20000 in
theorem st_ik_8_3 {b : Nat} {s : State} (hts : ∀ w ∈ lw_tbl, w.before #[Value.ref b] s = true) (hgv : (Jvm.Cond.and given_1 narrow_1).before #[Value.ref b] s = true) {c t : ClassId} (hc : s.vm.findClass (mnm 8) = some c) (ht : s.vm.findClass (mnm 3) = some t) : s.vm.assignable c t = msub 8 3 := st_no (flat_of_before _ hgv (Jvm.Cond.not (Jvm.Cond.castable "NineMowers$Steady" "NineMowers$Hasty")) (List.mem_of_getElem? (i := 38) rfl)) hc ht
set_option maxRecDepth 20000 in
theorem st_ik_8_4 {b : Nat} {s : State} (hts : ∀ w ∈ lw_tbl, w.before #[Value.ref b] s = true) (hgv : (Jvm.Cond.and given_1 narrow_1).before #[Value.ref b] s = true) {c t : ClassId} (hc : s.vm.findClass (mnm 8) = some c) (ht : s.vm.findClass (mnm 4) = some t) : s.vm.assignable c t = msub 8 4 := vb_asgC (va_Nw.of rfl (hts (Cond.castable "NineMowers$Steady" "NineMowers$Mower") (List.mem_append_right _ (List.mem_of_getElem? (i := 1608) (by decide +kernel))))) t c ht hc
set_option maxRecDepth 20000 in
theorem st_ik_8_6 {b : Nat} {s : State} (hts : ∀ w ∈ lw_tbl, w.before #[Value.ref b] s = true) (hgv : (Jvm.Cond.and given_1 narrow_1).before #[Value.ref b] s = true) {c t : ClassId} (hc : s.vm.findClass (mnm 8) = some c) (ht : s.vm.findClass (mnm 6) = some t) : s.vm.assignable c t = msub 8 6 := st_no (flat_of_before _ hgv (Jvm.Cond.not (Jvm.Cond.castable "NineMowers$Steady" "NineMowers$Old")) (List.mem_of_getElem? (i := 60) rfl)) hc ht
set_option maxRecDepth 20000 in
theorem st_ik_8_7 {b : Nat} {s : State} (hts : ∀ w ∈ lw_tbl, w.before #[Value.ref b] s = true) (hgv : (Jvm.Cond.and given_1 narrow_1).before #[Value.ref b] s = true) {c t : ClassId} (hc : s.vm.findClass (mnm 8) = some c) (ht : s.vm.findClass (mnm 7) = some t) : s.vm.assignable c t = msub 8 7 := st_no (flat_of_before _ hgv (Jvm.Cond.not (Jvm.Cond.castable "NineMowers$Steady" "NineMowers$Pressed")) (List.mem_of_getElem? (i := 72) rfl)) hc ht
set_option maxRecDepth 20000 in
theorem st_ik_8_8 {b : Nat} {s : State} (hts : ∀ w ∈ lw_tbl, w.before #[Value.ref b] s = true) (hgv : (Jvm.Cond.and given_1 narrow_1).before #[Value.ref b] s = true) {c t : ClassId} (hc : s.vm.findClass (mnm 8) = some c) (ht : s.vm.findClass (mnm 8) = some t) : s.vm.assignable c t = msub 8 8 := vb_asgS t c ht hc
set_option maxRecDepth 20000 in
theorem st_ik_8_10 {b : Nat} {s : State} (hts : ∀ w ∈ lw_tbl, w.before #[Value.ref b] s = true) (hgv : (Jvm.Cond.and given_1 narrow_1).before #[Value.ref b] s = true) {c t : ClassId} (hc : s.vm.findClass (mnm 8) = some c) (ht : s.vm.findClass (mnm 10) = some t) : s.vm.assignable c t = msub 8 10 := st_no (flat_of_before _ hgv (Jvm.Cond.not (Jvm.Cond.castable "NineMowers$Steady" "NineMowers$Told")) (List.mem_of_getElem? (i := 15) rfl)) hc ht
set_option maxRecDepth 20000 in
theorem st_ik_10_0 {b : Nat} {s : State} (hts : ∀ w ∈ lw_tbl, w.before #[Value.ref b] s = true) (hgv : (Jvm.Cond.and given_1 narrow_1).before #[Value.ref b] s = true) {c t : ClassId} (hc : s.vm.findClass (mnm 10) = some c) (ht : s.vm.findClass (mnm 0) = some t) : s.vm.assignable c t = msub 10 0 := vb_asgC (va_Nw.of rfl (hts (Cond.castable "NineMowers$Told" "NineMowers$Boy") (List.mem_append_right _ (List.mem_of_getElem? (i := 1607) (by decide +kernel))))) t c ht hc
set_option maxRecDepth 20000 in
theorem st_ik_10_3 {b : Nat} {s : State} (hts : ∀ w ∈ lw_tbl, w.before #[Value.ref b] s = true) (hgv : (Jvm.Cond.and given_1 narrow_1).before #[Value.ref b] s = true) {c t : ClassId} (hc : s.vm.findClass (mnm 10) = some c) (ht : s.vm.findClass (mnm 3) = some t) : s.vm.assignable c t = msub 10 3 := st_no (flat_of_before _ hgv (Jvm.Cond.not (Jvm.Cond.castable "NineMowers$Told" "NineMowers$Hasty")) (List.mem_of_getElem? (i := 41) rfl)) hc ht
set_option maxRecDepth 20000 in
theorem st_ik_10_4 {b : Nat} {s : State} (hts : ∀ w ∈ lw_tbl, w.before #[Value.ref b] s = true) (hgv : (Jvm.Cond.and given_1 narrow_1).before #[Value.ref b] s = true) {c t : ClassId} (hc : s.vm.findClass (mnm 10) = some c) (ht : s.vm.findClass (mnm 4) = some t) : s.vm.assignable c t = msub 10 4 := vb_asgC (va_Nw.of rfl (hts (Cond.castable "NineMowers$Told" "NineMowers$Mower") (List.mem_append_right _ (List.mem_of_getElem? (i := 1613) (by decide +kernel))))) t c ht hc
set_option maxRecDepth 20000 in
theorem st_ik_10_6 {b : Nat} {s : State} (hts : ∀ w ∈ lw_tbl, w.before #[Value.ref b] s = true) (hgv : (Jvm.Cond.and given_1 narrow_1).before #[Value.ref b] s = true) {c t : ClassId} (hc : s.vm.findClass (mnm 10) = some c) (ht : s.vm.findClass (mnm 6) = some t) : s.vm.assignable c t = msub 10 6 := st_no (flat_of_before _ hgv (Jvm.Cond.not (Jvm.Cond.castable "NineMowers$Told" "NineMowers$Old")) (List.mem_of_getElem? (i := 64) rfl)) hc ht
set_option maxRecDepth 20000 in
theorem st_ik_10_7 {b : Nat} {s : State} (hts : ∀ w ∈ lw_tbl, w.before #[Value.ref b] s = true) (hgv : (Jvm.Cond.and given_1 narrow_1).before #[Value.ref b] s = true) {c t : ClassId} (hc : s.vm.findClass (mnm 10) = some c) (ht : s.vm.findClass (mnm 7) = some t) : s.vm.assignable c t = msub 10 7 := st_no (flat_of_before _ hgv (Jvm.Cond.not (Jvm.Cond.castable "NineMowers$Told" "NineMowers$Pressed")) (List.mem_of_getElem? (i := 76) rfl)) hc ht
set_option maxRecDepth 20000 in
theorem st_ik_10_8 {b : Nat} {s : State} (hts : ∀ w ∈ lw_tbl, w.before #[Value.ref b] s = true) (hgv : (Jvm.Cond.and given_1 narrow_1).before #[Value.ref b] s = true) {c t : ClassId} (hc : s.vm.findClass (mnm 10) = some c) (ht : s.vm.findClass (mnm 8) = some t) : s.vm.assignable c t = msub 10 8 := st_no (flat_of_before _ hgv (Jvm.Cond.not (Jvm.Cond.castable "NineMowers$Told" "NineMowers$Steady")) (List.mem_of_getElem? (i := 30) rfl)) hc ht
set_option maxRecDepth 20000 in
theorem st_ik_10_10 {b : Nat} {s : State} (hts : ∀ w ∈ lw_tbl, w.before #[Value.ref b] s = true) (hgv : (Jvm.Cond.and given_1 narrow_1).before #[Value.ref b] s = true) {c t : ClassId} (hc : s.vm.findClass (mnm 10) = some c) (ht : s.vm.findClass (mnm 10) = some t) : s.vm.assignable c t = msub 10 10 := vb_asgS t c ht hc
theorem st_IK {b : Nat} {s : State} (hts : ∀ w ∈ lw_tbl, w.before #[Value.ref b] s = true) (hgv : (Jvm.Cond.and given_1 narrow_1).before #[Value.ref b] s = true) : IK s := by
  intro ci ct hci hct c t hc ht
  simp only [mcs, List.mem_cons, List.not_mem_nil, or_false] at hci hct
  rcases hci with rfl | rfl | rfl | rfl | rfl | rfl | rfl
  · rcases hct with rfl | rfl | rfl | rfl | rfl | rfl | rfl
    · exact st_ik_0_0 hts hgv hc ht
    · exact st_ik_0_3 hts hgv hc ht
    · exact st_ik_0_4 hts hgv hc ht
    · exact st_ik_0_6 hts hgv hc ht
    · exact st_ik_0_7 hts hgv hc ht
    · exact st_ik_0_8 hts hgv hc ht
    · exact st_ik_0_10 hts hgv hc ht
  · rcases hct with rfl | rfl | rfl | rfl | rfl | rfl | rfl
    · exact st_ik_3_0 hts hgv hc ht
    · exact st_ik_3_3 hts hgv hc ht
    · exact st_ik_3_4 hts hgv hc ht
    · exact st_ik_3_6 hts hgv hc ht
    · exact st_ik_3_7 hts hgv hc ht
    · exact st_ik_3_8 hts hgv hc ht
    · exact st_ik_3_10 hts hgv hc ht
  · rcases hct with rfl | rfl | rfl | rfl | rfl | rfl | rfl
    · exact st_ik_4_0 hts hgv hc ht
    · exact st_ik_4_3 hts hgv hc ht
    · exact st_ik_4_4 hts hgv hc ht
    · exact st_ik_4_6 hts hgv hc ht
    · exact st_ik_4_7 hts hgv hc ht
    · exact st_ik_4_8 hts hgv hc ht
    · exact st_ik_4_10 hts hgv hc ht
  · rcases hct with rfl | rfl | rfl | rfl | rfl | rfl | rfl
    · exact st_ik_6_0 hts hgv hc ht
    · exact st_ik_6_3 hts hgv hc ht
    · exact st_ik_6_4 hts hgv hc ht
    · exact st_ik_6_6 hts hgv hc ht
    · exact st_ik_6_7 hts hgv hc ht
    · exact st_ik_6_8 hts hgv hc ht
    · exact st_ik_6_10 hts hgv hc ht
  · rcases hct with rfl | rfl | rfl | rfl | rfl | rfl | rfl
    · exact st_ik_7_0 hts hgv hc ht
    · exact st_ik_7_3 hts hgv hc ht
    · exact st_ik_7_4 hts hgv hc ht
    · exact st_ik_7_6 hts hgv hc ht
    · exact st_ik_7_7 hts hgv hc ht
    · exact st_ik_7_8 hts hgv hc ht
    · exact st_ik_7_10 hts hgv hc ht
  · rcases hct with rfl | rfl | rfl | rfl | rfl | rfl | rfl
    · exact st_ik_8_0 hts hgv hc ht
    · exact st_ik_8_3 hts hgv hc ht
    · exact st_ik_8_4 hts hgv hc ht
    · exact st_ik_8_6 hts hgv hc ht
    · exact st_ik_8_7 hts hgv hc ht
    · exact st_ik_8_8 hts hgv hc ht
    · exact st_ik_8_10 hts hgv hc ht
  · rcases hct with rfl | rfl | rfl | rfl | rfl | rfl | rfl
    · exact st_ik_10_0 hts hgv hc ht
    · exact st_ik_10_3 hts hgv hc ht
    · exact st_ik_10_4 hts hgv hc ht
    · exact st_ik_10_6 hts hgv hc ht
    · exact st_ik_10_7 hts hgv hc ht
    · exact st_ik_10_8 hts hgv hc ht
    · exact st_ik_10_10 hts hgv hc ht
noncomputable def stTm (i : Nat) : Term := Term.string "NineMowers$Field" (jIdx.getD i 0)
set_option maxRecDepth 20000 in
set_option maxHeartbeats 4000000 in
theorem st_txt {b : Nat} {s : State} {A : Nat → Prop} (hgv : (Jvm.Cond.and given_1 narrow_1).before #[Value.ref b] s = true) (hA : ∀ a : Nat, a < s.heap.size → ¬ A a) : ∃ adK adV : Nat → Nat, vk_S 8 jLen jByt adK adV A s s.heap ∧ ∀ i : Nat, i < 8 → (stTm i).eval #[Value.ref b] s none [] s = some (.ref (adK i)) := by
  have hs := flat_of_before _ hgv
  refine vk_Sof (tm := stTm) (fun i hi => ?_) (fun i hi => ?_) (fun i hi => ?_) (fun i hi => ?_) (fun i hi => ?_) (fun i hi j hj => ?_) (fun i j hi hj hne => ?_) hA
  · rcases i with _ | _ | _ | _ | _ | _ | _ | _ | i <;> first | decide | omega
  · rcases i with _ | _ | _ | _ | _ | _ | _ | _ | i
    · exact hs _ (List.mem_of_getElem? (i := 159) rfl)
    · exact hs _ (List.mem_of_getElem? (i := 168) rfl)
    · exact hs _ (List.mem_of_getElem? (i := 178) rfl)
    · exact hs _ (List.mem_of_getElem? (i := 189) rfl)
    · exact hs _ (List.mem_of_getElem? (i := 200) rfl)
    · exact hs _ (List.mem_of_getElem? (i := 213) rfl)
    · exact hs _ (List.mem_of_getElem? (i := 227) rfl)
    · exact hs _ (List.mem_of_getElem? (i := 243) rfl)
    · omega
  · rcases i with _ | _ | _ | _ | _ | _ | _ | _ | i
    · exact hs _ (List.mem_of_getElem? (i := 160) rfl)
    · exact hs _ (List.mem_of_getElem? (i := 169) rfl)
    · exact hs _ (List.mem_of_getElem? (i := 179) rfl)
    · exact hs _ (List.mem_of_getElem? (i := 190) rfl)
    · exact hs _ (List.mem_of_getElem? (i := 201) rfl)
    · exact hs _ (List.mem_of_getElem? (i := 214) rfl)
    · exact hs _ (List.mem_of_getElem? (i := 228) rfl)
    · exact hs _ (List.mem_of_getElem? (i := 244) rfl)
    · omega
  · rcases i with _ | _ | _ | _ | _ | _ | _ | _ | i
    · exact hs _ (List.mem_of_getElem? (i := 161) rfl)
    · exact hs _ (List.mem_of_getElem? (i := 170) rfl)
    · exact hs _ (List.mem_of_getElem? (i := 180) rfl)
    · exact hs _ (List.mem_of_getElem? (i := 191) rfl)
    · exact hs _ (List.mem_of_getElem? (i := 202) rfl)
    · exact hs _ (List.mem_of_getElem? (i := 215) rfl)
    · exact hs _ (List.mem_of_getElem? (i := 229) rfl)
    · exact hs _ (List.mem_of_getElem? (i := 245) rfl)
    · omega
  · rcases i with _ | _ | _ | _ | _ | _ | _ | _ | i
    · exact hs _ (List.mem_of_getElem? (i := 162) rfl)
    · exact hs _ (List.mem_of_getElem? (i := 171) rfl)
    · exact hs _ (List.mem_of_getElem? (i := 181) rfl)
    · exact hs _ (List.mem_of_getElem? (i := 192) rfl)
    · exact hs _ (List.mem_of_getElem? (i := 203) rfl)
    · exact hs _ (List.mem_of_getElem? (i := 216) rfl)
    · exact hs _ (List.mem_of_getElem? (i := 230) rfl)
    · exact hs _ (List.mem_of_getElem? (i := 246) rfl)
    · omega
  · rcases i with _ | _ | _ | _ | _ | _ | _ | _ | i
    · rcases j with _ | _ | _ | _ | _ | j
      · exact hs _ (List.mem_of_getElem? (i := 163) rfl)
      · exact hs _ (List.mem_of_getElem? (i := 164) rfl)
      · exact hs _ (List.mem_of_getElem? (i := 165) rfl)
      · exact hs _ (List.mem_of_getElem? (i := 166) rfl)
      · exact hs _ (List.mem_of_getElem? (i := 167) rfl)
      · exact absurd (show j + 5 < 5 from hj) (by omega)
    · rcases j with _ | _ | _ | _ | _ | j
      · exact hs _ (List.mem_of_getElem? (i := 172) rfl)
      · exact hs _ (List.mem_of_getElem? (i := 173) rfl)
      · exact hs _ (List.mem_of_getElem? (i := 174) rfl)
      · exact hs _ (List.mem_of_getElem? (i := 175) rfl)
      · exact hs _ (List.mem_of_getElem? (i := 176) rfl)
      · exact absurd (show j + 5 < 5 from hj) (by omega)
    · rcases j with _ | _ | _ | _ | _ | j
      · exact hs _ (List.mem_of_getElem? (i := 182) rfl)
      · exact hs _ (List.mem_of_getElem? (i := 183) rfl)
      · exact hs _ (List.mem_of_getElem? (i := 184) rfl)
      · exact hs _ (List.mem_of_getElem? (i := 185) rfl)
      · exact hs _ (List.mem_of_getElem? (i := 186) rfl)
      · exact absurd (show j + 5 < 5 from hj) (by omega)
    · rcases j with _ | _ | _ | _ | j
      · exact hs _ (List.mem_of_getElem? (i := 193) rfl)
      · exact hs _ (List.mem_of_getElem? (i := 194) rfl)
      · exact hs _ (List.mem_of_getElem? (i := 195) rfl)
      · exact hs _ (List.mem_of_getElem? (i := 196) rfl)
      · exact absurd (show j + 4 < 4 from hj) (by omega)
    · rcases j with _ | _ | _ | _ | _ | j
      · exact hs _ (List.mem_of_getElem? (i := 204) rfl)
      · exact hs _ (List.mem_of_getElem? (i := 205) rfl)
      · exact hs _ (List.mem_of_getElem? (i := 206) rfl)
      · exact hs _ (List.mem_of_getElem? (i := 207) rfl)
      · exact hs _ (List.mem_of_getElem? (i := 208) rfl)
      · exact absurd (show j + 5 < 5 from hj) (by omega)
    · rcases j with _ | _ | _ | _ | _ | j
      · exact hs _ (List.mem_of_getElem? (i := 217) rfl)
      · exact hs _ (List.mem_of_getElem? (i := 218) rfl)
      · exact hs _ (List.mem_of_getElem? (i := 219) rfl)
      · exact hs _ (List.mem_of_getElem? (i := 220) rfl)
      · exact hs _ (List.mem_of_getElem? (i := 221) rfl)
      · exact absurd (show j + 5 < 5 from hj) (by omega)
    · rcases j with _ | _ | _ | _ | _ | _ | j
      · exact hs _ (List.mem_of_getElem? (i := 231) rfl)
      · exact hs _ (List.mem_of_getElem? (i := 232) rfl)
      · exact hs _ (List.mem_of_getElem? (i := 233) rfl)
      · exact hs _ (List.mem_of_getElem? (i := 234) rfl)
      · exact hs _ (List.mem_of_getElem? (i := 235) rfl)
      · exact hs _ (List.mem_of_getElem? (i := 236) rfl)
      · exact absurd (show j + 6 < 6 from hj) (by omega)
    · rcases j with _ | _ | _ | j
      · exact hs _ (List.mem_of_getElem? (i := 247) rfl)
      · exact hs _ (List.mem_of_getElem? (i := 248) rfl)
      · exact hs _ (List.mem_of_getElem? (i := 249) rfl)
      · exact absurd (show j + 3 < 3 from hj) (by omega)
    · omega
  · rcases i with _ | _ | _ | _ | _ | _ | _ | _ | i
    · rcases j with _ | _ | _ | _ | _ | _ | _ | _ | j
      · exact absurd rfl hne
      · exact Or.inl (hs _ (List.mem_of_getElem? (i := 177) rfl))
      · exact Or.inl (hs _ (List.mem_of_getElem? (i := 187) rfl))
      · exact Or.inl (hs _ (List.mem_of_getElem? (i := 197) rfl))
      · exact Or.inl (hs _ (List.mem_of_getElem? (i := 209) rfl))
      · exact Or.inl (hs _ (List.mem_of_getElem? (i := 222) rfl))
      · exact Or.inl (hs _ (List.mem_of_getElem? (i := 237) rfl))
      · exact Or.inl (hs _ (List.mem_of_getElem? (i := 250) rfl))
      · omega
    · rcases j with _ | _ | _ | _ | _ | _ | _ | _ | j
      · exact Or.inr (hs _ (List.mem_of_getElem? (i := 177) rfl))
      · exact absurd rfl hne
      · exact Or.inl (hs _ (List.mem_of_getElem? (i := 188) rfl))
      · exact Or.inl (hs _ (List.mem_of_getElem? (i := 198) rfl))
      · exact Or.inl (hs _ (List.mem_of_getElem? (i := 210) rfl))
      · exact Or.inl (hs _ (List.mem_of_getElem? (i := 223) rfl))
      · exact Or.inl (hs _ (List.mem_of_getElem? (i := 238) rfl))
      · exact Or.inl (hs _ (List.mem_of_getElem? (i := 251) rfl))
      · omega
    · rcases j with _ | _ | _ | _ | _ | _ | _ | _ | j
      · exact Or.inr (hs _ (List.mem_of_getElem? (i := 187) rfl))
      · exact Or.inr (hs _ (List.mem_of_getElem? (i := 188) rfl))
      · exact absurd rfl hne
      · exact Or.inl (hs _ (List.mem_of_getElem? (i := 199) rfl))
      · exact Or.inl (hs _ (List.mem_of_getElem? (i := 211) rfl))
      · exact Or.inl (hs _ (List.mem_of_getElem? (i := 224) rfl))
      · exact Or.inl (hs _ (List.mem_of_getElem? (i := 239) rfl))
      · exact Or.inl (hs _ (List.mem_of_getElem? (i := 252) rfl))
      · omega
    · rcases j with _ | _ | _ | _ | _ | _ | _ | _ | j
      · exact Or.inr (hs _ (List.mem_of_getElem? (i := 197) rfl))
      · exact Or.inr (hs _ (List.mem_of_getElem? (i := 198) rfl))
      · exact Or.inr (hs _ (List.mem_of_getElem? (i := 199) rfl))
      · exact absurd rfl hne
      · exact Or.inl (hs _ (List.mem_of_getElem? (i := 212) rfl))
      · exact Or.inl (hs _ (List.mem_of_getElem? (i := 225) rfl))
      · exact Or.inl (hs _ (List.mem_of_getElem? (i := 240) rfl))
      · exact Or.inl (hs _ (List.mem_of_getElem? (i := 253) rfl))
      · omega
    · rcases j with _ | _ | _ | _ | _ | _ | _ | _ | j
      · exact Or.inr (hs _ (List.mem_of_getElem? (i := 209) rfl))
      · exact Or.inr (hs _ (List.mem_of_getElem? (i := 210) rfl))
      · exact Or.inr (hs _ (List.mem_of_getElem? (i := 211) rfl))
      · exact Or.inr (hs _ (List.mem_of_getElem? (i := 212) rfl))
      · exact absurd rfl hne
      · exact Or.inl (hs _ (List.mem_of_getElem? (i := 226) rfl))
      · exact Or.inl (hs _ (List.mem_of_getElem? (i := 241) rfl))
      · exact Or.inl (hs _ (List.mem_of_getElem? (i := 254) rfl))
      · omega
    · rcases j with _ | _ | _ | _ | _ | _ | _ | _ | j
      · exact Or.inr (hs _ (List.mem_of_getElem? (i := 222) rfl))
      · exact Or.inr (hs _ (List.mem_of_getElem? (i := 223) rfl))
      · exact Or.inr (hs _ (List.mem_of_getElem? (i := 224) rfl))
      · exact Or.inr (hs _ (List.mem_of_getElem? (i := 225) rfl))
      · exact Or.inr (hs _ (List.mem_of_getElem? (i := 226) rfl))
      · exact absurd rfl hne
      · exact Or.inl (hs _ (List.mem_of_getElem? (i := 242) rfl))
      · exact Or.inl (hs _ (List.mem_of_getElem? (i := 255) rfl))
      · omega
    · rcases j with _ | _ | _ | _ | _ | _ | _ | _ | j
      · exact Or.inr (hs _ (List.mem_of_getElem? (i := 237) rfl))
      · exact Or.inr (hs _ (List.mem_of_getElem? (i := 238) rfl))
      · exact Or.inr (hs _ (List.mem_of_getElem? (i := 239) rfl))
      · exact Or.inr (hs _ (List.mem_of_getElem? (i := 240) rfl))
      · exact Or.inr (hs _ (List.mem_of_getElem? (i := 241) rfl))
      · exact Or.inr (hs _ (List.mem_of_getElem? (i := 242) rfl))
      · exact absurd rfl hne
      · exact Or.inl (hs _ (List.mem_of_getElem? (i := 256) rfl))
      · omega
    · rcases j with _ | _ | _ | _ | _ | _ | _ | _ | j
      · exact Or.inr (hs _ (List.mem_of_getElem? (i := 250) rfl))
      · exact Or.inr (hs _ (List.mem_of_getElem? (i := 251) rfl))
      · exact Or.inr (hs _ (List.mem_of_getElem? (i := 252) rfl))
      · exact Or.inr (hs _ (List.mem_of_getElem? (i := 253) rfl))
      · exact Or.inr (hs _ (List.mem_of_getElem? (i := 254) rfl))
      · exact Or.inr (hs _ (List.mem_of_getElem? (i := 255) rfl))
      · exact Or.inr (hs _ (List.mem_of_getElem? (i := 256) rfl))
      · exact absurd rfl hne
      · omega
    · omega
/-! the state at the law's entry -/
theorem IK_moved {s t : State} (h : s.vm.Alike t.vm) (q : IK s) : IK t := by
  intro ci ct hci hct c t' hc ht
  rw [h.findClass] at hc ht
  rw [h.assignable]
  exact q ci ct hci hct c t' hc ht
noncomputable def stAd (b fm : Nat) (adK adV : Nat → Nat) (id : Nat) : Nat := if id = 500 then b else if id = 400 then fm else if id < 300 then adK (id - 200) else adV (id - 300)
theorem stAd_k {b fm i : Nat} {adK adV : Nat → Nat} (h : i < 8) : stAd b fm adK adV (200 + i) = adK i := by
  unfold stAd
  rw [if_neg (by omega), if_neg (by omega), if_pos (by omega), Nat.add_sub_cancel_left]
theorem stAd_v {b fm i : Nat} {adK adV : Nat → Nat} (h : i < 8) : stAd b fm adK adV (300 + i) = adV i := by
  unfold stAd
  rw [if_neg (by omega), if_neg (by omega), if_neg (by omega), Nat.add_sub_cancel_left]
noncomputable def stXX (Vp : Vx) (U : State) : Prop := IK U ∧ SX Vp U ∧ (∀ q : Nat, U.heap.size ≤ q → vA Vp q) ∧ va_AO "NineMowers$Mower" U ∧ va_AO "NineMowers$Field" U ∧ va_AO "NineMowers$Tape" U
theorem SX_moved {V : Vx} {s t : State} (hW : s.WarmedH t.vm ∨ t.vm = s.vm) (hk : ∀ q : Nat, q < s.heap.size → ¬ vA V q → t.heap[q]? = s.heap[q]?) (q : SX V s) : SX V t := by
  have ha : s.vm.Alike t.vm := by
    rcases hW with h | h
    · exact h.alike
    · rw [h]; exact Vm.Alike.refl s.vm
  obtain ⟨q1, q2, q3, q4⟩ := q
  refine ⟨(vk_S.moved ha q1).kept hk, fun i hi => ?_, (va_Z.moved ha q3).kept hk, ?_⟩
  · rcases hW with h | h
    · exact vk_R.warm h (q2 i hi)
    · exact vk_R.same h (q2 i hi)
  · rcases q4 with q4 | q4
    · exact Or.inl ((va_Z.moved ha q4).kept hk)
    · exact Or.inr ((va_Z.moved ha q4).kept hk)
theorem stXX_moved {V : Vx} {s t : State} (hW : s.WarmedH t.vm ∨ t.vm = s.vm) (hz : s.heap.size ≤ t.heap.size) (hk : ∀ q : Nat, q < s.heap.size → ¬ vA V q → t.heap[q]? = s.heap[q]?) (q : stXX V s) : stXX V t := by
  have ha : s.vm.Alike t.vm := by
    rcases hW with h | h
    · exact h.alike
    · rw [h]; exact Vm.Alike.refl s.vm
  obtain ⟨q1, q2, q3, q4, q5, q6⟩ := q
  exact ⟨IK_moved ha q1, SX_moved hW hk q2, fun a h => q3 a (Nat.le_trans hz h), va_AO.moved ha q4, va_AO.moved ha q5, va_AO.moved ha q6⟩
set_option maxHeartbeats 4000000 in
theorem st_entry {b : Nat} {s : State} (hts : ∀ w ∈ lw_tbl, w.before #[Value.ref b] s = true) (hgv : (Jvm.Cond.and given_1 narrow_1).before #[Value.ref b] s = true) : ∃ V : Vx, wfd V ∧ va V 500 = b ∧ (∀ q, vA V q ↔ s.heap.size ≤ q) ∧ va_K (vD V) vwCl (tysV V) s ∧ vX V s ∧ XC V ∧ UPV V ∧ NWU s := by
  obtain ⟨c0, i0, k0⟩ := u_known (C := RX0) (T := TX0) (N := 3) hts wsL_inX0 (hts (Cond.instantiable "NineMowers$Boy" 3) (List.mem_append_right _ (List.mem_of_getElem? (i := 291) (by decide +kernel))))
  obtain ⟨c1, i1, k1⟩ := u_known (C := RX1) (T := TX1) (N := 17) hts wsL_inX1 (hts (Cond.instantiable "NineMowers$Course" 17) (List.mem_append_right _ (List.mem_of_getElem? (i := 31) (by decide +kernel))))
  obtain ⟨c2, i2, k2⟩ := u_known (C := RX2) (T := TX2) (N := 12) hts wsL_inX2 (hts (Cond.instantiable "NineMowers$Field" 12) (List.mem_append_right _ (List.mem_of_getElem? (i := 131) (by decide +kernel))))
  obtain ⟨c3, i3, k3⟩ := u_known (C := RX3) (T := TX3) (N := 3) hts wsL_inX3 (hts (Cond.instantiable "NineMowers$Hasty" 3) (List.mem_append_right _ (List.mem_of_getElem? (i := 281) (by decide +kernel))))
  obtain ⟨c4, i4, k4⟩ := u_known (C := RX4) (T := TX4) (N := 3) hts wsL_inX4 (hts (Cond.instantiable "NineMowers$Mower" 3) (List.mem_append_right _ (List.mem_of_getElem? (i := 331) (by decide +kernel))))
  obtain ⟨c5, i5, k5⟩ := u_known (C := RX5) (T := TX5) (N := 2) hts wsL_inX5 (hts (Cond.instantiable "NineMowers$Numbers" 2) (List.mem_append_right _ (List.mem_of_getElem? (i := 39) (by decide +kernel))))
  obtain ⟨c6, i6, k6⟩ := u_known (C := RX6) (T := TX6) (N := 3) hts wsL_inX6 (hts (Cond.instantiable "NineMowers$Old" 3) (List.mem_append_right _ (List.mem_of_getElem? (i := 301) (by decide +kernel))))
  obtain ⟨c7, i7, k7⟩ := u_known (C := RX7) (T := TX7) (N := 3) hts wsL_inX7 (hts (Cond.instantiable "NineMowers$Pressed" 3) (List.mem_append_right _ (List.mem_of_getElem? (i := 311) (by decide +kernel))))
  obtain ⟨c8, i8, k8⟩ := u_known (C := RX8) (T := TX8) (N := 3) hts wsL_inX8 (hts (Cond.instantiable "NineMowers$Steady" 3) (List.mem_append_right _ (List.mem_of_getElem? (i := 246) (by decide +kernel))))
  obtain ⟨c9, i9, k9⟩ := u_known (C := RX9) (T := TX9) (N := 3) hts wsL_inX9 (hts (Cond.instantiable "NineMowers$Tape" 3) (List.mem_append_right _ (List.mem_of_getElem? (i := 180) (by decide +kernel))))
  obtain ⟨c10, i10, k10⟩ := u_known (C := RX10) (T := TX10) (N := 3) hts wsL_inX10 (hts (Cond.instantiable "NineMowers$Told" 3) (List.mem_append_right _ (List.mem_of_getElem? (i := 321) (by decide +kernel))))
  obtain ⟨c11, i11, k11⟩ := u_known (C := RX11) (T := TX11) (N := 13) hts wsL_inX11 (hts (Cond.instantiable "NineMowers" 13) (List.mem_append_right _ (List.mem_of_getElem? (i := 23) (by decide +kernel))))
  obtain ⟨c12, i12, k12⟩ := u_known (C := RX12) (T := TX12) (N := 75) hts wsL_inX12 (hts (Cond.instantiable "NineMowersModel" 75) (List.mem_append_right _ (List.mem_of_getElem? (i := 969) (by decide +kernel))))
  obtain ⟨a0, z0, y0⟩ := st_arr (hts (Cond.arrayClass .int) (List.mem_append_right _ (List.mem_of_getElem? (i := 53) (by decide +kernel))))
  obtain ⟨a1, z1, y1⟩ := st_arr (hts (Cond.arrayClass .byte) (List.mem_append_right _ (List.mem_of_getElem? (i := 179) (by decide +kernel))))
  obtain ⟨a2, z2, y2⟩ := st_arr (hts (Cond.arrayClass .boolean) (List.mem_append_right _ (List.mem_of_getElem? (i := 1200) (by decide +kernel))))
  obtain ⟨a3, z3, y3⟩ := st_arr (hts (Cond.arrayClass .long) (List.mem_append_right _ (List.mem_of_getElem? (i := 197) (by decide +kernel))))
  have o4 := hts (Cond.arrayOver (.object "NineMowers$Mower")) (List.mem_append_right _ (List.mem_of_getElem? (i := 37) (by decide +kernel)))
  obtain ⟨a4, z4, y4⟩ := st_over o4
  have o5 := hts (Cond.arrayOver (.object "NineMowers$Field")) (List.mem_append_right _ (List.mem_of_getElem? (i := 126) (by decide +kernel)))
  obtain ⟨a5, z5, y5⟩ := st_over o5
  have o6 := hts (Cond.arrayOver (.object "NineMowers$Tape")) (List.mem_append_right _ (List.mem_of_getElem? (i := 128) (by decide +kernel)))
  obtain ⟨a6, z6, y6⟩ := st_over o6
  obtain ⟨adK, adV, hS, hev⟩ := st_txt (A := fun q => s.heap.size ≤ q) hgv (fun a ha h => by omega)
  have hs := flat_of_before _ hgv
  have hcs : va_Z "java/lang/String" "COMPACT_STRINGS" "Z" (.int 1) (fun q => s.heap.size ≤ q) s s.heap := va_Zof (hts (Cond.laysStatic "java/lang/String" "COMPACT_STRINGS" "Z") (List.mem_append_right _ (List.mem_of_getElem? (i := 468) (by decide +kernel)))) (hts (Cond.initialized "java/lang/String") (List.mem_append_right _ (List.mem_of_getElem? (i := 15) (by decide +kernel)))) (va_eqi (hs (Cond.eq (.static "java/lang/String" "COMPACT_STRINGS" "Z") (.int 1)) (by decide +kernel))) (fun a ha h => by omega)
  have hfm0 : va_Zq "jdk/internal/util/Preconditions" "SIOOBE_FORMATTER" "Ljava/util/function/BiFunction;" (fun q => s.heap.size ≤ q) s s.heap := va_Zqof (hts (Cond.laysStatic "jdk/internal/util/Preconditions" "SIOOBE_FORMATTER" "Ljava/util/function/BiFunction;") (List.mem_append_right _ (List.mem_of_getElem? (i := 509) (by decide +kernel)))) (hts (Cond.initialized "jdk/internal/util/Preconditions") (List.mem_append_right _ (List.mem_of_getElem? (i := 18) (by decide +kernel)))) (hs (Cond.isRef (.static "jdk/internal/util/Preconditions" "SIOOBE_FORMATTER" "Ljava/util/function/BiFunction;")) (by decide +kernel)) (fun a ha h => by omega)
  obtain ⟨fm, hfm⟩ : ∃ fm : Nat, va_Z "jdk/internal/util/Preconditions" "SIOOBE_FORMATTER" "Ljava/util/function/BiFunction;" .null (fun q => s.heap.size ≤ q) s s.heap ∨ va_Z "jdk/internal/util/Preconditions" "SIOOBE_FORMATTER" "Ljava/util/function/BiFunction;" (.ref fm) (fun q => s.heap.size ≤ q) s s.heap := by
    rcases hfm0 with h | ⟨t, h⟩
    · exact ⟨0, Or.inl h⟩
    · exact ⟨t, Or.inr h⟩
  let Vp : Vx := (((fun c => [c0, c1, c2, c3, c4, c5, c6, c7, c8, c9, c10, c11, c12].getD c 0), (fun c => [i0, i1, i2, i3, i4, i5, i6, i7, i8, i9, i10, i11, i12].getD c (fun _ => 0))), (fun t => [a0, a1, a2, a3, a4, a5, a6].getD t 0), (fun q => s.heap.size ≤ q), stAd b fm adK adV, [], fun _ => True)
  have hX : stXX Vp s := by
    refine ⟨st_IK hts hgv, ⟨vk_S_eq hS (fun i hi => stAd_k hi) (fun i hi => stAd_v hi), fun i hi => ?_, hcs, hfm⟩, fun q h => h, va_AO.of o4, va_AO.of o5, va_AO.of o6⟩
    show vk_R "NineMowers$Field" (jIdx.getD i 0) (jTx.getD i "") (stAd b fm adK adV (200 + i)) s
    rw [stAd_k hi]
    refine vk_R.of (A := #[Value.ref b]) ?_ (hev i hi)
    rcases i with _ | _ | _ | _ | _ | _ | _ | _ | i
    · exact hts (Cond.stringRef "NineMowers$Field" 64 "fsgtl") (List.mem_append_right _ (List.mem_of_getElem? (i := 446) (by decide +kernel)))
    · exact hts (Cond.stringRef "NineMowers$Field" 97 "fast ") (List.mem_append_right _ (List.mem_of_getElem? (i := 546) (by decide +kernel)))
    · exact hts (Cond.stringRef "NineMowers$Field" 99 "slow ") (List.mem_append_right _ (List.mem_of_getElem? (i := 547) (by decide +kernel)))
    · exact hts (Cond.stringRef "NineMowers$Field" 101 "gap ") (List.mem_append_right _ (List.mem_of_getElem? (i := 548) (by decide +kernel)))
    · exact hts (Cond.stringRef "NineMowers$Field" 103 "tire ") (List.mem_append_right _ (List.mem_of_getElem? (i := 549) (by decide +kernel)))
    · exact hts (Cond.stringRef "NineMowers$Field" 105 "long ") (List.mem_append_right _ (List.mem_of_getElem? (i := 550) (by decide +kernel)))
    · exact hts (Cond.stringRef "NineMowers$Field" 123 "mkpetd") (List.mem_append_right _ (List.mem_of_getElem? (i := 604) (by decide +kernel)))
    · exact hts (Cond.stringRef "NineMowers$Field" 125 "<=>") (List.mem_append_right _ (List.mem_of_getElem? (i := 605) (by decide +kernel)))
    · omega
  refine ⟨(Vp.1, Vp.2.1, Vp.2.2.1, Vp.2.2.2.1, [], stXX Vp), fun f hf hk => ?_, rfl, fun q => Iff.rfl, ⟨fun c q hq => ?_, fun k q hq => ?_⟩, hX, ⟨fun u t hW hz hk h => stXX_moved hW hz hk h, fun U h => ⟨h.1, h.2.1⟩⟩, fun U h => h.2.2, ?_⟩
  · have hf : f ∈ fixL := by
      rcases List.mem_append.mp hf with h | h
      · exact h
      · exact absurd h List.not_mem_nil
    obtain ⟨w1, w2, w3, w4⟩ := (show ∀ f ∈ fixL, kd f = (12, 0) → f + 1 ∈ fixL ∧ f + 2 ∈ fixL ∧ f + 3 ∈ fixL ∧ f + 4 ∈ fixL by decide +kernel) f hf hk
    exact ⟨List.mem_append_left _ w1, List.mem_append_left _ w2, List.mem_append_left _ w3, List.mem_append_left _ w4⟩
  · rcases c with _ | _ | _ | _ | _ | _ | _ | _ | _ | _ | _ | _ | _ | c
    · cases hq; exact k0
    · cases hq; exact k1
    · cases hq; exact k2
    · cases hq; exact k3
    · cases hq; exact k4
    · cases hq; exact k5
    · cases hq; exact k6
    · cases hq; exact k7
    · cases hq; exact k8
    · cases hq; exact k9
    · cases hq; exact k10
    · cases hq; exact k11
    · cases hq; exact k12
    · exact absurd hq (by simp)
  · rcases k with _ | _ | _ | _ | _ | _ | _ | k
    · cases hq; exact ⟨z0, y0⟩
    · cases hq; exact ⟨z1, y1⟩
    · cases hq; exact ⟨z2, y2⟩
    · cases hq; exact ⟨z3, y3⟩
    · cases hq; exact ⟨z4, y4⟩
    · cases hq; exact ⟨z5, y5⟩
    · cases hq; exact ⟨z6, y6⟩
    · exact absurd hq (by simp [tysV])
  · exact ⟨va_Nw.of rfl (hts _ (List.mem_append_right _ (List.mem_of_getElem? (i := 32) (by decide +kernel)))), va_Nw.of rfl (hts _ (List.mem_append_right _ (List.mem_of_getElem? (i := 132) (by decide +kernel)))), va_Nw.of rfl (hts _ (List.mem_append_right _ (List.mem_of_getElem? (i := 181) (by decide +kernel))))⟩
/-! the law's start -/
theorem ki_law_X11 : KI RL lw_tbl room_1 9 yX11_init wsX11_init (rmr 3 73 1063) 0 := ⟨_, _, _, gL_X11_init, rfl, (wsL_in_1 _ (List.mem_of_getElem? (i := 2) rfl)), (wsL_in_1 _ (List.mem_of_getElem? (i := 7) rfl)), (wsL_in_1 _ (List.mem_of_getElem? (i := 8) rfl)), rfl, by decide +kernel, Nat.le_of_ble_eq_true rfl, Nat.le_of_ble_eq_true rfl⟩
theorem ki_law_X12 : KI RL lw_tbl room_1 12 yX12_init wsX12_init (rmr 1 50 1876) 0 := ⟨_, _, _, gL_X12_init, rfl, (wsL_in_1 _ (List.mem_of_getElem? (i := 5) rfl)), (wsL_in_4 _ (List.mem_of_getElem? (i := 20) rfl)), (wsL_in_4 _ (List.mem_of_getElem? (i := 21) rfl)), rfl, by decide +kernel, Nat.le_of_ble_eq_true rfl, Nat.le_of_ble_eq_true rfl⟩
set_option maxRecDepth 100000 in
set_option maxHeartbeats 4000000 in
/-- from the raw world to the cells, and into the loop -/
theorem st_go {M : Mx} {L : Nat} {xs : Nat → Int32} {b : Nat} {ω0 ω : RWd} (hL : L ≤ 3072) (C : Cx M cL_law ret RL lw_tbl room_1 600000 7302250 lw_Q) (hS : SCR M L xs) (h500 : va (mV M) 500 = b) (hU : UPV (mV M)) (hNW : mNW M) (hN : mN M = 4) (h0 x1 x3 x4 x5 x6 x7 x8 x9 x10 x11 x12 x13 x14 x15 x16 x17 x23 x25 x26 x27 x28 x29 x30 x31 x32 x33 x34 x35 x36 x37 x38 x39 x45 x47 x48 x49 x50 x51 x52 x53 x54 x55 x56 x57 x58 x59 x60 x61 x70 x80 x90 x97 x99 x105 x112 x119 x126 x128 x129 x130 x131 x143 x145 x151 x153 x159 x161 x167 x169 x175 x177 x183 x185 h1 m10 m17 m24 m31 m38 m45 m52 m59 m81 m88 m95 m102 m109 m116 m123 m130 m146 m213 m223 m230 m240 m247 m254 m261 m268 m275 m282 m292 m299 m306 m319 m326 m354 m361 m368 m375 m382 m389 m396 m403 m410 m417 m424 m431 m438 m448 m455 m480 m487 m494 : Nat) (bt : BT ω0 ω h0 [(x1, .inr (1, [.ref x3, .int (0 : Int32), .ref x4, .int (0 : Int32), .ref x5, .ref x6, .ref x7, .ref x8, .ref x9, .int (0 : Int32), .ref x126, .int (-1 : Int32), .ref x10, .ref x12, .ref x14, .ref x16, .ref x17])), (x3, .inl (vC (mV M) 4, 6, .inr (.inr (.inr (.inr (fun _ => none)))))), (x4, .inl (vC (mV M) 0, (6, .inl (fun _ => 0)))), (x5, .inl (vC (mV M) 0, (6, .inl (fun _ => 0)))), (x6, .inl (vC (mV M) 0, (6, .inl (fun _ => 0)))), (x7, .inl (vC (mV M) 0, (6, .inl (fun _ => 0)))), (x8, .inl (vC (mV M) 0, (6, .inl (fun _ => 0)))), (x9, .inl (vC (mV M) 0, (24, .inl (fun _ => 0)))), (x10, .inr (5, [.ref x11, .int (0 : Int32)])), (x11, .inl (vC (mV M) 0, (18, .inl (fun _ => 0)))), (x12, .inr (5, [.ref x13, .int (0 : Int32)])), (x13, .inl (vC (mV M) 0, (10, .inl (fun _ => 0)))), (x14, .inr (5, [.ref x15, .int (0 : Int32)])), (x15, .inl (vC (mV M) 0, (8, .inl (fun _ => 0)))), (x16, .inl (vC (mV M) 0, (6, .inl (fun _ => 0)))), (x17, .inl (vC (mV M) 0, (6, .inl (fun _ => 0)))), (x23, .inr (1, [.ref x25, .int (0 : Int32), .ref x26, .int (0 : Int32), .ref x27, .ref x28, .ref x29, .ref x30, .ref x31, .int (0 : Int32), .ref x126, .int (-1 : Int32), .ref x32, .ref x34, .ref x36, .ref x38, .ref x39])), (x25, .inl (vC (mV M) 4, 6, .inr (.inr (.inr (.inr (fun _ => none)))))), (x26, .inl (vC (mV M) 0, (6, .inl (fun _ => 0)))), (x27, .inl (vC (mV M) 0, (6, .inl (fun _ => 0)))), (x28, .inl (vC (mV M) 0, (6, .inl (fun _ => 0)))), (x29, .inl (vC (mV M) 0, (6, .inl (fun _ => 0)))), (x30, .inl (vC (mV M) 0, (6, .inl (fun _ => 0)))), (x31, .inl (vC (mV M) 0, (24, .inl (fun _ => 0)))), (x32, .inr (5, [.ref x33, .int (0 : Int32)])), (x33, .inl (vC (mV M) 0, (18, .inl (fun _ => 0)))), (x34, .inr (5, [.ref x35, .int (0 : Int32)])), (x35, .inl (vC (mV M) 0, (10, .inl (fun _ => 0)))), (x36, .inr (5, [.ref x37, .int (0 : Int32)])), (x37, .inl (vC (mV M) 0, (8, .inl (fun _ => 0)))), (x38, .inl (vC (mV M) 0, (6, .inl (fun _ => 0)))), (x39, .inl (vC (mV M) 0, (6, .inl (fun _ => 0)))), (x45, .inr (1, [.ref x47, .int (0 : Int32), .ref x48, .int (0 : Int32), .ref x49, .ref x50, .ref x51, .ref x52, .ref x53, .int (0 : Int32), .ref x126, .int (-1 : Int32), .ref x54, .ref x56, .ref x58, .ref x60, .ref x61])), (x47, .inl (vC (mV M) 4, 6, .inr (.inr (.inr (.inr (fun _ => none)))))), (x48, .inl (vC (mV M) 0, (6, .inl (fun _ => 0)))), (x49, .inl (vC (mV M) 0, (6, .inl (fun _ => 0)))), (x50, .inl (vC (mV M) 0, (6, .inl (fun _ => 0)))), (x51, .inl (vC (mV M) 0, (6, .inl (fun _ => 0)))), (x52, .inl (vC (mV M) 0, (6, .inl (fun _ => 0)))), (x53, .inl (vC (mV M) 0, (24, .inl (fun _ => 0)))), (x54, .inr (5, [.ref x55, .int (0 : Int32)])), (x55, .inl (vC (mV M) 0, (18, .inl (fun _ => 0)))), (x56, .inr (5, [.ref x57, .int (0 : Int32)])), (x57, .inl (vC (mV M) 0, (10, .inl (fun _ => 0)))), (x58, .inr (5, [.ref x59, .int (0 : Int32)])), (x59, .inl (vC (mV M) 0, (8, .inl (fun _ => 0)))), (x60, .inl (vC (mV M) 0, (6, .inl (fun _ => 0)))), (x61, .inl (vC (mV M) 0, (6, .inl (fun _ => 0)))), (x70, .inl (vC (mV M) 5, 6, .inr (.inr (.inr (.inr (fun _ => none)))))), (x80, .inl (vC (mV M) 1, (100, .inl (fun _ => 0)))), (x90, .inl (vC (mV M) 6, 6, .inr (.inr (.inr (.inr (va_up (va_up (va_up (va_up (va_up (va_up (fun _ => none) 0 (some x143)) 1 (some x151)) 2 (some x159)) 3 (some x167)) 4 (some x175)) 5 (some x183))))))), (x97, .inr (5, [.ref x99, .int (0 : Int32)])), (x99, .inl (vC (mV M) 0, (20, .inl (fun _ => 0)))), (x105, .inl (vC (mV M) 0, (5, .inl (fun _ => 0)))), (x112, .inl (vC (mV M) 0, (5, .inl (fun _ => 0)))), (x119, .inl (vC (mV M) 0, (6, .inl (fun _ => 0)))), (x126, .inr (2, [.int (2 : Int32), .int (1 : Int32), .int (60 : Int32), .ref x128, .int (0 : Int32), .ref x129, .ref x130, .ref x131, .int (0 : Int32), .null, .int (0 : Int32), .int (0 : Int32)])), (x128, .inl (vC (mV M) 0, (100, .inl (fun _ => 0)))), (x129, .inl (vC (mV M) 0, (10, .inl (fun _ => 0)))), (x130, .inl (vC (mV M) 0, (10, .inl (fun _ => 0)))), (x131, .inl (vC (mV M) 0, (10, .inl (fun _ => 0)))), (x143, .inr (9, [.ref x145, .int (-1 : Int32), .int (0 : Int32)])), (x145, .inl (vC (mV M) 3, (60, .inr (.inl (fun _ => 0))))), (x151, .inr (9, [.ref x153, .int (-1 : Int32), .int (0 : Int32)])), (x153, .inl (vC (mV M) 3, (60, .inr (.inl (fun _ => 0))))), (x159, .inr (9, [.ref x161, .int (-1 : Int32), .int (0 : Int32)])), (x161, .inl (vC (mV M) 3, (60, .inr (.inl (fun _ => 0))))), (x167, .inr (9, [.ref x169, .int (-1 : Int32), .int (0 : Int32)])), (x169, .inl (vC (mV M) 3, (60, .inr (.inl (fun _ => 0))))), (x175, .inr (9, [.ref x177, .int (-1 : Int32), .int (0 : Int32)])), (x177, .inl (vC (mV M) 3, (60, .inr (.inl (fun _ => 0))))), (x183, .inr (9, [.ref x185, .int (-1 : Int32), .int (0 : Int32)])), (x185, .inl (vC (mV M) 3, (60, .inr (.inl (fun _ => 0))))), (h1, .inr (12, [.int (0 : Int32), .int (0 : Int32), .int (0 : Int32), .ref m10, .ref m17, .ref m24, .ref m31, .ref m38, .ref m45, .ref m52, .ref m59, .int (0 : Int32), .int (-1 : Int32), .int (0 : Int32), .int (0 : Int32), .int (0 : Int32), .ref m81, .ref m88, .ref m95, .ref m102, .ref m109, .ref m116, .ref m123, .ref m130, .int (0 : Int32), .int (0 : Int32), .int (0 : Int32), .ref m146, .int (-1 : Int32), .ref m213, .int (0 : Int32), .ref m223, .ref m230, .int (0 : Int32), .ref m240, .ref m247, .ref m254, .ref m261, .ref m268, .ref m275, .ref m282, .int (0 : Int32), .ref m292, .ref m299, .ref m306, .int (0 : Int32), .int (0 : Int32), .ref m319, .ref m326, .int (0 : Int32), .int (-1 : Int32), .int (0 : Int32), .int (0 : Int32), .int (0 : Int32), .int (0 : Int32), .int (0 : Int32), .ref m354, .ref m361, .ref m368, .ref m375, .ref m382, .ref m389, .ref m396, .ref m403, .ref m410, .ref m417, .ref m424, .ref m431, .ref m438, .int (0 : Int32), .ref m448, .ref m455, .ref m480, .ref m487, .ref m494])), (m10, .inl (vC (mV M) 0, (6, .inl (fun _ => 0)))), (m17, .inl (vC (mV M) 0, (6, .inl (fun _ => 0)))), (m24, .inl (vC (mV M) 0, (6, .inl (fun _ => 0)))), (m31, .inl (vC (mV M) 0, (6, .inl (fun _ => 0)))), (m38, .inl (vC (mV M) 0, (6, .inl (fun _ => 0)))), (m45, .inl (vC (mV M) 0, (6, .inl (fun _ => 0)))), (m52, .inl (vC (mV M) 0, (24, .inl (fun _ => 0)))), (m59, .inl (vC (mV M) 0, (6, .inl (fun _ => 0)))), (m81, .inl (vC (mV M) 0, (100, .inl (fun _ => 0)))), (m88, .inl (vC (mV M) 0, (6, .inl (fun _ => 0)))), (m95, .inl (vC (mV M) 0, (60, .inl (fun _ => 0)))), (m102, .inl (vC (mV M) 0, (60, .inl (fun _ => 0)))), (m109, .inl (vC (mV M) 0, (60, .inl (fun _ => 0)))), (m116, .inl (vC (mV M) 0, (60, .inl (fun _ => 0)))), (m123, .inl (vC (mV M) 0, (600, .inl (fun _ => 0)))), (m130, .inl (vC (mV M) 0, (101, .inl (fun _ => 0)))), (m146, .inl (vC (mV M) 0, (19, .inl (upd (upd (upd (upd (upd (upd (upd (upd (upd (upd (upd (upd (upd (upd (upd (upd (upd (upd (upd (fun _ => 0) 0 (102 : Int32)) 1 (97 : Int32)) 2 (115 : Int32)) 3 (116 : Int32)) 4 (115 : Int32)) 5 (108 : Int32)) 6 (111 : Int32)) 7 (119 : Int32)) 8 (103 : Int32)) 9 (97 : Int32)) 10 (112 : Int32)) 11 (116 : Int32)) 12 (105 : Int32)) 13 (114 : Int32)) 14 (101 : Int32)) 15 (108 : Int32)) 16 (111 : Int32)) 17 (110 : Int32)) 18 (103 : Int32))))), (m213, .inl (vC (mV M) 2, (100, .inl (fun _ => 0)))), (m223, .inl (vC (mV M) 0, (6, .inl (fun _ => 0)))), (m230, .inl (vC (mV M) 0, (6, .inl (fun _ => 0)))), (m240, .inl (vC (mV M) 0, (6, .inl (fun _ => 0)))), (m247, .inl (vC (mV M) 0, (6, .inl (fun _ => 0)))), (m254, .inl (vC (mV M) 0, (6, .inl (fun _ => 0)))), (m261, .inl (vC (mV M) 0, (6, .inl (fun _ => 0)))), (m268, .inl (vC (mV M) 0, (6, .inl (fun _ => 0)))), (m275, .inl (vC (mV M) 0, (6, .inl (fun _ => 0)))), (m282, .inl (vC (mV M) 0, (6, .inl (fun _ => 0)))), (m292, .inl (vC (mV M) 0, (6, .inl (fun _ => 0)))), (m299, .inl (vC (mV M) 0, (6, .inl (fun _ => 0)))), (m306, .inl (vC (mV M) 0, (6, .inl (fun _ => 0)))), (m319, .inl (vC (mV M) 0, (10, .inl (fun _ => 0)))), (m326, .inl (vC (mV M) 0, (8, .inl (fun _ => 0)))), (m354, .inl (vC (mV M) 0, (6, .inl (fun _ => 0)))), (m361, .inl (vC (mV M) 0, (6, .inl (fun _ => 0)))), (m368, .inl (vC (mV M) 0, (6, .inl (fun _ => 0)))), (m375, .inl (vC (mV M) 0, (6, .inl (fun _ => 0)))), (m382, .inl (vC (mV M) 0, (6, .inl (fun _ => 0)))), (m389, .inl (vC (mV M) 0, (6, .inl (fun _ => 0)))), (m396, .inl (vC (mV M) 0, (6, .inl (fun _ => 0)))), (m403, .inl (vC (mV M) 0, (24, .inl (fun _ => 0)))), (m410, .inl (vC (mV M) 0, (6, .inl (fun _ => 0)))), (m417, .inl (vC (mV M) 0, (6, .inl (fun _ => 0)))), (m424, .inl (vC (mV M) 0, (6, .inl (fun _ => 0)))), (m431, .inl (vC (mV M) 0, (10, .inl (fun _ => 0)))), (m438, .inl (vC (mV M) 0, (8, .inl (fun _ => 0)))), (m448, .inl (vC (mV M) 0, (20, .inl (fun _ => 0)))), (m455, .inl (vC (mV M) 0, (6, .inl (upd (upd (upd (upd (upd (upd (fun _ => 0) 0 (-1 : Int32)) 1 (-1 : Int32)) 2 (-1 : Int32)) 3 (-1 : Int32)) 4 (-1 : Int32)) 5 (-1 : Int32))))), (m480, .inl (vC (mV M) 0, (6, .inl (fun _ => 0)))), (m487, .inl (vC (mV M) 3, (360, .inr (.inl (fun _ => 0))))), (m494, .inl (vC (mV M) 3, (60, .inr (.inl (fun _ => 0)))))]) (e0 : ω.2 h0 = .inr (11, [.ref x1, .ref x23, .ref x45, .int (0 : Int32), .ref x70, .int (0 : Int32), .ref x80, .int (0 : Int32), .ref x90, .ref x97, .ref x105, .ref x112, .ref x119])) : PR M 18 [(0, .ref b), (1, .ref h0), (2, .ref h1), (3, .int 0)] [] ω (125, 3027) := by
  have hmem : ∀ x ∈ stC0 (mV M) h0 x1 x3 x4 x5 x6 x7 x8 x9 x10 x11 x12 x13 x14 x15 x16 x17 x23 x25 x26 x27 x28 x29 x30 x31 x32 x33 x34 x35 x36 x37 x38 x39 x45 x47 x48 x49 x50 x51 x52 x53 x54 x55 x56 x57 x58 x59 x60 x61 x70 x80 x90 x97 x99 x105 x112 x119 x126 x128 x129 x130 x131 x143 x145 x151 x153 x159 x161 x167 x169 x175 x177 x183 x185 h1 m10 m17 m24 m31 m38 m45 m52 m59 m81 m88 m95 m102 m109 m116 m123 m130 m146 m213 m223 m230 m240 m247 m254 m261 m268 m275 m282 m292 m299 m306 m319 m326 m354 m361 m368 m375 m382 m389 m396 m403 m410 m417 m424 m431 m438 m448 m455 m480 m487 m494, x.1 ∈ ω.1 ∧ ω.2 x.1 = x.2 := List.forall_mem_cons.mpr ⟨⟨BT_h bt, e0⟩, fun x hx => ⟨(bt.2.2.2 x hx).1, (bt.2.2.2 x hx).2.2⟩⟩
  have hnd : ((stC0 (mV M) h0 x1 x3 x4 x5 x6 x7 x8 x9 x10 x11 x12 x13 x14 x15 x16 x17 x23 x25 x26 x27 x28 x29 x30 x31 x32 x33 x34 x35 x36 x37 x38 x39 x45 x47 x48 x49 x50 x51 x52 x53 x54 x55 x56 x57 x58 x59 x60 x61 x70 x80 x90 x97 x99 x105 x112 x119 x126 x128 x129 x130 x131 x143 x145 x151 x153 x159 x161 x167 x169 x175 x177 x183 x185 h1 m10 m17 m24 m31 m38 m45 m52 m59 m81 m88 m95 m102 m109 m116 m123 m130 m146 m213 m223 m230 m240 m247 m254 m261 m268 m275 m282 m292 m299 m306 m319 m326 m354 m361 m368 m375 m382 m389 m396 m403 m410 m417 m424 m431 m438 m448 m455 m480 m487 m494).map (fun x => x.1)).Nodup := List.nodup_cons.mpr ⟨fun h => by
    obtain ⟨x, hx, e⟩ := List.mem_map.mp h
    have h9 := (bt.2.2.2 x hx).2.1
    have e : x.1 = h0 := e
    rw [e] at h9
    exact h9 bt.1, bt.2.2.1⟩
  have hLp : PS (mset M (stV (mV M) (stQ h0 x1 x3 x4 x5 x6 x7 x8 x9 x10 x11 x12 x13 x14 x15 x16 x17 x23 x25 x26 x27 x28 x29 x30 x31 x32 x33 x34 x35 x36 x37 x38 x39 x45 x47 x48 x49 x50 x51 x52 x53 x54 x55 x56 x57 x58 x59 x60 x61 x70 x80 x90 x97 x99 x105 x112 x119 x126 x128 x129 x130 x131 x143 x145 x151 x153 x159 x161 x167 x169 x175 x177 x183 x185 h1 m10 m17 m24 m31 m38 m45 m52 m59 m81 m88 m95 m102 m109 m116 m123 m130 m146 m213 m223 m230 m240 m247 m254 m261 m268 m275 m282 m292 m299 m306 m319 m326 m354 m361 m368 m375 m382 m389 m396 m403 m410 m417 m424 m431 m438 m448 m455 m480 m487 m494))) 18 (lwv 0) [] st0 (125, 3027) := by
    refine lw_loop hL (L + 1) (mset M (stV (mV M) (stQ h0 x1 x3 x4 x5 x6 x7 x8 x9 x10 x11 x12 x13 x14 x15 x16 x17 x23 x25 x26 x27 x28 x29 x30 x31 x32 x33 x34 x35 x36 x37 x38 x39 x45 x47 x48 x49 x50 x51 x52 x53 x54 x55 x56 x57 x58 x59 x60 x61 x70 x80 x90 x97 x99 x105 x112 x119 x126 x128 x129 x130 x131 x143 x145 x151 x153 x159 x161 x167 x169 x175 x177 x183 x185 h1 m10 m17 m24 m31 m38 m45 m52 m59 m81 m88 m95 m102 m109 m116 m123 m130 m146 m213 m223 m230 m240 m247 m254 m261 m268 m275 m282 m292 m299 m306 m319 m326 m354 m361 m368 m375 m382 m389 m396 m403 m410 m417 m424 m431 m438 m448 m455 m480 m487 m494))) 0 st0 (125, 3027) 0 (xs := xs) ⟨st_Cx C, ?_, ?_, ?_, mNW_vr hNW, ?_, by decide +kernel, by decide +kernel, ?_⟩ st_RELS rfl (by omega) (by omega)
    · obtain ⟨p, l, e, R, s, m, args, below, meth, c, V, nL, Q⟩ := M
      obtain ⟨s1, s2, s3, s4⟩ := hS
      have e5 : va (stV V (stQ h0 x1 x3 x4 x5 x6 x7 x8 x9 x10 x11 x12 x13 x14 x15 x16 x17 x23 x25 x26 x27 x28 x29 x30 x31 x32 x33 x34 x35 x36 x37 x38 x39 x45 x47 x48 x49 x50 x51 x52 x53 x54 x55 x56 x57 x58 x59 x60 x61 x70 x80 x90 x97 x99 x105 x112 x119 x126 x128 x129 x130 x131 x143 x145 x151 x153 x159 x161 x167 x169 x175 x177 x183 x185 h1 m10 m17 m24 m31 m38 m45 m52 m59 m81 m88 m95 m102 m109 m116 m123 m130 m146 m213 m223 m230 m240 m247 m254 m261 m268 m275 m282 m292 m299 m306 m319 m326 m354 m361 m368 m375 m382 m389 m396 m403 m410 m417 m424 m431 m438 m448 m455 m480 m487 m494)) 500 = va V 500 := stV_hi (by decide +kernel)
      show va_X (va (stV V (stQ h0 x1 x3 x4 x5 x6 x7 x8 x9 x10 x11 x12 x13 x14 x15 x16 x17 x23 x25 x26 x27 x28 x29 x30 x31 x32 x33 x34 x35 x36 x37 x38 x39 x45 x47 x48 x49 x50 x51 x52 x53 x54 x55 x56 x57 x58 x59 x60 x61 x70 x80 x90 x97 x99 x105 x112 x119 x126 x128 x129 x130 x131 x143 x145 x151 x153 x159 x161 x167 x169 x175 x177 x183 x185 h1 m10 m17 m24 m31 m38 m45 m52 m59 m81 m88 m95 m102 m109 m116 m123 m130 m146 m213 m223 m230 m240 m247 m254 m261 m268 m275 m282 m292 m299 m306 m319 m326 m354 m361 m368 m375 m382 m389 m396 m403 m410 m417 m424 m431 m438 m448 m455 m480 m487 m494)) 500) L xs s s.heap ∧ va (stV V (stQ h0 x1 x3 x4 x5 x6 x7 x8 x9 x10 x11 x12 x13 x14 x15 x16 x17 x23 x25 x26 x27 x28 x29 x30 x31 x32 x33 x34 x35 x36 x37 x38 x39 x45 x47 x48 x49 x50 x51 x52 x53 x54 x55 x56 x57 x58 x59 x60 x61 x70 x80 x90 x97 x99 x105 x112 x119 x126 x128 x129 x130 x131 x143 x145 x151 x153 x159 x161 x167 x169 x175 x177 x183 x185 h1 m10 m17 m24 m31 m38 m45 m52 m59 m81 m88 m95 m102 m109 m116 m123 m130 m146 m213 m223 m230 m240 m247 m254 m261 m268 m275 m282 m292 m299 m306 m319 m326 m354 m361 m368 m375 m382 m389 m396 m403 m410 m417 m424 m431 m438 m448 m455 m480 m487 m494)) 500 < s.heap.size ∧ (∀ q, vA V q → s.heap.size ≤ q) ∧ ∃ b, args = #[Value.ref b]
      rw [e5]
      exact ⟨s1, s2, s3, s4⟩
    · rw [mset_V]; exact st_INV
    · rw [mset_V]; exact hU
    · rw [mset_V]; exact st_wfd
    · rw [mset_N]; exact hN
  obtain ⟨p, l, e, R, s, m, args, below, meth, c, V, nL, Q⟩ := M
  intro ls H locs hl hG hSS
  have hGH := st_GH (V := V) (Q := stQ h0 x1 x3 x4 x5 x6 x7 x8 x9 x10 x11 x12 x13 x14 x15 x16 x17 x23 x25 x26 x27 x28 x29 x30 x31 x32 x33 x34 x35 x36 x37 x38 x39 x45 x47 x48 x49 x50 x51 x52 x53 x54 x55 x56 x57 x58 x59 x60 x61 x70 x80 x90 x97 x99 x105 x112 x119 x126 x128 x129 x130 x131 x143 x145 x151 x153 x159 x161 x167 x169 x175 x177 x183 x185 h1 m10 m17 m24 m31 m38 m45 m52 m59 m81 m88 m95 m102 m109 m116 m123 m130 m146 m213 m223 m230 m240 m247 m254 m261 m268 m275 m282 m292 m299 m306 m319 m326 m354 m361 m368 m375 m382 m389 m396 m403 m410 m417 m424 m431 m438 m448 m455 m480 m487 m494) hG hmem hnd (st_L h0 x1 x3 x4 x5 x6 x7 x8 x9 x10 x11 x12 x13 x14 x15 x16 x17 x23 x25 x26 x27 x28 x29 x30 x31 x32 x33 x34 x35 x36 x37 x38 x39 x45 x47 x48 x49 x50 x51 x52 x53 x54 x55 x56 x57 x58 x59 x60 x61 x70 x80 x90 x97 x99 x105 x112 x119 x126 x128 x129 x130 x131 x143 x145 x151 x153 x159 x161 x167 x169 x175 x177 x183 x185 h1 m10 m17 m24 m31 m38 m45 m52 m59 m81 m88 m95 m102 m109 m116 m123 m130 m146 m213 m223 m230 m240 m247 m254 m261 m268 m275 m282 m292 m299 m306 m319 m326 m354 m361 m368 m375 m382 m389 m396 m403 m410 m417 m424 m431 m438 m448 m455 m480 m487 m494) (st_E h0 x1 x3 x4 x5 x6 x7 x8 x9 x10 x11 x12 x13 x14 x15 x16 x17 x23 x25 x26 x27 x28 x29 x30 x31 x32 x33 x34 x35 x36 x37 x38 x39 x45 x47 x48 x49 x50 x51 x52 x53 x54 x55 x56 x57 x58 x59 x60 x61 x70 x80 x90 x97 x99 x105 x112 x119 x126 x128 x129 x130 x131 x143 x145 x151 x153 x159 x161 x167 x169 x175 x177 x183 x185 h1 m10 m17 m24 m31 m38 m45 m52 m59 m81 m88 m95 m102 m109 m116 m123 m130 m146 m213 m223 m230 m240 m247 m254 m261 m268 m275 m282 m292 m299 m306 m319 m326 m354 m361 m368 m375 m382 m389 m396 m403 m410 m417 m424 m431 m438 m448 m455 m480 m487 m494)
  refine hLp ls H locs ?_ hGH hSS
  have e5 : va (stV V (stQ h0 x1 x3 x4 x5 x6 x7 x8 x9 x10 x11 x12 x13 x14 x15 x16 x17 x23 x25 x26 x27 x28 x29 x30 x31 x32 x33 x34 x35 x36 x37 x38 x39 x45 x47 x48 x49 x50 x51 x52 x53 x54 x55 x56 x57 x58 x59 x60 x61 x70 x80 x90 x97 x99 x105 x112 x119 x126 x128 x129 x130 x131 x143 x145 x151 x153 x159 x161 x167 x169 x175 x177 x183 x185 h1 m10 m17 m24 m31 m38 m45 m52 m59 m81 m88 m95 m102 m109 m116 m123 m130 m146 m213 m223 m230 m240 m247 m254 m261 m268 m275 m282 m292 m299 m306 m319 m326 m354 m361 m368 m375 m382 m389 m396 m403 m410 m417 m424 m431 m438 m448 m455 m480 m487 m494)) 500 = b := (stV_hi (by decide +kernel)).trans h500
  show lv_has ls nL [(0, .ref (va (stV V (stQ h0 x1 x3 x4 x5 x6 x7 x8 x9 x10 x11 x12 x13 x14 x15 x16 x17 x23 x25 x26 x27 x28 x29 x30 x31 x32 x33 x34 x35 x36 x37 x38 x39 x45 x47 x48 x49 x50 x51 x52 x53 x54 x55 x56 x57 x58 x59 x60 x61 x70 x80 x90 x97 x99 x105 x112 x119 x126 x128 x129 x130 x131 x143 x145 x151 x153 x159 x161 x167 x169 x175 x177 x183 x185 h1 m10 m17 m24 m31 m38 m45 m52 m59 m81 m88 m95 m102 m109 m116 m123 m130 m146 m213 m223 m230 m240 m247 m254 m261 m268 m275 m282 m292 m299 m306 m319 m326 m354 m361 m368 m375 m382 m389 m396 m403 m410 m417 m424 m431 m438 m448 m455 m480 m487 m494)) 500)), (1, .ref h0), (2, .ref h1), (3, .int 0)]
  rw [e5]
  exact hl
set_option maxRecDepth 100000 in
set_option maxHeartbeats 4000000 in
theorem st_run {M : Mx} {L : Nat} {xs : Nat → Int32} {b : Nat} {ω0 : RWd} (hL : L ≤ 3072) (C : Cx M cL_law ret RL lw_tbl room_1 600000 7302250 lw_Q) (hS : SCR M L xs) (h500 : va (mV M) 500 = b) (hU : UPV (mV M)) (hNW : mNW M) (hN : mN M = 4) : PR M 0 [(0, .ref b)] [] ω0 (0, 0) := by
  refine Z_new (fs := [.null, .null, .null, .int 0, .null, .int 0, .null, .int 0, .null, .null, .null, .null, .null]) C hU (ci := 11) rfl (fun w h => wsL_inX11 w h) tyX11_ok (wsL_in_1 _ (List.mem_of_getElem? (i := 0) rfl)) (wsL_in_1 _ (List.mem_of_getElem? (i := 1) rfl)) (wsL_in_1 _ (List.mem_of_getElem? (i := 2) rfl)) dfX11 (Nat.le_of_ble_eq_true rfl) (Nat.le_of_ble_eq_true rfl) dL_law_0 (fun h0 hh0 => ?_)
  show PR M 3 [(0, .ref b)] [.ref h0] (rnew ω0 h0 (.inr (11, [.null, .null, .null, .int 0, .null, .int 0, .null, .int 0, .null, .null, .null, .null, .null]))) (1, 13)
  refine Z_dup C dL_law_3 rfl ?_
  refine Z_ciK (rc0 := rmr 3 73 1063) (Qk := XB (mV M) (rnew ω0 h0 (.inr (11, [.null, .null, .null, .int 0, .null, .int 0, .null, .int 0, .null, .null, .null, .null, .null]))) h0) (b := h0) (As := []) C hNW ki_law_X11 rfl (Nat.le_of_ble_eq_true rfl) dL_law_4 ⟨Nat.le_of_ble_eq_true rfl, Nat.le_of_ble_eq_true rfl⟩ (k_X11_init hU (List.mem_append_right _ (List.mem_singleton.mpr rfl)) (va_up_self _ _ _)) (fun ωb bX => ?_)
  refine Exists.elim bX (fun x1 bX => Exists.elim bX (fun x3 bX => Exists.elim bX (fun x4 bX => Exists.elim bX (fun x5 bX => Exists.elim bX (fun x6 bX => Exists.elim bX (fun x7 bX => Exists.elim bX (fun x8 bX => Exists.elim bX (fun x9 bX => Exists.elim bX (fun x10 bX => Exists.elim bX (fun x11 bX => Exists.elim bX (fun x12 bX => Exists.elim bX (fun x13 bX => Exists.elim bX (fun x14 bX => Exists.elim bX (fun x15 bX => Exists.elim bX (fun x16 bX => Exists.elim bX (fun x17 bX => Exists.elim bX (fun x23 bX => Exists.elim bX (fun x25 bX => Exists.elim bX (fun x26 bX => Exists.elim bX (fun x27 bX => Exists.elim bX (fun x28 bX => Exists.elim bX (fun x29 bX => Exists.elim bX (fun x30 bX => Exists.elim bX (fun x31 bX => Exists.elim bX (fun x32 bX => Exists.elim bX (fun x33 bX => Exists.elim bX (fun x34 bX => Exists.elim bX (fun x35 bX => Exists.elim bX (fun x36 bX => Exists.elim bX (fun x37 bX => Exists.elim bX (fun x38 bX => Exists.elim bX (fun x39 bX => Exists.elim bX (fun x45 bX => Exists.elim bX (fun x47 bX => Exists.elim bX (fun x48 bX => Exists.elim bX (fun x49 bX => Exists.elim bX (fun x50 bX => Exists.elim bX (fun x51 bX => Exists.elim bX (fun x52 bX => Exists.elim bX (fun x53 bX => Exists.elim bX (fun x54 bX => Exists.elim bX (fun x55 bX => Exists.elim bX (fun x56 bX => Exists.elim bX (fun x57 bX => Exists.elim bX (fun x58 bX => Exists.elim bX (fun x59 bX => Exists.elim bX (fun x60 bX => Exists.elim bX (fun x61 bX => Exists.elim bX (fun x70 bX => Exists.elim bX (fun x80 bX => Exists.elim bX (fun x90 bX => Exists.elim bX (fun x97 bX => Exists.elim bX (fun x99 bX => Exists.elim bX (fun x105 bX => Exists.elim bX (fun x112 bX => Exists.elim bX (fun x119 bX => Exists.elim bX (fun x126 bX => Exists.elim bX (fun x128 bX => Exists.elim bX (fun x129 bX => Exists.elim bX (fun x130 bX => Exists.elim bX (fun x131 bX => Exists.elim bX (fun x143 bX => Exists.elim bX (fun x145 bX => Exists.elim bX (fun x151 bX => Exists.elim bX (fun x153 bX => Exists.elim bX (fun x159 bX => Exists.elim bX (fun x161 bX => Exists.elim bX (fun x167 bX => Exists.elim bX (fun x169 bX => Exists.elim bX (fun x175 bX => Exists.elim bX (fun x177 bX => Exists.elim bX (fun x183 bX => Exists.elim bX (fun x185 bX => ?_)))))))))))))))))))))))))))))))))))))))))))))))))))))))))))))))))))))))))
  have eX := bX.2
  have bX := bX.1
  show PR M 7 [(0, .ref b)] [.ref h0] ωb (74, 1076)
  refine Z_astore_n C (lv' := [(1, .ref h0), (0, .ref b)]) dL_law_7 (by rw [hN]; decide) rfl ?_
  refine Z_new (fs := [.int 0, .int 0, .int 0, .null, .null, .null, .null, .null, .null, .null, .null, .int 0, .int 0, .int 0, .int 0, .int 0, .null, .null, .null, .null, .null, .null, .null, .null, .int 0, .int 0, .int 0, .null, .int 0, .null, .int 0, .null, .null, .int 0, .null, .null, .null, .null, .null, .null, .null, .int 0, .null, .null, .null, .int 0, .int 0, .null, .null, .int 0, .int 0, .int 0, .int 0, .int 0, .int 0, .int 0, .null, .null, .null, .null, .null, .null, .null, .null, .null, .null, .null, .null, .null, .int 0, .null, .null, .null, .null, .null]) C hU (ci := 12) rfl (fun w h => wsL_inX12 w h) tyX12_ok (wsL_in_1 _ (List.mem_of_getElem? (i := 3) rfl)) (wsL_in_1 _ (List.mem_of_getElem? (i := 4) rfl)) (wsL_in_1 _ (List.mem_of_getElem? (i := 5) rfl)) dfX12 (Nat.le_of_ble_eq_true rfl) (Nat.le_of_ble_eq_true rfl) dL_law_8 (fun h1 hh1 => ?_)
  show PR M 11 [(1, .ref h0), (0, .ref b)] [.ref h1] (rnew ωb h1 (.inr (12, [.int 0, .int 0, .int 0, .null, .null, .null, .null, .null, .null, .null, .null, .int 0, .int 0, .int 0, .int 0, .int 0, .null, .null, .null, .null, .null, .null, .null, .null, .int 0, .int 0, .int 0, .null, .int 0, .null, .int 0, .null, .null, .int 0, .null, .null, .null, .null, .null, .null, .null, .int 0, .null, .null, .null, .int 0, .int 0, .null, .null, .int 0, .int 0, .int 0, .int 0, .int 0, .int 0, .int 0, .null, .null, .null, .null, .null, .null, .null, .null, .null, .null, .null, .null, .null, .int 0, .null, .null, .null, .null, .null]))) (75, 1151)
  refine Z_dup C dL_law_11 rfl ?_
  refine Z_ci (rc0 := rmr 1 50 1876) (Qk := MB (mV M) (rnew ωb h1 (.inr (12, [.int 0, .int 0, .int 0, .null, .null, .null, .null, .null, .null, .null, .null, .int 0, .int 0, .int 0, .int 0, .int 0, .null, .null, .null, .null, .null, .null, .null, .null, .int 0, .int 0, .int 0, .null, .int 0, .null, .int 0, .null, .null, .int 0, .null, .null, .null, .null, .null, .null, .null, .int 0, .null, .null, .null, .int 0, .int 0, .null, .null, .int 0, .int 0, .int 0, .int 0, .int 0, .int 0, .int 0, .null, .null, .null, .null, .null, .null, .null, .null, .null, .null, .null, .null, .null, .int 0, .null, .null, .null, .null, .null]))) h1) (b := h1) (As := []) C ki_law_X12 rfl (Nat.le_of_ble_eq_true rfl) dL_law_12 ⟨Nat.le_of_ble_eq_true rfl, Nat.le_of_ble_eq_true rfl⟩ (k_X12_init hU (List.mem_append_right _ (List.mem_singleton.mpr rfl)) (va_up_self _ _ _)) (fun ωd bM => ?_)
  refine Exists.elim bM (fun m10 bM => Exists.elim bM (fun m17 bM => Exists.elim bM (fun m24 bM => Exists.elim bM (fun m31 bM => Exists.elim bM (fun m38 bM => Exists.elim bM (fun m45 bM => Exists.elim bM (fun m52 bM => Exists.elim bM (fun m59 bM => Exists.elim bM (fun m81 bM => Exists.elim bM (fun m88 bM => Exists.elim bM (fun m95 bM => Exists.elim bM (fun m102 bM => Exists.elim bM (fun m109 bM => Exists.elim bM (fun m116 bM => Exists.elim bM (fun m123 bM => Exists.elim bM (fun m130 bM => Exists.elim bM (fun m146 bM => Exists.elim bM (fun m213 bM => Exists.elim bM (fun m223 bM => Exists.elim bM (fun m230 bM => Exists.elim bM (fun m240 bM => Exists.elim bM (fun m247 bM => Exists.elim bM (fun m254 bM => Exists.elim bM (fun m261 bM => Exists.elim bM (fun m268 bM => Exists.elim bM (fun m275 bM => Exists.elim bM (fun m282 bM => Exists.elim bM (fun m292 bM => Exists.elim bM (fun m299 bM => Exists.elim bM (fun m306 bM => Exists.elim bM (fun m319 bM => Exists.elim bM (fun m326 bM => Exists.elim bM (fun m354 bM => Exists.elim bM (fun m361 bM => Exists.elim bM (fun m368 bM => Exists.elim bM (fun m375 bM => Exists.elim bM (fun m382 bM => Exists.elim bM (fun m389 bM => Exists.elim bM (fun m396 bM => Exists.elim bM (fun m403 bM => Exists.elim bM (fun m410 bM => Exists.elim bM (fun m417 bM => Exists.elim bM (fun m424 bM => Exists.elim bM (fun m431 bM => Exists.elim bM (fun m438 bM => Exists.elim bM (fun m448 bM => Exists.elim bM (fun m455 bM => Exists.elim bM (fun m480 bM => Exists.elim bM (fun m487 bM => Exists.elim bM (fun m494 bM => ?_))))))))))))))))))))))))))))))))))))))))))))))))))
  have eM := bM.2
  have bM := bM.1
  obtain ⟨bt, et⟩ := BT_call bX hh1 bM eM
  show PR M 15 [(1, .ref h0), (0, .ref b)] [.ref h1] ωd (125, 3027)
  refine Z_astore_n C (lv' := [(2, .ref h1), (1, .ref h0), (0, .ref b)]) dL_law_15 (by rw [hN]; decide) rfl ?_
  refine Z_iconst C (v := 0) dL_law_16 rfl ?_
  refine Z_istore_n C (lv' := [(3, .int 0), (2, .ref h1), (1, .ref h0), (0, .ref b)]) dL_law_17 (by rw [hN]; decide) rfl ?_
  refine Z_sub (lv' := [(0, .ref b), (1, .ref h0), (2, .ref h1), (3, .int 0)]) [3, 2, 1, 0] rfl ?_
  exact st_go hL C hS h500 hU hNW hN h0 x1 x3 x4 x5 x6 x7 x8 x9 x10 x11 x12 x13 x14 x15 x16 x17 x23 x25 x26 x27 x28 x29 x30 x31 x32 x33 x34 x35 x36 x37 x38 x39 x45 x47 x48 x49 x50 x51 x52 x53 x54 x55 x56 x57 x58 x59 x60 x61 x70 x80 x90 x97 x99 x105 x112 x119 x126 x128 x129 x130 x131 x143 x145 x151 x153 x159 x161 x167 x169 x175 x177 x183 x185 h1 m10 m17 m24 m31 m38 m45 m52 m59 m81 m88 m95 m102 m109 m116 m123 m130 m146 m213 m223 m230 m240 m247 m254 m261 m268 m275 m282 m292 m299 m306 m319 m326 m354 m361 m368 m375 m382 m389 m396 m403 m410 m417 m424 m431 m438 m448 m455 m480 m487 m494 bt (et.trans eX)
theorem whole_start {p : Program} {e : Env} {s : State} {m : MethodId} {below : List Frame} {meth : Method} {c : Code} (l : Launch) (hflags : l.flags = flags0) {b L : Nat} {xs : Nat → Int32} (hL : L ≤ 3072) (C0 : lw_At p s m meth c b L xs) : W p l e room_1 s m #[Value.ref b] below meth c s.heap [] 0 0 (lw_Z below #[Value.ref b] s) (entryFrame m ([Value.ref b] : List Value).toArray 4) := by
  obtain ⟨hx, hb, hr, hml, hown, hts, hX, hbl, hlk, hgv⟩ := C0
  obtain ⟨V, hw, h5, hA, hK, hVX, hXC, hU, hNW⟩ := st_entry hts hgv
  refine W_mono (fun t q => MQ_Z (A := vA V) q) ?_
  have C : Cx (p, l, e, room_1, s, m, #[Value.ref b], below, meth, c, V, 4, MQ below lw_Q #[Value.ref b] s 600000 7302250 (vA V)) cL_law ret RL lw_tbl room_1 600000 7302250 lw_Q := ⟨hx, hb, hml, hown, hts, hr, hlk, hK, rfl, rfl, hw, hVX, hXC⟩
  have hS : SCR (p, l, e, room_1, s, m, #[Value.ref b], below, meth, c, V, 4, MQ below lw_Q #[Value.ref b] s 600000 7302250 (vA V)) L xs := by
    show va_X (va V 500) L xs s s.heap ∧ va V 500 < s.heap.size ∧ (∀ q, vA V q → s.heap.size ≤ q) ∧ ∃ b', #[Value.ref b] = #[Value.ref b']
    rw [h5]
    exact ⟨hX, hbl, fun q h => (hA q).mp h, b, rfl⟩
  have hR := st_run (ω0 := ([], fun _ => .inr (0, []))) hL C hS h5 hU hNW rfl
  have hl := lv_entry ([Value.ref b] : List Value) (n := 4) (Nat.le_of_ble_eq_true rfl)
  rw [lg_entry_eq]
  exact hR _ _ _ hl ⟨fun k q hq => absurd hq (by simp [rc]), fun i j a c h1 h2 _ => absurd h1 (by simp [rc]), fun k q hq => absurd hq (by simp [rc])⟩ va_S.rf
