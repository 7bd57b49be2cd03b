-- ===== PART A: goes FIRST, ahead of the names: the tables' words, and 'selects' of the private methods out of them =====
/-- a private method of a class that the tables say can be made, by its rows of tables_1 -/
noncomputable def lw_okq (q : MethodName × Nat) : Prop := (q.1.cls ≠ "java/lang/invoke/MethodHandle" ∧ q.1.cls ≠ "java/lang/invoke/VarHandle") ∧ Cond.instantiable q.1.cls q.2 ∈ tables_1 ∧ Cond.privateMethod q.1 ∈ tables_1 ∧ Cond.instanceMethod q.1 ∈ tables_1
theorem tb_all : ∀ w : Cond, (w ∈ tables_1_1 → w ∈ tables_1) ∧ (w ∈ tables_1_2 → w ∈ tables_1) ∧ (w ∈ tables_1_3 → w ∈ tables_1) ∧ (w ∈ tables_1_4 → w ∈ tables_1) ∧ (w ∈ tables_1_5 → w ∈ tables_1) ∧ (w ∈ tables_1_6 → w ∈ tables_1) ∧ (w ∈ tables_1_7 → w ∈ tables_1) := by
  intro w
  unfold tables_1
  simp only [List.mem_append]
  refine ⟨?_, ?_, ?_, ?_, ?_, ?_, ?_⟩ <;> intro h
  · exact Or.inl h
  · exact Or.inr (Or.inl h)
  · exact Or.inr (Or.inr (Or.inl h))
  · exact Or.inr (Or.inr (Or.inr (Or.inl h)))
  · exact Or.inr (Or.inr (Or.inr (Or.inr (Or.inl h))))
  · exact Or.inr (Or.inr (Or.inr (Or.inr (Or.inr (Or.inl h)))))
  · exact Or.inr (Or.inr (Or.inr (Or.inr (Or.inr (Or.inr (h))))))
theorem tb_1 (w : Cond) (h : w ∈ tables_1_1) : w ∈ tables_1 := (tb_all w).1 h
theorem tb_2 (w : Cond) (h : w ∈ tables_1_2) : w ∈ tables_1 := (tb_all w).2.1 h
theorem tb_3 (w : Cond) (h : w ∈ tables_1_3) : w ∈ tables_1 := (tb_all w).2.2.1 h
theorem tb_4 (w : Cond) (h : w ∈ tables_1_4) : w ∈ tables_1 := (tb_all w).2.2.2.1 h
theorem tb_5 (w : Cond) (h : w ∈ tables_1_5) : w ∈ tables_1 := (tb_all w).2.2.2.2.1 h
theorem tb_6 (w : Cond) (h : w ∈ tables_1_6) : w ∈ tables_1 := (tb_all w).2.2.2.2.2.1 h
theorem tb_7 (w : Cond) (h : w ∈ tables_1_7) : w ∈ tables_1 := (tb_all w).2.2.2.2.2.2 h
theorem nh_0 : (("NineMowers" : String) ≠ "java/lang/invoke/MethodHandle") ∧ (("NineMowers" : String) ≠ "java/lang/invoke/VarHandle") := ⟨by decide +kernel, by decide +kernel⟩
set_option maxRecDepth 20000 in
theorem ni_0 : Cond.instantiable "NineMowers" 13 ∈ tables_1 := tb_1 _ (List.mem_of_getElem? (i := 23) rfl)
theorem nh_1 : (("NineMowers$Field" : String) ≠ "java/lang/invoke/MethodHandle") ∧ (("NineMowers$Field" : String) ≠ "java/lang/invoke/VarHandle") := ⟨by decide +kernel, by decide +kernel⟩
set_option maxRecDepth 20000 in
theorem ni_1 : Cond.instantiable "NineMowers$Field" 12 ∈ tables_1 := tb_1 _ (List.mem_of_getElem? (i := 131) rfl)
theorem nh_2 : (("NineMowers$Course" : String) ≠ "java/lang/invoke/MethodHandle") ∧ (("NineMowers$Course" : String) ≠ "java/lang/invoke/VarHandle") := ⟨by decide +kernel, by decide +kernel⟩
set_option maxRecDepth 20000 in
theorem ni_2 : Cond.instantiable "NineMowers$Course" 17 ∈ tables_1 := tb_1 _ (List.mem_of_getElem? (i := 31) rfl)
theorem nh_3 : (("NineMowersModel" : String) ≠ "java/lang/invoke/MethodHandle") ∧ (("NineMowersModel" : String) ≠ "java/lang/invoke/VarHandle") := ⟨by decide +kernel, by decide +kernel⟩
set_option maxRecDepth 20000 in
theorem ni_3 : Cond.instantiable "NineMowersModel" 75 ∈ tables_1 := tb_5 _ (List.mem_of_getElem? (i := 9) rfl)
set_option maxRecDepth 20000 in
theorem lw_p0 : lw_okq (⟨"NineMowers", "isMower", "(I)Z"⟩, 13) := ⟨nh_0, ni_0, tb_2 _ (List.mem_of_getElem? (i := 106) rfl), tb_2 _ (List.mem_of_getElem? (i := 107) rfl)⟩
set_option maxRecDepth 20000 in
theorem lw_p1 : lw_okq (⟨"NineMowers$Field", "holds", "(II[I)Z"⟩, 12) := ⟨nh_1, ni_1, tb_2 _ (List.mem_of_getElem? (i := 122) rfl), tb_2 _ (List.mem_of_getElem? (i := 123) rfl)⟩
set_option maxRecDepth 20000 in
theorem lw_p2 : lw_okq (⟨"NineMowers$Field", "readsClause", "()Z"⟩, 12) := ⟨nh_1, ni_1, tb_2 _ (List.mem_of_getElem? (i := 203) rfl), tb_2 _ (List.mem_of_getElem? (i := 204) rfl)⟩
set_option maxRecDepth 20000 in
theorem lw_p3 : lw_okq (⟨"NineMowers$Field", "signAmong", "(Ljava/lang/String;)I"⟩, 12) := ⟨nh_1, ni_1, tb_2 _ (List.mem_of_getElem? (i := 208) rfl), tb_2 _ (List.mem_of_getElem? (i := 209) rfl)⟩
set_option maxRecDepth 20000 in
theorem lw_p4 : lw_okq (⟨"NineMowers$Field", "sign", "()I"⟩, 12) := ⟨nh_1, ni_1, tb_2 _ (List.mem_of_getElem? (i := 212) rfl), tb_2 _ (List.mem_of_getElem? (i := 213) rfl)⟩
set_option maxRecDepth 20000 in
theorem lw_p5 : lw_okq (⟨"NineMowers$Field", "readsWord", "(I)Z"⟩, 12) := ⟨nh_1, ni_1, tb_3 _ (List.mem_of_getElem? (i := 60) rfl), tb_3 _ (List.mem_of_getElem? (i := 61) rfl)⟩
set_option maxRecDepth 20000 in
theorem lw_p6 : lw_okq (⟨"NineMowers$Field", "takes", "(C)Z"⟩, 12) := ⟨nh_1, ni_1, tb_3 _ (List.mem_of_getElem? (i := 93) rfl), tb_3 _ (List.mem_of_getElem? (i := 94) rfl)⟩
set_option maxRecDepth 20000 in
theorem lw_p7 : lw_okq (⟨"NineMowers$Field", "readsNumber", "()I"⟩, 12) := ⟨nh_1, ni_1, tb_3 _ (List.mem_of_getElem? (i := 97) rfl), tb_3 _ (List.mem_of_getElem? (i := 98) rfl)⟩
set_option maxRecDepth 20000 in
theorem lw_p8 : lw_okq (⟨"NineMowers$Field", "isDigit", "()Z"⟩, 12) := ⟨nh_1, ni_1, tb_3 _ (List.mem_of_getElem? (i := 101) rfl), tb_3 _ (List.mem_of_getElem? (i := 102) rfl)⟩
set_option maxRecDepth 20000 in
theorem lw_p9 : lw_okq (⟨"NineMowers$Field", "readsEither", "(I)Z"⟩, 12) := ⟨nh_1, ni_1, tb_3 _ (List.mem_of_getElem? (i := 105) rfl), tb_3 _ (List.mem_of_getElem? (i := 106) rfl)⟩
set_option maxRecDepth 20000 in
theorem lw_p10 : lw_okq (⟨"NineMowers$Field", "readsBoth", "(I)Z"⟩, 12) := ⟨nh_1, ni_1, tb_3 _ (List.mem_of_getElem? (i := 109) rfl), tb_3 _ (List.mem_of_getElem? (i := 110) rfl)⟩
set_option maxRecDepth 20000 in
theorem lw_p11 : lw_okq (⟨"NineMowers$Field", "readsPart", "(I)Z"⟩, 12) := ⟨nh_1, ni_1, tb_3 _ (List.mem_of_getElem? (i := 113) rfl), tb_3 _ (List.mem_of_getElem? (i := 114) rfl)⟩
set_option maxRecDepth 20000 in
theorem lw_p12 : lw_okq (⟨"NineMowers$Field", "writes", "(I)V"⟩, 12) := ⟨nh_1, ni_1, tb_3 _ (List.mem_of_getElem? (i := 117) rfl), tb_3 _ (List.mem_of_getElem? (i := 118) rfl)⟩
set_option maxRecDepth 20000 in
theorem lw_p13 : lw_okq (⟨"NineMowers$Field", "readsTest", "()Z"⟩, 12) := ⟨nh_1, ni_1, tb_3 _ (List.mem_of_getElem? (i := 121) rfl), tb_3 _ (List.mem_of_getElem? (i := 122) rfl)⟩
set_option maxRecDepth 20000 in
theorem lw_p14 : lw_okq (⟨"NineMowers$Field", "keeps", "(II)V"⟩, 12) := ⟨nh_1, ni_1, tb_3 _ (List.mem_of_getElem? (i := 127) rfl), tb_3 _ (List.mem_of_getElem? (i := 128) rfl)⟩
set_option maxRecDepth 20000 in
theorem lw_p15 : lw_okq (⟨"NineMowers$Course", "roomAt", "(I)I"⟩, 17) := ⟨nh_2, ni_2, tb_3 _ (List.mem_of_getElem? (i := 149) rfl), tb_3 _ (List.mem_of_getElem? (i := 150) rfl)⟩
noncomputable def lw_privs_1 : List (MethodName × Nat) := [(⟨"NineMowers", "isMower", "(I)Z"⟩, 13), (⟨"NineMowers$Field", "holds", "(II[I)Z"⟩, 12), (⟨"NineMowers$Field", "readsClause", "()Z"⟩, 12), (⟨"NineMowers$Field", "signAmong", "(Ljava/lang/String;)I"⟩, 12), (⟨"NineMowers$Field", "sign", "()I"⟩, 12), (⟨"NineMowers$Field", "readsWord", "(I)Z"⟩, 12), (⟨"NineMowers$Field", "takes", "(C)Z"⟩, 12), (⟨"NineMowers$Field", "readsNumber", "()I"⟩, 12), (⟨"NineMowers$Field", "isDigit", "()Z"⟩, 12), (⟨"NineMowers$Field", "readsEither", "(I)Z"⟩, 12), (⟨"NineMowers$Field", "readsBoth", "(I)Z"⟩, 12), (⟨"NineMowers$Field", "readsPart", "(I)Z"⟩, 12), (⟨"NineMowers$Field", "writes", "(I)V"⟩, 12), (⟨"NineMowers$Field", "readsTest", "()Z"⟩, 12), (⟨"NineMowers$Field", "keeps", "(II)V"⟩, 12), (⟨"NineMowers$Course", "roomAt", "(I)I"⟩, 17)]
theorem lw_r1 : ∀ q ∈ lw_privs_1, lw_okq q := List.forall_mem_cons.mpr ⟨lw_p0, List.forall_mem_cons.mpr ⟨lw_p1, List.forall_mem_cons.mpr ⟨lw_p2, List.forall_mem_cons.mpr ⟨lw_p3, List.forall_mem_cons.mpr ⟨lw_p4, List.forall_mem_cons.mpr ⟨lw_p5, List.forall_mem_cons.mpr ⟨lw_p6, List.forall_mem_cons.mpr ⟨lw_p7, List.forall_mem_cons.mpr ⟨lw_p8, List.forall_mem_cons.mpr ⟨lw_p9, List.forall_mem_cons.mpr ⟨lw_p10, List.forall_mem_cons.mpr ⟨lw_p11, List.forall_mem_cons.mpr ⟨lw_p12, List.forall_mem_cons.mpr ⟨lw_p13, List.forall_mem_cons.mpr ⟨lw_p14, List.forall_mem_cons.mpr ⟨lw_p15, fun _ h => absurd h List.not_mem_nil⟩⟩⟩⟩⟩⟩⟩⟩⟩⟩⟩⟩⟩⟩⟩⟩
set_option maxRecDepth 20000 in
theorem lw_p16 : lw_okq (⟨"NineMowers$Course", "wears", "(IZ)V"⟩, 17) := ⟨nh_2, ni_2, tb_3 _ (List.mem_of_getElem? (i := 155) rfl), tb_3 _ (List.mem_of_getElem? (i := 156) rfl)⟩
set_option maxRecDepth 20000 in
theorem lw_p17 : lw_okq (⟨"NineMowers$Course", "passes", "(II)V"⟩, 17) := ⟨nh_2, ni_2, tb_3 _ (List.mem_of_getElem? (i := 167) rfl), tb_3 _ (List.mem_of_getElem? (i := 168) rfl)⟩
set_option maxRecDepth 20000 in
theorem lw_p18 : lw_okq (⟨"NineMowers", "heldTimes", "(II)I"⟩, 13) := ⟨nh_0, ni_0, tb_3 _ (List.mem_of_getElem? (i := 190) rfl), tb_3 _ (List.mem_of_getElem? (i := 191) rfl)⟩
set_option maxRecDepth 20000 in
theorem lw_p19 : lw_okq (⟨"NineMowers", "findsBestOrder", "(I)I"⟩, 13) := ⟨nh_0, ni_0, tb_3 _ (List.mem_of_getElem? (i := 215) rfl), tb_3 _ (List.mem_of_getElem? (i := 216) rfl)⟩
set_option maxRecDepth 20000 in
theorem lw_p20 : lw_okq (⟨"NineMowers", "totalInOrder", "(I)I"⟩, 13) := ⟨nh_0, ni_0, tb_3 _ (List.mem_of_getElem? (i := 220) rfl), tb_3 _ (List.mem_of_getElem? (i := 221) rfl)⟩
set_option maxRecDepth 20000 in
theorem lw_p21 : lw_okq (⟨"NineMowers", "triesNextOrder", "(I)Z"⟩, 13) := ⟨nh_0, ni_0, tb_3 _ (List.mem_of_getElem? (i := 225) rfl), tb_3 _ (List.mem_of_getElem? (i := 226) rfl)⟩
set_option maxRecDepth 20000 in
theorem lw_p22 : lw_okq (⟨"NineMowers", "swapsTried", "(II)V"⟩, 13) := ⟨nh_0, ni_0, tb_3 _ (List.mem_of_getElem? (i := 229) rfl), tb_3 _ (List.mem_of_getElem? (i := 230) rfl)⟩
set_option maxRecDepth 20000 in
theorem lw_p23 : lw_okq (⟨"NineMowers", "mostBy", "(IIIII)I"⟩, 13) := ⟨nh_0, ni_0, tb_3 _ (List.mem_of_getElem? (i := 237) rfl), tb_3 _ (List.mem_of_getElem? (i := 238) rfl)⟩
set_option maxRecDepth 20000 in
theorem lw_p24 : lw_okq (⟨"NineMowers", "totalBy", "(III)I"⟩, 13) := ⟨nh_0, ni_0, tb_4 _ (List.mem_of_getElem? (i := 1) rfl), tb_4 _ (List.mem_of_getElem? (i := 2) rfl)⟩
set_option maxRecDepth 20000 in
theorem lw_p25 : lw_okq (⟨"NineMowers", "hits", "(I)I"⟩, 13) := ⟨nh_0, ni_0, tb_4 _ (List.mem_of_getElem? (i := 18) rfl), tb_4 _ (List.mem_of_getElem? (i := 19) rfl)⟩
set_option maxRecDepth 20000 in
theorem lw_p26 : lw_okq (⟨"NineMowers", "allSeenIsSo", "()Z"⟩, 13) := ⟨nh_0, ni_0, tb_4 _ (List.mem_of_getElem? (i := 50) rfl), tb_4 _ (List.mem_of_getElem? (i := 51) rfl)⟩
set_option maxRecDepth 20000 in
theorem lw_p27 : lw_okq (⟨"NineMowers", "seenIsSo", "(I)Z"⟩, 13) := ⟨nh_0, ni_0, tb_4 _ (List.mem_of_getElem? (i := 54) rfl), tb_4 _ (List.mem_of_getElem? (i := 55) rfl)⟩
set_option maxRecDepth 20000 in
theorem lw_p28 : lw_okq (⟨"NineMowersModel", "in", "(III)Z"⟩, 75) := ⟨nh_3, ni_3, tb_6 _ (List.mem_of_getElem? (i := 6) rfl), tb_6 _ (List.mem_of_getElem? (i := 7) rfl)⟩
set_option maxRecDepth 20000 in
theorem lw_p29 : lw_okq (⟨"NineMowersModel", "isMower", "(I)Z"⟩, 75) := ⟨nh_3, ni_3, tb_6 _ (List.mem_of_getElem? (i := 14) rfl), tb_6 _ (List.mem_of_getElem? (i := 15) rfl)⟩
set_option maxRecDepth 20000 in
theorem lw_p30 : lw_okq (⟨"NineMowersModel", "placeOf", "(I)I"⟩, 75) := ⟨nh_3, ni_3, tb_6 _ (List.mem_of_getElem? (i := 26) rfl), tb_6 _ (List.mem_of_getElem? (i := 27) rfl)⟩
set_option maxRecDepth 20000 in
theorem lw_p31 : lw_okq (⟨"NineMowersModel", "goesText", "(I)Z"⟩, 75) := ⟨nh_3, ni_3, tb_6 _ (List.mem_of_getElem? (i := 38) rfl), tb_6 _ (List.mem_of_getElem? (i := 39) rfl)⟩
noncomputable def lw_privs_2 : List (MethodName × Nat) := [(⟨"NineMowers$Course", "wears", "(IZ)V"⟩, 17), (⟨"NineMowers$Course", "passes", "(II)V"⟩, 17), (⟨"NineMowers", "heldTimes", "(II)I"⟩, 13), (⟨"NineMowers", "findsBestOrder", "(I)I"⟩, 13), (⟨"NineMowers", "totalInOrder", "(I)I"⟩, 13), (⟨"NineMowers", "triesNextOrder", "(I)Z"⟩, 13), (⟨"NineMowers", "swapsTried", "(II)V"⟩, 13), (⟨"NineMowers", "mostBy", "(IIIII)I"⟩, 13), (⟨"NineMowers", "totalBy", "(III)I"⟩, 13), (⟨"NineMowers", "hits", "(I)I"⟩, 13), (⟨"NineMowers", "allSeenIsSo", "()Z"⟩, 13), (⟨"NineMowers", "seenIsSo", "(I)Z"⟩, 13), (⟨"NineMowersModel", "in", "(III)Z"⟩, 75), (⟨"NineMowersModel", "isMower", "(I)Z"⟩, 75), (⟨"NineMowersModel", "placeOf", "(I)I"⟩, 75), (⟨"NineMowersModel", "goesText", "(I)Z"⟩, 75)]
theorem lw_r2 : ∀ q ∈ lw_privs_2, lw_okq q := List.forall_mem_cons.mpr ⟨lw_p16, List.forall_mem_cons.mpr ⟨lw_p17, List.forall_mem_cons.mpr ⟨lw_p18, List.forall_mem_cons.mpr ⟨lw_p19, List.forall_mem_cons.mpr ⟨lw_p20, List.forall_mem_cons.mpr ⟨lw_p21, List.forall_mem_cons.mpr ⟨lw_p22, List.forall_mem_cons.mpr ⟨lw_p23, List.forall_mem_cons.mpr ⟨lw_p24, List.forall_mem_cons.mpr ⟨lw_p25, List.forall_mem_cons.mpr ⟨lw_p26, List.forall_mem_cons.mpr ⟨lw_p27, List.forall_mem_cons.mpr ⟨lw_p28, List.forall_mem_cons.mpr ⟨lw_p29, List.forall_mem_cons.mpr ⟨lw_p30, List.forall_mem_cons.mpr ⟨lw_p31, fun _ h => absurd h List.not_mem_nil⟩⟩⟩⟩⟩⟩⟩⟩⟩⟩⟩⟩⟩⟩⟩⟩
set_option maxRecDepth 20000 in
theorem lw_p32 : lw_okq (⟨"NineMowersModel", "takesClause", "(I)Z"⟩, 75) := ⟨nh_3, ni_3, tb_6 _ (List.mem_of_getElem? (i := 42) rfl), tb_6 _ (List.mem_of_getElem? (i := 43) rfl)⟩
set_option maxRecDepth 20000 in
theorem lw_p33 : lw_okq (⟨"NineMowersModel", "takesHead", "(I)Z"⟩, 75) := ⟨nh_3, ni_3, tb_6 _ (List.mem_of_getElem? (i := 46) rfl), tb_6 _ (List.mem_of_getElem? (i := 47) rfl)⟩
set_option maxRecDepth 20000 in
theorem lw_p34 : lw_okq (⟨"NineMowersModel", "next", "()I"⟩, 75) := ⟨nh_3, ni_3, tb_6 _ (List.mem_of_getElem? (i := 50) rfl), tb_6 _ (List.mem_of_getElem? (i := 51) rfl)⟩
set_option maxRecDepth 20000 in
theorem lw_p35 : lw_okq (⟨"NineMowersModel", "takesWord", "(II)Z"⟩, 75) := ⟨nh_3, ni_3, tb_6 _ (List.mem_of_getElem? (i := 54) rfl), tb_6 _ (List.mem_of_getElem? (i := 55) rfl)⟩
set_option maxRecDepth 20000 in
theorem lw_p36 : lw_okq (⟨"NineMowersModel", "takes", "(I)Z"⟩, 75) := ⟨nh_3, ni_3, tb_6 _ (List.mem_of_getElem? (i := 58) rfl), tb_6 _ (List.mem_of_getElem? (i := 59) rfl)⟩
set_option maxRecDepth 20000 in
theorem lw_p37 : lw_okq (⟨"NineMowersModel", "takesNumber", "()Z"⟩, 75) := ⟨nh_3, ni_3, tb_6 _ (List.mem_of_getElem? (i := 62) rfl), tb_6 _ (List.mem_of_getElem? (i := 63) rfl)⟩
set_option maxRecDepth 20000 in
theorem lw_p38 : lw_okq (⟨"NineMowersModel", "isDigit", "()Z"⟩, 75) := ⟨nh_3, ni_3, tb_6 _ (List.mem_of_getElem? (i := 66) rfl), tb_6 _ (List.mem_of_getElem? (i := 67) rfl)⟩
set_option maxRecDepth 20000 in
theorem lw_p39 : lw_okq (⟨"NineMowersModel", "takesE", "(I)Z"⟩, 75) := ⟨nh_3, ni_3, tb_6 _ (List.mem_of_getElem? (i := 70) rfl), tb_6 _ (List.mem_of_getElem? (i := 71) rfl)⟩
set_option maxRecDepth 20000 in
theorem lw_p40 : lw_okq (⟨"NineMowersModel", "takesTest", "()Z"⟩, 75) := ⟨nh_3, ni_3, tb_6 _ (List.mem_of_getElem? (i := 74) rfl), tb_6 _ (List.mem_of_getElem? (i := 75) rfl)⟩
set_option maxRecDepth 20000 in
theorem lw_p41 : lw_okq (⟨"NineMowersModel", "letterAt", "(I)I"⟩, 75) := ⟨nh_3, ni_3, tb_6 _ (List.mem_of_getElem? (i := 78) rfl), tb_6 _ (List.mem_of_getElem? (i := 79) rfl)⟩
set_option maxRecDepth 20000 in
theorem lw_p42 : lw_okq (⟨"NineMowersModel", "emits", "(I)V"⟩, 75) := ⟨nh_3, ni_3, tb_6 _ (List.mem_of_getElem? (i := 82) rfl), tb_6 _ (List.mem_of_getElem? (i := 83) rfl)⟩
set_option maxRecDepth 20000 in
theorem lw_p43 : lw_okq (⟨"NineMowersModel", "whole", "()V"⟩, 75) := ⟨nh_3, ni_3, tb_6 _ (List.mem_of_getElem? (i := 86) rfl), tb_6 _ (List.mem_of_getElem? (i := 87) rfl)⟩
set_option maxRecDepth 20000 in
theorem lw_p44 : lw_okq (⟨"NineMowersModel", "settle", "(I)V"⟩, 75) := ⟨nh_3, ni_3, tb_6 _ (List.mem_of_getElem? (i := 90) rfl), tb_6 _ (List.mem_of_getElem? (i := 91) rfl)⟩
set_option maxRecDepth 20000 in
theorem lw_p45 : lw_okq (⟨"NineMowersModel", "paceAt", "(I)I"⟩, 75) := ⟨nh_3, ni_3, tb_6 _ (List.mem_of_getElem? (i := 98) rfl), tb_6 _ (List.mem_of_getElem? (i := 99) rfl)⟩
set_option maxRecDepth 20000 in
theorem lw_p46 : lw_okq (⟨"NineMowersModel", "begin", "()I"⟩, 75) := ⟨nh_3, ni_3, tb_6 _ (List.mem_of_getElem? (i := 102) rfl), tb_6 _ (List.mem_of_getElem? (i := 103) rfl)⟩
set_option maxRecDepth 20000 in
theorem lw_p47 : lw_okq (⟨"NineMowersModel", "behind", "()I"⟩, 75) := ⟨nh_3, ni_3, tb_6 _ (List.mem_of_getElem? (i := 106) rfl), tb_6 _ (List.mem_of_getElem? (i := 107) rfl)⟩
noncomputable def lw_privs_3 : List (MethodName × Nat) := [(⟨"NineMowersModel", "takesClause", "(I)Z"⟩, 75), (⟨"NineMowersModel", "takesHead", "(I)Z"⟩, 75), (⟨"NineMowersModel", "next", "()I"⟩, 75), (⟨"NineMowersModel", "takesWord", "(II)Z"⟩, 75), (⟨"NineMowersModel", "takes", "(I)Z"⟩, 75), (⟨"NineMowersModel", "takesNumber", "()Z"⟩, 75), (⟨"NineMowersModel", "isDigit", "()Z"⟩, 75), (⟨"NineMowersModel", "takesE", "(I)Z"⟩, 75), (⟨"NineMowersModel", "takesTest", "()Z"⟩, 75), (⟨"NineMowersModel", "letterAt", "(I)I"⟩, 75), (⟨"NineMowersModel", "emits", "(I)V"⟩, 75), (⟨"NineMowersModel", "whole", "()V"⟩, 75), (⟨"NineMowersModel", "settle", "(I)V"⟩, 75), (⟨"NineMowersModel", "paceAt", "(I)I"⟩, 75), (⟨"NineMowersModel", "begin", "()I"⟩, 75), (⟨"NineMowersModel", "behind", "()I"⟩, 75)]
theorem lw_r3 : ∀ q ∈ lw_privs_3, lw_okq q := List.forall_mem_cons.mpr ⟨lw_p32, List.forall_mem_cons.mpr ⟨lw_p33, List.forall_mem_cons.mpr ⟨lw_p34, List.forall_mem_cons.mpr ⟨lw_p35, List.forall_mem_cons.mpr ⟨lw_p36, List.forall_mem_cons.mpr ⟨lw_p37, List.forall_mem_cons.mpr ⟨lw_p38, List.forall_mem_cons.mpr ⟨lw_p39, List.forall_mem_cons.mpr ⟨lw_p40, List.forall_mem_cons.mpr ⟨lw_p41, List.forall_mem_cons.mpr ⟨lw_p42, List.forall_mem_cons.mpr ⟨lw_p43, List.forall_mem_cons.mpr ⟨lw_p44, List.forall_mem_cons.mpr ⟨lw_p45, List.forall_mem_cons.mpr ⟨lw_p46, List.forall_mem_cons.mpr ⟨lw_p47, fun _ h => absurd h List.not_mem_nil⟩⟩⟩⟩⟩⟩⟩⟩⟩⟩⟩⟩⟩⟩⟩⟩
set_option maxRecDepth 20000 in
theorem lw_p48 : lw_okq (⟨"NineMowersModel", "holds", "(II)Z"⟩, 75) := ⟨nh_3, ni_3, tb_6 _ (List.mem_of_getElem? (i := 110) rfl), tb_6 _ (List.mem_of_getElem? (i := 111) rfl)⟩
set_option maxRecDepth 20000 in
theorem lw_p49 : lw_okq (⟨"NineMowersModel", "factOf", "(II)I"⟩, 75) := ⟨nh_3, ni_3, tb_6 _ (List.mem_of_getElem? (i := 114) rfl), tb_6 _ (List.mem_of_getElem? (i := 115) rfl)⟩
set_option maxRecDepth 20000 in
theorem lw_p50 : lw_okq (⟨"NineMowersModel", "most", "(II)I"⟩, 75) := ⟨nh_3, ni_3, tb_6 _ (List.mem_of_getElem? (i := 118) rfl), tb_6 _ (List.mem_of_getElem? (i := 119) rfl)⟩
set_option maxRecDepth 20000 in
theorem lw_p51 : lw_okq (⟨"NineMowersModel", "strideAt", "(I)I"⟩, 75) := ⟨nh_3, ni_3, tb_6 _ (List.mem_of_getElem? (i := 122) rfl), tb_6 _ (List.mem_of_getElem? (i := 123) rfl)⟩
set_option maxRecDepth 20000 in
theorem lw_p52 : lw_okq (⟨"NineMowersModel", "strideOf", "(III)I"⟩, 75) := ⟨nh_3, ni_3, tb_6 _ (List.mem_of_getElem? (i := 126) rfl), tb_6 _ (List.mem_of_getElem? (i := 127) rfl)⟩
set_option maxRecDepth 20000 in
theorem lw_p53 : lw_okq (⟨"NineMowersModel", "hasty", "(II)I"⟩, 75) := ⟨nh_3, ni_3, tb_6 _ (List.mem_of_getElem? (i := 130) rfl), tb_6 _ (List.mem_of_getElem? (i := 131) rfl)⟩
set_option maxRecDepth 20000 in
theorem lw_p54 : lw_okq (⟨"NineMowersModel", "isPressed", "(I)Z"⟩, 75) := ⟨nh_3, ni_3, tb_6 _ (List.mem_of_getElem? (i := 134) rfl), tb_6 _ (List.mem_of_getElem? (i := 135) rfl)⟩
set_option maxRecDepth 20000 in
theorem lw_p55 : lw_okq (⟨"NineMowersModel", "gap", "()I"⟩, 75) := ⟨nh_3, ni_3, tb_6 _ (List.mem_of_getElem? (i := 138) rfl), tb_6 _ (List.mem_of_getElem? (i := 139) rfl)⟩
set_option maxRecDepth 20000 in
theorem lw_p56 : lw_okq (⟨"NineMowersModel", "lastOf", "(II)I"⟩, 75) := ⟨nh_3, ni_3, tb_6 _ (List.mem_of_getElem? (i := 142) rfl), tb_6 _ (List.mem_of_getElem? (i := 143) rfl)⟩
set_option maxRecDepth 20000 in
theorem lw_p57 : lw_okq (⟨"NineMowersModel", "fieldLong", "()I"⟩, 75) := ⟨nh_3, ni_3, tb_6 _ (List.mem_of_getElem? (i := 150) rfl), tb_6 _ (List.mem_of_getElem? (i := 151) rfl)⟩
set_option maxRecDepth 20000 in
theorem lw_p58 : lw_okq (⟨"NineMowersModel", "goMinute", "()I"⟩, 75) := ⟨nh_3, ni_3, tb_6 _ (List.mem_of_getElem? (i := 158) rfl), tb_6 _ (List.mem_of_getElem? (i := 159) rfl)⟩
set_option maxRecDepth 20000 in
theorem lw_p59 : lw_okq (⟨"NineMowersModel", "goes", "(I)Z"⟩, 75) := ⟨nh_3, ni_3, tb_6 _ (List.mem_of_getElem? (i := 162) rfl), tb_6 _ (List.mem_of_getElem? (i := 163) rfl)⟩
set_option maxRecDepth 20000 in
theorem lw_p60 : lw_okq (⟨"NineMowersModel", "least", "(II)I"⟩, 75) := ⟨nh_3, ni_3, tb_6 _ (List.mem_of_getElem? (i := 166) rfl), tb_6 _ (List.mem_of_getElem? (i := 167) rfl)⟩
set_option maxRecDepth 20000 in
theorem lw_p61 : lw_okq (⟨"NineMowersModel", "goWhet", "()V"⟩, 75) := ⟨nh_3, ni_3, tb_6 _ (List.mem_of_getElem? (i := 174) rfl), tb_6 _ (List.mem_of_getElem? (i := 175) rfl)⟩
set_option maxRecDepth 20000 in
theorem lw_p62 : lw_okq (⟨"NineMowersModel", "goPause", "(I)V"⟩, 75) := ⟨nh_3, ni_3, tb_6 _ (List.mem_of_getElem? (i := 182) rfl), tb_6 _ (List.mem_of_getElem? (i := 183) rfl)⟩
set_option maxRecDepth 20000 in
theorem lw_p63 : lw_okq (⟨"NineMowersModel", "save", "()V"⟩, 75) := ⟨nh_3, ni_3, tb_6 _ (List.mem_of_getElem? (i := 190) rfl), tb_6 _ (List.mem_of_getElem? (i := 191) rfl)⟩
noncomputable def lw_privs_4 : List (MethodName × Nat) := [(⟨"NineMowersModel", "holds", "(II)Z"⟩, 75), (⟨"NineMowersModel", "factOf", "(II)I"⟩, 75), (⟨"NineMowersModel", "most", "(II)I"⟩, 75), (⟨"NineMowersModel", "strideAt", "(I)I"⟩, 75), (⟨"NineMowersModel", "strideOf", "(III)I"⟩, 75), (⟨"NineMowersModel", "hasty", "(II)I"⟩, 75), (⟨"NineMowersModel", "isPressed", "(I)Z"⟩, 75), (⟨"NineMowersModel", "gap", "()I"⟩, 75), (⟨"NineMowersModel", "lastOf", "(II)I"⟩, 75), (⟨"NineMowersModel", "fieldLong", "()I"⟩, 75), (⟨"NineMowersModel", "goMinute", "()I"⟩, 75), (⟨"NineMowersModel", "goes", "(I)Z"⟩, 75), (⟨"NineMowersModel", "least", "(II)I"⟩, 75), (⟨"NineMowersModel", "goWhet", "()V"⟩, 75), (⟨"NineMowersModel", "goPause", "(I)V"⟩, 75), (⟨"NineMowersModel", "save", "()V"⟩, 75)]
theorem lw_r4 : ∀ q ∈ lw_privs_4, lw_okq q := List.forall_mem_cons.mpr ⟨lw_p48, List.forall_mem_cons.mpr ⟨lw_p49, List.forall_mem_cons.mpr ⟨lw_p50, List.forall_mem_cons.mpr ⟨lw_p51, List.forall_mem_cons.mpr ⟨lw_p52, List.forall_mem_cons.mpr ⟨lw_p53, List.forall_mem_cons.mpr ⟨lw_p54, List.forall_mem_cons.mpr ⟨lw_p55, List.forall_mem_cons.mpr ⟨lw_p56, List.forall_mem_cons.mpr ⟨lw_p57, List.forall_mem_cons.mpr ⟨lw_p58, List.forall_mem_cons.mpr ⟨lw_p59, List.forall_mem_cons.mpr ⟨lw_p60, List.forall_mem_cons.mpr ⟨lw_p61, List.forall_mem_cons.mpr ⟨lw_p62, List.forall_mem_cons.mpr ⟨lw_p63, fun _ h => absurd h List.not_mem_nil⟩⟩⟩⟩⟩⟩⟩⟩⟩⟩⟩⟩⟩⟩⟩⟩
set_option maxRecDepth 20000 in
theorem lw_p64 : lw_okq (⟨"NineMowersModel", "goMinutes", "(I)V"⟩, 75) := ⟨nh_3, ni_3, tb_6 _ (List.mem_of_getElem? (i := 194) rfl), tb_6 _ (List.mem_of_getElem? (i := 195) rfl)⟩
set_option maxRecDepth 20000 in
theorem lw_p65 : lw_okq (⟨"NineMowersModel", "all", "()I"⟩, 75) := ⟨nh_3, ni_3, tb_6 _ (List.mem_of_getElem? (i := 198) rfl), tb_6 _ (List.mem_of_getElem? (i := 199) rfl)⟩
set_option maxRecDepth 20000 in
theorem lw_p66 : lw_okq (⟨"NineMowersModel", "putBack", "()V"⟩, 75) := ⟨nh_3, ni_3, tb_6 _ (List.mem_of_getElem? (i := 202) rfl), tb_6 _ (List.mem_of_getElem? (i := 203) rfl)⟩
set_option maxRecDepth 20000 in
theorem lw_p67 : lw_okq (⟨"NineMowersModel", "isDone", "()Z"⟩, 75) := ⟨nh_3, ni_3, tb_6 _ (List.mem_of_getElem? (i := 210) rfl), tb_6 _ (List.mem_of_getElem? (i := 211) rfl)⟩
set_option maxRecDepth 20000 in
theorem lw_p68 : lw_okq (⟨"NineMowersModel", "layOrder", "(I)Z"⟩, 75) := ⟨nh_3, ni_3, tb_6 _ (List.mem_of_getElem? (i := 218) rfl), tb_6 _ (List.mem_of_getElem? (i := 219) rfl)⟩
set_option maxRecDepth 20000 in
theorem lw_p69 : lw_okq (⟨"NineMowersModel", "has", "(II)Z"⟩, 75) := ⟨nh_3, ni_3, tb_6 _ (List.mem_of_getElem? (i := 222) rfl), tb_6 _ (List.mem_of_getElem? (i := 223) rfl)⟩
set_option maxRecDepth 20000 in
theorem lw_p70 : lw_okq (⟨"NineMowersModel", "fromTheStart", "(I)I"⟩, 75) := ⟨nh_3, ni_3, tb_6 _ (List.mem_of_getElem? (i := 226) rfl), tb_6 _ (List.mem_of_getElem? (i := 227) rfl)⟩
set_option maxRecDepth 20000 in
theorem lw_p71 : lw_okq (⟨"NineMowersModel", "whetted", "(II)I"⟩, 75) := ⟨nh_3, ni_3, tb_6 _ (List.mem_of_getElem? (i := 234) rfl), tb_6 _ (List.mem_of_getElem? (i := 235) rfl)⟩
set_option maxRecDepth 20000 in
theorem lw_p72 : lw_okq (⟨"NineMowersModel", "allBehind", "(I)I"⟩, 75) := ⟨nh_3, ni_3, tb_7 _ (List.mem_of_getElem? (i := 2) rfl), tb_7 _ (List.mem_of_getElem? (i := 3) rfl)⟩
set_option maxRecDepth 20000 in
theorem lw_p73 : lw_okq (⟨"NineMowersModel", "aloneBehind", "(II)I"⟩, 75) := ⟨nh_3, ni_3, tb_7 _ (List.mem_of_getElem? (i := 16) rfl), tb_7 _ (List.mem_of_getElem? (i := 17) rfl)⟩
set_option maxRecDepth 20000 in
theorem lw_p74 : lw_okq (⟨"NineMowersModel", "allStopped", "(III)I"⟩, 75) := ⟨nh_3, ni_3, tb_7 _ (List.mem_of_getElem? (i := 24) rfl), tb_7 _ (List.mem_of_getElem? (i := 25) rfl)⟩
set_option maxRecDepth 20000 in
theorem lw_p75 : lw_okq (⟨"NineMowersModel", "isSeen", "(II)Z"⟩, 75) := ⟨nh_3, ni_3, tb_7 _ (List.mem_of_getElem? (i := 40) rfl), tb_7 _ (List.mem_of_getElem? (i := 41) rfl)⟩
set_option maxRecDepth 20000 in
theorem lw_p76 : lw_okq (⟨"NineMowersModel", "lowest", "(III)J"⟩, 75) := ⟨nh_3, ni_3, tb_7 _ (List.mem_of_getElem? (i := 49) rfl), tb_7 _ (List.mem_of_getElem? (i := 50) rfl)⟩
set_option maxRecDepth 20000 in
theorem lw_p77 : lw_okq (⟨"NineMowersModel", "divisor", "(II)I"⟩, 75) := ⟨nh_3, ni_3, tb_7 _ (List.mem_of_getElem? (i := 53) rfl), tb_7 _ (List.mem_of_getElem? (i := 54) rfl)⟩
set_option maxRecDepth 20000 in
theorem lw_p78 : lw_okq (⟨"NineMowersModel", "isTape", "(I)Z"⟩, 75) := ⟨nh_3, ni_3, tb_7 _ (List.mem_of_getElem? (i := 81) rfl), tb_7 _ (List.mem_of_getElem? (i := 82) rfl)⟩
set_option maxRecDepth 20000 in
theorem lw_p79 : lw_okq (⟨"NineMowersModel", "mowsAct", "(II)I"⟩, 75) := ⟨nh_3, ni_3, tb_7 _ (List.mem_of_getElem? (i := 97) rfl), tb_7 _ (List.mem_of_getElem? (i := 98) rfl)⟩
noncomputable def lw_privs_5 : List (MethodName × Nat) := [(⟨"NineMowersModel", "goMinutes", "(I)V"⟩, 75), (⟨"NineMowersModel", "all", "()I"⟩, 75), (⟨"NineMowersModel", "putBack", "()V"⟩, 75), (⟨"NineMowersModel", "isDone", "()Z"⟩, 75), (⟨"NineMowersModel", "layOrder", "(I)Z"⟩, 75), (⟨"NineMowersModel", "has", "(II)Z"⟩, 75), (⟨"NineMowersModel", "fromTheStart", "(I)I"⟩, 75), (⟨"NineMowersModel", "whetted", "(II)I"⟩, 75), (⟨"NineMowersModel", "allBehind", "(I)I"⟩, 75), (⟨"NineMowersModel", "aloneBehind", "(II)I"⟩, 75), (⟨"NineMowersModel", "allStopped", "(III)I"⟩, 75), (⟨"NineMowersModel", "isSeen", "(II)Z"⟩, 75), (⟨"NineMowersModel", "lowest", "(III)J"⟩, 75), (⟨"NineMowersModel", "divisor", "(II)I"⟩, 75), (⟨"NineMowersModel", "isTape", "(I)Z"⟩, 75), (⟨"NineMowersModel", "mowsAct", "(II)I"⟩, 75)]
theorem lw_r5 : ∀ q ∈ lw_privs_5, lw_okq q := List.forall_mem_cons.mpr ⟨lw_p64, List.forall_mem_cons.mpr ⟨lw_p65, List.forall_mem_cons.mpr ⟨lw_p66, List.forall_mem_cons.mpr ⟨lw_p67, List.forall_mem_cons.mpr ⟨lw_p68, List.forall_mem_cons.mpr ⟨lw_p69, List.forall_mem_cons.mpr ⟨lw_p70, List.forall_mem_cons.mpr ⟨lw_p71, List.forall_mem_cons.mpr ⟨lw_p72, List.forall_mem_cons.mpr ⟨lw_p73, List.forall_mem_cons.mpr ⟨lw_p74, List.forall_mem_cons.mpr ⟨lw_p75, List.forall_mem_cons.mpr ⟨lw_p76, List.forall_mem_cons.mpr ⟨lw_p77, List.forall_mem_cons.mpr ⟨lw_p78, List.forall_mem_cons.mpr ⟨lw_p79, fun _ h => absurd h List.not_mem_nil⟩⟩⟩⟩⟩⟩⟩⟩⟩⟩⟩⟩⟩⟩⟩⟩
set_option maxRecDepth 20000 in
theorem lw_p80 : lw_okq (⟨"NineMowersModel", "body", "(I)V"⟩, 75) := ⟨nh_3, ni_3, tb_7 _ (List.mem_of_getElem? (i := 101) rfl), tb_7 _ (List.mem_of_getElem? (i := 102) rfl)⟩
set_option maxRecDepth 20000 in
theorem lw_p81 : lw_okq (⟨"NineMowersModel", "mowerMows", "(II)I"⟩, 75) := ⟨nh_3, ni_3, tb_7 _ (List.mem_of_getElem? (i := 105) rfl), tb_7 _ (List.mem_of_getElem? (i := 106) rfl)⟩
set_option maxRecDepth 20000 in
theorem lw_p82 : lw_okq (⟨"NineMowersModel", "whetsAct", "(II)I"⟩, 75) := ⟨nh_3, ni_3, tb_7 _ (List.mem_of_getElem? (i := 109) rfl), tb_7 _ (List.mem_of_getElem? (i := 110) rfl)⟩
set_option maxRecDepth 20000 in
theorem lw_p83 : lw_okq (⟨"NineMowersModel", "steadyWhets", "(II)I"⟩, 75) := ⟨nh_3, ni_3, tb_7 _ (List.mem_of_getElem? (i := 113) rfl), tb_7 _ (List.mem_of_getElem? (i := 114) rfl)⟩
set_option maxRecDepth 20000 in
theorem lw_p84 : lw_okq (⟨"NineMowersModel", "mowerWhets", "(II)I"⟩, 75) := ⟨nh_3, ni_3, tb_7 _ (List.mem_of_getElem? (i := 117) rfl), tb_7 _ (List.mem_of_getElem? (i := 118) rfl)⟩
set_option maxRecDepth 20000 in
theorem lw_p85 : lw_okq (⟨"NineMowersModel", "tellsAct", "(II)I"⟩, 75) := ⟨nh_3, ni_3, tb_7 _ (List.mem_of_getElem? (i := 121) rfl), tb_7 _ (List.mem_of_getElem? (i := 122) rfl)⟩
set_option maxRecDepth 20000 in
theorem lw_p86 : lw_okq (⟨"NineMowersModel", "mowerTells", "(II)I"⟩, 75) := ⟨nh_3, ni_3, tb_7 _ (List.mem_of_getElem? (i := 125) rfl), tb_7 _ (List.mem_of_getElem? (i := 126) rfl)⟩
set_option maxRecDepth 20000 in
theorem lw_p87 : lw_okq (⟨"NineMowersModel", "narrow", "(IJ)J"⟩, 75) := ⟨nh_3, ni_3, tb_7 _ (List.mem_of_getElem? (i := 149) rfl), tb_7 _ (List.mem_of_getElem? (i := 150) rfl)⟩
noncomputable def lw_privs_6 : List (MethodName × Nat) := [(⟨"NineMowersModel", "body", "(I)V"⟩, 75), (⟨"NineMowersModel", "mowerMows", "(II)I"⟩, 75), (⟨"NineMowersModel", "whetsAct", "(II)I"⟩, 75), (⟨"NineMowersModel", "steadyWhets", "(II)I"⟩, 75), (⟨"NineMowersModel", "mowerWhets", "(II)I"⟩, 75), (⟨"NineMowersModel", "tellsAct", "(II)I"⟩, 75), (⟨"NineMowersModel", "mowerTells", "(II)I"⟩, 75), (⟨"NineMowersModel", "narrow", "(IJ)J"⟩, 75)]
theorem lw_r6 : ∀ q ∈ lw_privs_6, lw_okq q := List.forall_mem_cons.mpr ⟨lw_p80, List.forall_mem_cons.mpr ⟨lw_p81, List.forall_mem_cons.mpr ⟨lw_p82, List.forall_mem_cons.mpr ⟨lw_p83, List.forall_mem_cons.mpr ⟨lw_p84, List.forall_mem_cons.mpr ⟨lw_p85, List.forall_mem_cons.mpr ⟨lw_p86, List.forall_mem_cons.mpr ⟨lw_p87, fun _ h => absurd h List.not_mem_nil⟩⟩⟩⟩⟩⟩⟩⟩
noncomputable def lw_privs : List (MethodName × Nat) := lw_privs_1 ++ (lw_privs_2 ++ (lw_privs_3 ++ (lw_privs_4 ++ (lw_privs_5 ++ (lw_privs_6)))))
noncomputable def lw_tbl : List Cond := k2_sels lw_privs ++ tables_1
theorem lw_privs_ok : ∀ q ∈ lw_privs, lw_okq q := by
  show ∀ q ∈ lw_privs_1 ++ (lw_privs_2 ++ (lw_privs_3 ++ (lw_privs_4 ++ (lw_privs_5 ++ (lw_privs_6))))), lw_okq q
  exact List.forall_mem_append.mpr ⟨lw_r1, List.forall_mem_append.mpr ⟨lw_r2, List.forall_mem_append.mpr ⟨lw_r3, List.forall_mem_append.mpr ⟨lw_r4, List.forall_mem_append.mpr ⟨lw_r5, lw_r6⟩⟩⟩⟩⟩
/-! ===== BEGIN words of one list among another's, by their places ===== -/
theorem goodIn_r {big : List Cond} (ws : List Cond) (ps : List Nat) (hp : ws = ps.filterMap (fun i => big[i]?)) (h : ws.all goodWord = true) : GoodIn big ws := by
  intro w hw
  have h1 := List.all_eq_true.mp h w hw
  rw [hp] at hw
  obtain ⟨i, -, hi⟩ := List.mem_filterMap.mp hw
  have hm : w ∈ big := by first | exact List.mem_of_getElem? hi | exact List.getElem?_mem hi
  exact ⟨hm, good_of_word h1⟩
theorem goodIn_app {big a b : List Cond} (ha : GoodIn big a) (hb : GoodIn big b) : GoodIn big (a ++ b) := fun w h => (List.mem_append.mp h).elim (ha w) (hb w)
theorem goodIn_ca {big a b : List Cond} {c : Cond} (ha : GoodIn big (c :: a)) (hb : GoodIn big b) : GoodIn big (c :: (a ++ b)) := fun w h => (List.mem_cons.mp h).elim (fun e => ha w (List.mem_cons.mpr (Or.inl e))) (fun h => (List.mem_append.mp h).elim (fun h => ha w (List.mem_cons.mpr (Or.inr h))) (hb w))
theorem goodIn_sub {big ws : List Cond} (hm : ∀ w ∈ ws, w ∈ big) (h : ws.all goodWord = true) : GoodIn big ws := fun w hw => ⟨hm w hw, good_of_word (List.all_eq_true.mp h w hw)⟩
/-! ===== END ===== -/

/-! ===== BEGIN printed: names, fields, word lists, decode rows ===== -/
noncomputable def RX0 : String := "NineMowers$Boy"
noncomputable def TX0 : u_T := fun k => match k with
  | 0 => ("NineMowers$Mower", "kind", "I", true)
  | 1 => ("NineMowers$Mower", "number", "I", true)
  | _ => ("NineMowers$Mower", "v", "I", true)
noncomputable def tyX0 : Nat → FieldType := fun k => match k with
  | 0 => .int
  | 1 => .int
  | _ => .int
noncomputable abbrev wsX00 : List Cond := u_ws RX0 TX0 3
theorem nmX0 : ∀ a, a < 3 → ∀ b, b < 3 → a ≠ b → (TX0 a).2.1 ≠ (TX0 b).2.1 := by decide +kernel
theorem tyX0_ok : ∀ k, k < 3 → parseFieldDescriptor (TX0 k).2.2.1 = some (tyX0 k) := by decide +kernel
noncomputable abbrev cX0_init : ByteArray := prog_2_method_1_code
noncomputable def yX0_init : MethodName := ⟨RX0, "<init>", "(III)V"⟩
noncomputable abbrev cX0_strides : ByteArray := prog_2_method_2_code
noncomputable def yX0_strides : MethodName := ⟨RX0, "strides", "(ILNineMowers$Course;I)I"⟩
noncomputable abbrev cX0_telling : ByteArray := prog_2_method_3_code
noncomputable def yX0_telling : MethodName := ⟨RX0, "telling", "(ILNineMowers$Numbers;)I"⟩
noncomputable def RX1 : String := "NineMowers$Course"
noncomputable def TX1 : u_T := fun k => match k with
  | 0 => ("NineMowers$Course", "mowers", "[LNineMowers$Mower;", true)
  | 1 => ("NineMowers$Course", "count", "I", false)
  | 2 => ("NineMowers$Course", "line", "[I", true)
  | 3 => ("NineMowers$Course", "inLine", "I", false)
  | 4 => ("NineMowers$Course", "at", "[I", true)
  | 5 => ("NineMowers$Course", "edge", "[I", true)
  | 6 => ("NineMowers$Course", "tired", "[I", true)
  | 7 => ("NineMowers$Course", "stopped", "[I", true)
  | 8 => ("NineMowers$Course", "told", "[I", true)
  | 9 => ("NineMowers$Course", "minute", "I", false)
  | 10 => ("NineMowers$Course", "field", "LNineMowers$Field;", false)
  | 11 => ("NineMowers$Course", "otherGap", "I", false)
  | 12 => ("NineMowers$Course", "seen", "LNineMowers$Numbers;", true)
  | 13 => ("NineMowers$Course", "plan", "LNineMowers$Numbers;", true)
  | 14 => ("NineMowers$Course", "book", "LNineMowers$Numbers;", true)
  | 15 => ("NineMowers$Course", "strides", "[I", true)
  | _ => ("NineMowers$Course", "letters", "[I", true)
noncomputable def tyX1 : Nat → FieldType := fun k => match k with
  | 0 => .array (.object "NineMowers$Mower")
  | 1 => .int
  | 2 => .array .int
  | 3 => .int
  | 4 => .array .int
  | 5 => .array .int
  | 6 => .array .int
  | 7 => .array .int
  | 8 => .array .int
  | 9 => .int
  | 10 => .object "NineMowers$Field"
  | 11 => .int
  | 12 => .object "NineMowers$Numbers"
  | 13 => .object "NineMowers$Numbers"
  | 14 => .object "NineMowers$Numbers"
  | 15 => .array .int
  | _ => .array .int
noncomputable abbrev wsX10 : List Cond := u_ws RX1 TX1 17
theorem nmX1 : ∀ a, a < 17 → ∀ b, b < 17 → a ≠ b → (TX1 a).2.1 ≠ (TX1 b).2.1 := by decide +kernel
theorem tyX1_ok : ∀ k, k < 17 → parseFieldDescriptor (TX1 k).2.2.1 = some (tyX1 k) := by decide +kernel
noncomputable abbrev cX1_init : ByteArray := prog_3_method_1_code
noncomputable def yX1_init : MethodName := ⟨RX1, "<init>", "()V"⟩
noncomputable abbrev cX1_becomes : ByteArray := prog_3_method_2_code
noncomputable def yX1_becomes : MethodName := ⟨RX1, "becomes", "(LNineMowers$Course;)V"⟩
noncomputable abbrev cX1_becomesTold : ByteArray := prog_3_method_3_code
noncomputable def yX1_becomesTold : MethodName := ⟨RX1, "becomesTold", "(LNineMowers$Course;)V"⟩
noncomputable abbrev cX1_comes : ByteArray := prog_3_method_4_code
noncomputable def yX1_comes : MethodName := ⟨RX1, "comes", "(LNineMowers$Mower;)I"⟩
noncomputable abbrev cX1_moves : ByteArray := prog_3_method_5_code
noncomputable def yX1_moves : MethodName := ⟨RX1, "moves", "(II)I"⟩
noncomputable abbrev cX1_placeOf : ByteArray := prog_3_method_6_code
noncomputable def yX1_placeOf : MethodName := ⟨RX1, "placeOf", "(I)I"⟩
noncomputable abbrev cX1_numbersOf : ByteArray := prog_3_method_7_code
noncomputable def yX1_numbersOf : MethodName := ⟨RX1, "numbersOf", "(I)[I"⟩
noncomputable abbrev cX1_gap : ByteArray := prog_3_method_8_code
noncomputable def yX1_gap : MethodName := ⟨RX1, "gap", "()I"⟩
noncomputable abbrev cX1_paceAt : ByteArray := prog_3_method_9_code
noncomputable def yX1_paceAt : MethodName := ⟨RX1, "paceAt", "(I)I"⟩
noncomputable abbrev cX1_strideAt : ByteArray := prog_3_method_10_code
noncomputable def yX1_strideAt : MethodName := ⟨RX1, "strideAt", "(I)I"⟩
noncomputable abbrev cX1_isPressedAt : ByteArray := prog_3_method_11_code
noncomputable def yX1_isPressedAt : MethodName := ⟨RX1, "isPressedAt", "(I)Z"⟩
noncomputable abbrev cX1_goes : ByteArray := prog_3_method_12_code
noncomputable def yX1_goes : MethodName := ⟨RX1, "goes", "(I)V"⟩
noncomputable abbrev cX1_goesMinute : ByteArray := prog_3_method_13_code
noncomputable def yX1_goesMinute : MethodName := ⟨RX1, "goesMinute", "()I"⟩
noncomputable abbrev cX1_roomAt : ByteArray := prog_3_method_14_code
noncomputable def yX1_roomAt : MethodName := ⟨RX1, "roomAt", "(I)I"⟩
noncomputable abbrev cX1_wears : ByteArray := prog_3_method_15_code
noncomputable def yX1_wears : MethodName := ⟨RX1, "wears", "(IZ)V"⟩
noncomputable abbrev cX1_whetsAll : ByteArray := prog_3_method_16_code
noncomputable def yX1_whetsAll : MethodName := ⟨RX1, "whetsAll", "()V"⟩
noncomputable abbrev cX1_rests : ByteArray := prog_3_method_17_code
noncomputable def yX1_rests : MethodName := ⟨RX1, "rests", "(I)V"⟩
noncomputable abbrev cX1_passes : ByteArray := prog_3_method_18_code
noncomputable def yX1_passes : MethodName := ⟨RX1, "passes", "(II)V"⟩
noncomputable abbrev cX1_allAt : ByteArray := prog_3_method_19_code
noncomputable def yX1_allAt : MethodName := ⟨RX1, "allAt", "()I"⟩
noncomputable abbrev cX1_isDone : ByteArray := prog_3_method_20_code
noncomputable def yX1_isDone : MethodName := ⟨RX1, "isDone", "()Z"⟩
noncomputable def RX2 : String := "NineMowers$Field"
noncomputable def TX2 : u_T := fun k => match k with
  | 0 => ("NineMowers$Field", "gap", "I", false)
  | 1 => ("NineMowers$Field", "tire", "I", false)
  | 2 => ("NineMowers$Field", "length", "I", false)
  | 3 => ("NineMowers$Field", "code", "[I", true)
  | 4 => ("NineMowers$Field", "codeSize", "I", false)
  | 5 => ("NineMowers$Field", "words", "[I", true)
  | 6 => ("NineMowers$Field", "numbers", "[I", true)
  | 7 => ("NineMowers$Field", "codeEnds", "[I", true)
  | 8 => ("NineMowers$Field", "clauses", "I", false)
  | 9 => ("NineMowers$Field", "signs", "[B", false)
  | 10 => ("NineMowers$Field", "end", "I", false)
  | _ => ("NineMowers$Field", "pos", "I", false)
noncomputable def tyX2 : Nat → FieldType := fun k => match k with
  | 0 => .int
  | 1 => .int
  | 2 => .int
  | 3 => .array .int
  | 4 => .int
  | 5 => .array .int
  | 6 => .array .int
  | 7 => .array .int
  | 8 => .int
  | 9 => .array .byte
  | 10 => .int
  | _ => .int
noncomputable abbrev wsX20 : List Cond := u_ws RX2 TX2 12
theorem nmX2 : ∀ a, a < 12 → ∀ b, b < 12 → a ≠ b → (TX2 a).2.1 ≠ (TX2 b).2.1 := by decide +kernel
theorem tyX2_ok : ∀ k, k < 12 → parseFieldDescriptor (TX2 k).2.2.1 = some (tyX2 k) := by decide +kernel
noncomputable abbrev cX2_init : ByteArray := prog_4_method_1_code
noncomputable def yX2_init : MethodName := ⟨RX2, "<init>", "()V"⟩
noncomputable abbrev cX2_reads : ByteArray := prog_4_method_2_code
noncomputable def yX2_reads : MethodName := ⟨RX2, "reads", "([BI)Z"⟩
noncomputable abbrev cX2_fault : ByteArray := prog_4_method_3_code
noncomputable def yX2_fault : MethodName := ⟨RX2, "fault", "()I"⟩
noncomputable abbrev cX2_readsClause : ByteArray := prog_4_method_4_code
noncomputable def yX2_readsClause : MethodName := ⟨RX2, "readsClause", "()Z"⟩
noncomputable abbrev cX2_readsWord : ByteArray := prog_4_method_5_code
noncomputable def yX2_readsWord : MethodName := ⟨RX2, "readsWord", "(I)Z"⟩
noncomputable abbrev cX2_wordOf : ByteArray := prog_4_method_6_code
noncomputable def yX2_wordOf : MethodName := ⟨RX2, "wordOf", "(I)Ljava/lang/String;"⟩
noncomputable abbrev cX2_keeps : ByteArray := prog_4_method_7_code
noncomputable def yX2_keeps : MethodName := ⟨RX2, "keeps", "(II)V"⟩
noncomputable abbrev cX2_readsEither : ByteArray := prog_4_method_8_code
noncomputable def yX2_readsEither : MethodName := ⟨RX2, "readsEither", "(I)Z"⟩
noncomputable abbrev cX2_readsBoth : ByteArray := prog_4_method_9_code
noncomputable def yX2_readsBoth : MethodName := ⟨RX2, "readsBoth", "(I)Z"⟩
noncomputable abbrev cX2_readsPart : ByteArray := prog_4_method_10_code
noncomputable def yX2_readsPart : MethodName := ⟨RX2, "readsPart", "(I)Z"⟩
noncomputable abbrev cX2_readsTest : ByteArray := prog_4_method_11_code
noncomputable def yX2_readsTest : MethodName := ⟨RX2, "readsTest", "()Z"⟩
noncomputable abbrev cX2_readsNumber : ByteArray := prog_4_method_12_code
noncomputable def yX2_readsNumber : MethodName := ⟨RX2, "readsNumber", "()I"⟩
noncomputable abbrev cX2_isDigit : ByteArray := prog_4_method_13_code
noncomputable def yX2_isDigit : MethodName := ⟨RX2, "isDigit", "()Z"⟩
noncomputable abbrev cX2_signAmong : ByteArray := prog_4_method_14_code
noncomputable def yX2_signAmong : MethodName := ⟨RX2, "signAmong", "(Ljava/lang/String;)I"⟩
noncomputable abbrev cX2_sign : ByteArray := prog_4_method_15_code
noncomputable def yX2_sign : MethodName := ⟨RX2, "sign", "()I"⟩
noncomputable abbrev cX2_takes : ByteArray := prog_4_method_16_code
noncomputable def yX2_takes : MethodName := ⟨RX2, "takes", "(C)Z"⟩
noncomputable abbrev cX2_writes : ByteArray := prog_4_method_17_code
noncomputable def yX2_writes : MethodName := ⟨RX2, "writes", "(I)V"⟩
noncomputable abbrev cX2_paceOf : ByteArray := prog_4_method_18_code
noncomputable def yX2_paceOf : MethodName := ⟨RX2, "paceOf", "([I)I"⟩
noncomputable abbrev cX2_holds : ByteArray := prog_4_method_19_code
noncomputable def yX2_holds : MethodName := ⟨RX2, "holds", "(II[I)Z"⟩
noncomputable def RX3 : String := "NineMowers$Hasty"
noncomputable def TX3 : u_T := fun k => match k with
  | 0 => ("NineMowers$Mower", "kind", "I", true)
  | 1 => ("NineMowers$Mower", "number", "I", true)
  | _ => ("NineMowers$Mower", "v", "I", true)
noncomputable def tyX3 : Nat → FieldType := fun k => match k with
  | 0 => .int
  | 1 => .int
  | _ => .int
noncomputable abbrev wsX30 : List Cond := u_ws RX3 TX3 3
theorem nmX3 : ∀ a, a < 3 → ∀ b, b < 3 → a ≠ b → (TX3 a).2.1 ≠ (TX3 b).2.1 := by decide +kernel
theorem tyX3_ok : ∀ k, k < 3 → parseFieldDescriptor (TX3 k).2.2.1 = some (tyX3 k) := by decide +kernel
noncomputable abbrev cX3_init : ByteArray := prog_5_method_1_code
noncomputable def yX3_init : MethodName := ⟨RX3, "<init>", "(III)V"⟩
noncomputable abbrev cX3_strides : ByteArray := prog_5_method_2_code
noncomputable def yX3_strides : MethodName := ⟨RX3, "strides", "(ILNineMowers$Course;I)I"⟩
noncomputable abbrev cX3_mowing : ByteArray := prog_5_method_3_code
noncomputable def yX3_mowing : MethodName := ⟨RX3, "mowing", "(ILNineMowers$Numbers;)I"⟩
noncomputable def RX4 : String := "NineMowers$Mower"
noncomputable def TX4 : u_T := fun k => match k with
  | 0 => ("NineMowers$Mower", "kind", "I", true)
  | 1 => ("NineMowers$Mower", "number", "I", true)
  | _ => ("NineMowers$Mower", "v", "I", true)
noncomputable def tyX4 : Nat → FieldType := fun k => match k with
  | 0 => .int
  | 1 => .int
  | _ => .int
noncomputable abbrev wsX40 : List Cond := u_ws RX4 TX4 3
theorem nmX4 : ∀ a, a < 3 → ∀ b, b < 3 → a ≠ b → (TX4 a).2.1 ≠ (TX4 b).2.1 := by decide +kernel
theorem tyX4_ok : ∀ k, k < 3 → parseFieldDescriptor (TX4 k).2.2.1 = some (tyX4 k) := by decide +kernel
noncomputable abbrev cX4_init : ByteArray := prog_6_method_1_code
noncomputable def yX4_init : MethodName := ⟨RX4, "<init>", "(III)V"⟩
noncomputable abbrev cX4_strides : ByteArray := prog_6_method_2_code
noncomputable def yX4_strides : MethodName := ⟨RX4, "strides", "(ILNineMowers$Course;I)I"⟩
noncomputable abbrev cX4_mowing : ByteArray := prog_6_method_3_code
noncomputable def yX4_mowing : MethodName := ⟨RX4, "mowing", "(ILNineMowers$Numbers;)I"⟩
noncomputable abbrev cX4_whetting : ByteArray := prog_6_method_4_code
noncomputable def yX4_whetting : MethodName := ⟨RX4, "whetting", "(ILNineMowers$Numbers;)I"⟩
noncomputable abbrev cX4_telling : ByteArray := prog_6_method_5_code
noncomputable def yX4_telling : MethodName := ⟨RX4, "telling", "(ILNineMowers$Numbers;)I"⟩
noncomputable def RX5 : String := "NineMowers$Numbers"
noncomputable def TX5 : u_T := fun k => match k with
  | 0 => ("NineMowers$Numbers", "kept", "[I", true)
  | _ => ("NineMowers$Numbers", "size", "I", false)
noncomputable def tyX5 : Nat → FieldType := fun k => match k with
  | 0 => .array .int
  | _ => .int
noncomputable abbrev wsX50 : List Cond := u_ws RX5 TX5 2
theorem nmX5 : ∀ a, a < 2 → ∀ b, b < 2 → a ≠ b → (TX5 a).2.1 ≠ (TX5 b).2.1 := by decide +kernel
theorem tyX5_ok : ∀ k, k < 2 → parseFieldDescriptor (TX5 k).2.2.1 = some (tyX5 k) := by decide +kernel
noncomputable abbrev cX5_init : ByteArray := prog_7_method_1_code
noncomputable def yX5_init : MethodName := ⟨RX5, "<init>", "(I)V"⟩
noncomputable abbrev cX5_isFull : ByteArray := prog_7_method_2_code
noncomputable def yX5_isFull : MethodName := ⟨RX5, "isFull", "()Z"⟩
noncomputable abbrev cX5_has : ByteArray := prog_7_method_3_code
noncomputable def yX5_has : MethodName := ⟨RX5, "has", "(I)Z"⟩
noncomputable abbrev cX5_comes : ByteArray := prog_7_method_4_code
noncomputable def yX5_comes : MethodName := ⟨RX5, "comes", "(I)V"⟩
noncomputable abbrev cX5_becomes : ByteArray := prog_7_method_5_code
noncomputable def yX5_becomes : MethodName := ⟨RX5, "becomes", "(LNineMowers$Numbers;)V"⟩
noncomputable def RX6 : String := "NineMowers$Old"
noncomputable def TX6 : u_T := fun k => match k with
  | 0 => ("NineMowers$Mower", "kind", "I", true)
  | 1 => ("NineMowers$Mower", "number", "I", true)
  | _ => ("NineMowers$Mower", "v", "I", true)
noncomputable def tyX6 : Nat → FieldType := fun k => match k with
  | 0 => .int
  | 1 => .int
  | _ => .int
noncomputable abbrev wsX60 : List Cond := u_ws RX6 TX6 3
theorem nmX6 : ∀ a, a < 3 → ∀ b, b < 3 → a ≠ b → (TX6 a).2.1 ≠ (TX6 b).2.1 := by decide +kernel
theorem tyX6_ok : ∀ k, k < 3 → parseFieldDescriptor (TX6 k).2.2.1 = some (tyX6 k) := by decide +kernel
noncomputable abbrev cX6_init : ByteArray := prog_8_method_1_code
noncomputable def yX6_init : MethodName := ⟨RX6, "<init>", "(III)V"⟩
noncomputable abbrev cX6_strides : ByteArray := prog_8_method_2_code
noncomputable def yX6_strides : MethodName := ⟨RX6, "strides", "(ILNineMowers$Course;I)I"⟩
noncomputable abbrev cX6_mowing : ByteArray := prog_8_method_3_code
noncomputable def yX6_mowing : MethodName := ⟨RX6, "mowing", "(ILNineMowers$Numbers;)I"⟩
noncomputable abbrev cX6_whetting : ByteArray := prog_8_method_4_code
noncomputable def yX6_whetting : MethodName := ⟨RX6, "whetting", "(ILNineMowers$Numbers;)I"⟩
noncomputable def RX7 : String := "NineMowers$Pressed"
noncomputable def TX7 : u_T := fun k => match k with
  | 0 => ("NineMowers$Mower", "kind", "I", true)
  | 1 => ("NineMowers$Mower", "number", "I", true)
  | _ => ("NineMowers$Mower", "v", "I", true)
noncomputable def tyX7 : Nat → FieldType := fun k => match k with
  | 0 => .int
  | 1 => .int
  | _ => .int
noncomputable abbrev wsX70 : List Cond := u_ws RX7 TX7 3
theorem nmX7 : ∀ a, a < 3 → ∀ b, b < 3 → a ≠ b → (TX7 a).2.1 ≠ (TX7 b).2.1 := by decide +kernel
theorem tyX7_ok : ∀ k, k < 3 → parseFieldDescriptor (TX7 k).2.2.1 = some (tyX7 k) := by decide +kernel
noncomputable abbrev cX7_init : ByteArray := prog_9_method_1_code
noncomputable def yX7_init : MethodName := ⟨RX7, "<init>", "(III)V"⟩
noncomputable abbrev cX7_strides : ByteArray := prog_9_method_2_code
noncomputable def yX7_strides : MethodName := ⟨RX7, "strides", "(ILNineMowers$Course;I)I"⟩
noncomputable abbrev cX7_telling : ByteArray := prog_9_method_3_code
noncomputable def yX7_telling : MethodName := ⟨RX7, "telling", "(ILNineMowers$Numbers;)I"⟩
noncomputable def RX8 : String := "NineMowers$Steady"
noncomputable def TX8 : u_T := fun k => match k with
  | 0 => ("NineMowers$Mower", "kind", "I", true)
  | 1 => ("NineMowers$Mower", "number", "I", true)
  | _ => ("NineMowers$Mower", "v", "I", true)
noncomputable def tyX8 : Nat → FieldType := fun k => match k with
  | 0 => .int
  | 1 => .int
  | _ => .int
noncomputable abbrev wsX80 : List Cond := u_ws RX8 TX8 3
theorem nmX8 : ∀ a, a < 3 → ∀ b, b < 3 → a ≠ b → (TX8 a).2.1 ≠ (TX8 b).2.1 := by decide +kernel
theorem tyX8_ok : ∀ k, k < 3 → parseFieldDescriptor (TX8 k).2.2.1 = some (tyX8 k) := by decide +kernel
noncomputable abbrev cX8_init : ByteArray := prog_10_method_1_code
noncomputable def yX8_init : MethodName := ⟨RX8, "<init>", "(III)V"⟩
noncomputable abbrev cX8_strides : ByteArray := prog_10_method_2_code
noncomputable def yX8_strides : MethodName := ⟨RX8, "strides", "(ILNineMowers$Course;I)I"⟩
noncomputable abbrev cX8_whetting : ByteArray := prog_10_method_3_code
noncomputable def yX8_whetting : MethodName := ⟨RX8, "whetting", "(ILNineMowers$Numbers;)I"⟩
noncomputable def RX9 : String := "NineMowers$Tape"
noncomputable def TX9 : u_T := fun k => match k with
  | 0 => ("NineMowers$Tape", "items", "[J", true)
  | 1 => ("NineMowers$Tape", "sort", "I", false)
  | _ => ("NineMowers$Tape", "size", "I", false)
noncomputable def tyX9 : Nat → FieldType := fun k => match k with
  | 0 => .array .long
  | 1 => .int
  | _ => .int
noncomputable abbrev wsX90 : List Cond := u_ws RX9 TX9 3
theorem nmX9 : ∀ a, a < 3 → ∀ b, b < 3 → a ≠ b → (TX9 a).2.1 ≠ (TX9 b).2.1 := by decide +kernel
theorem tyX9_ok : ∀ k, k < 3 → parseFieldDescriptor (TX9 k).2.2.1 = some (tyX9 k) := by decide +kernel
noncomputable abbrev cX9_init : ByteArray := prog_11_method_1_code
noncomputable def yX9_init : MethodName := ⟨RX9, "<init>", "()V"⟩
noncomputable abbrev cX9_becomes : ByteArray := prog_11_method_2_code
noncomputable def yX9_becomes : MethodName := ⟨RX9, "becomes", "(II)V"⟩
noncomputable abbrev cX9_isEmpty : ByteArray := prog_11_method_3_code
noncomputable def yX9_isEmpty : MethodName := ⟨RX9, "isEmpty", "()Z"⟩
noncomputable abbrev cX9_has : ByteArray := prog_11_method_4_code
noncomputable def yX9_has : MethodName := ⟨RX9, "has", "(I)Z"⟩
noncomputable abbrev cX9_hasPart : ByteArray := prog_11_method_5_code
noncomputable def yX9_hasPart : MethodName := ⟨RX9, "hasPart", "(II)Z"⟩
noncomputable abbrev cX9_cut : ByteArray := prog_11_method_6_code
noncomputable def yX9_cut : MethodName := ⟨RX9, "cut", "(J)J"⟩
noncomputable def RX10 : String := "NineMowers$Told"
noncomputable def TX10 : u_T := fun k => match k with
  | 0 => ("NineMowers$Mower", "kind", "I", true)
  | 1 => ("NineMowers$Mower", "number", "I", true)
  | _ => ("NineMowers$Mower", "v", "I", true)
noncomputable def tyX10 : Nat → FieldType := fun k => match k with
  | 0 => .int
  | 1 => .int
  | _ => .int
noncomputable abbrev wsX100 : List Cond := u_ws RX10 TX10 3
theorem nmX10 : ∀ a, a < 3 → ∀ b, b < 3 → a ≠ b → (TX10 a).2.1 ≠ (TX10 b).2.1 := by decide +kernel
theorem tyX10_ok : ∀ k, k < 3 → parseFieldDescriptor (TX10 k).2.2.1 = some (tyX10 k) := by decide +kernel
noncomputable abbrev cX10_init : ByteArray := prog_12_method_1_code
noncomputable def yX10_init : MethodName := ⟨RX10, "<init>", "(III)V"⟩
noncomputable abbrev cX10_strides : ByteArray := prog_12_method_2_code
noncomputable def yX10_strides : MethodName := ⟨RX10, "strides", "(ILNineMowers$Course;I)I"⟩
noncomputable abbrev cX10_whetting : ByteArray := prog_12_method_3_code
noncomputable def yX10_whetting : MethodName := ⟨RX10, "whetting", "(ILNineMowers$Numbers;)I"⟩
noncomputable abbrev cX10_mowing : ByteArray := prog_12_method_4_code
noncomputable def yX10_mowing : MethodName := ⟨RX10, "mowing", "(ILNineMowers$Numbers;)I"⟩
noncomputable def RX11 : String := "NineMowers"
noncomputable def TX11 : u_T := fun k => match k with
  | 0 => ("NineMowers", "now", "LNineMowers$Course;", true)
  | 1 => ("NineMowers", "image", "LNineMowers$Course;", true)
  | 2 => ("NineMowers", "trial", "LNineMowers$Course;", true)
  | 3 => ("NineMowers", "imageTaken", "Z", false)
  | 4 => ("NineMowers", "fields", "[LNineMowers$Field;", true)
  | 5 => ("NineMowers", "fieldCount", "I", false)
  | 6 => ("NineMowers", "text", "[B", true)
  | 7 => ("NineMowers", "textLength", "I", false)
  | 8 => ("NineMowers", "tapes", "[LNineMowers$Tape;", true)
  | 9 => ("NineMowers", "trace", "LNineMowers$Numbers;", true)
  | 10 => ("NineMowers", "tried", "[I", true)
  | 11 => ("NineMowers", "bestOrder", "[I", true)
  | _ => ("NineMowers", "asItIs", "[I", true)
noncomputable def tyX11 : Nat → FieldType := fun k => match k with
  | 0 => .object "NineMowers$Course"
  | 1 => .object "NineMowers$Course"
  | 2 => .object "NineMowers$Course"
  | 3 => .boolean
  | 4 => .array (.object "NineMowers$Field")
  | 5 => .int
  | 6 => .array .byte
  | 7 => .int
  | 8 => .array (.object "NineMowers$Tape")
  | 9 => .object "NineMowers$Numbers"
  | 10 => .array .int
  | 11 => .array .int
  | _ => .array .int
noncomputable abbrev wsX110 : List Cond := u_ws RX11 TX11 13
theorem nmX11 : ∀ a, a < 13 → ∀ b, b < 13 → a ≠ b → (TX11 a).2.1 ≠ (TX11 b).2.1 := by decide +kernel
theorem tyX11_ok : ∀ k, k < 13 → parseFieldDescriptor (TX11 k).2.2.1 = some (tyX11 k) := by decide +kernel
noncomputable abbrev cX11_init : ByteArray := prog_1_method_1_code
noncomputable def yX11_init : MethodName := ⟨RX11, "<init>", "()V"⟩
noncomputable abbrev cX11_mower : ByteArray := prog_1_method_2_code
noncomputable def yX11_mower : MethodName := ⟨RX11, "mower", "(II)I"⟩
noncomputable abbrev cX11_made : ByteArray := prog_1_method_3_code
noncomputable def yX11_made : MethodName := ⟨RX11, "made", "(III)LNineMowers$Mower;"⟩
noncomputable abbrev cX11_isMower : ByteArray := prog_1_method_4_code
noncomputable def yX11_isMower : MethodName := ⟨RX11, "isMower", "(I)Z"⟩
noncomputable abbrev cX11_of : ByteArray := prog_1_method_5_code
noncomputable def yX11_of : MethodName := ⟨RX11, "of", "(II)I"⟩
noncomputable abbrev cX11_set : ByteArray := prog_1_method_6_code
noncomputable def yX11_set : MethodName := ⟨RX11, "set", "(III)I"⟩
noncomputable abbrev cX11_row : ByteArray := prog_1_method_7_code
noncomputable def yX11_row : MethodName := ⟨RX11, "row", "(III)I"⟩
noncomputable abbrev cX11_place : ByteArray := prog_1_method_8_code
noncomputable def yX11_place : MethodName := ⟨RX11, "place", "(II)I"⟩
noncomputable abbrev cX11_feed : ByteArray := prog_1_method_9_code
noncomputable def yX11_feed : MethodName := ⟨RX11, "feed", "(I)I"⟩
noncomputable abbrev cX11_field : ByteArray := prog_1_method_10_code
noncomputable def yX11_field : MethodName := ⟨RX11, "field", "()I"⟩
noncomputable abbrev cX11_told : ByteArray := prog_1_method_11_code
noncomputable def yX11_told : MethodName := ⟨RX11, "told", "(I)I"⟩
noncomputable abbrev cX11_minute : ByteArray := prog_1_method_12_code
noncomputable def yX11_minute : MethodName := ⟨RX11, "minute", "()I"⟩
noncomputable abbrev cX11_whet : ByteArray := prog_1_method_13_code
noncomputable def yX11_whet : MethodName := ⟨RX11, "whet", "()I"⟩
noncomputable abbrev cX11_pause : ByteArray := prog_1_method_14_code
noncomputable def yX11_pause : MethodName := ⟨RX11, "pause", "(I)I"⟩
noncomputable abbrev cX11_on : ByteArray := prog_1_method_15_code
noncomputable def yX11_on : MethodName := ⟨RX11, "on", "(II)I"⟩
noncomputable abbrev cX11_heldTimes : ByteArray := prog_1_method_16_code
noncomputable def yX11_heldTimes : MethodName := ⟨RX11, "heldTimes", "(II)I"⟩
noncomputable abbrev cX11_done : ByteArray := prog_1_method_17_code
noncomputable def yX11_done : MethodName := ⟨RX11, "done", "()I"⟩
noncomputable abbrev cX11_order : ByteArray := prog_1_method_18_code
noncomputable def yX11_order : MethodName := ⟨RX11, "order", "(II)I"⟩
noncomputable abbrev cX11_findsBestOrder : ByteArray := prog_1_method_19_code
noncomputable def yX11_findsBestOrder : MethodName := ⟨RX11, "findsBestOrder", "(I)I"⟩
noncomputable abbrev cX11_totalInOrder : ByteArray := prog_1_method_20_code
noncomputable def yX11_totalInOrder : MethodName := ⟨RX11, "totalInOrder", "(I)I"⟩
noncomputable abbrev cX11_triesNextOrder : ByteArray := prog_1_method_21_code
noncomputable def yX11_triesNextOrder : MethodName := ⟨RX11, "triesNextOrder", "(I)Z"⟩
noncomputable abbrev cX11_swapsTried : ByteArray := prog_1_method_22_code
noncomputable def yX11_swapsTried : MethodName := ⟨RX11, "swapsTried", "(II)V"⟩
noncomputable abbrev cX11_whets : ByteArray := prog_1_method_23_code
noncomputable def yX11_whets : MethodName := ⟨RX11, "whets", "(II)I"⟩
noncomputable abbrev cX11_apart : ByteArray := prog_1_method_24_code
noncomputable def yX11_apart : MethodName := ⟨RX11, "apart", "(II)I"⟩
noncomputable abbrev cX11_mostBy : ByteArray := prog_1_method_25_code
noncomputable def yX11_mostBy : MethodName := ⟨RX11, "mostBy", "(IIIII)I"⟩
noncomputable abbrev cX11_totalBy : ByteArray := prog_1_method_26_code
noncomputable def yX11_totalBy : MethodName := ⟨RX11, "totalBy", "(III)I"⟩
noncomputable abbrev cX11_whetsIn : ByteArray := prog_1_method_27_code
noncomputable def yX11_whetsIn : MethodName := ⟨RX11, "whetsIn", "(II)Z"⟩
noncomputable abbrev cX11_stop : ByteArray := prog_1_method_28_code
noncomputable def yX11_stop : MethodName := ⟨RX11, "stop", "(IIII)I"⟩
noncomputable abbrev cX11_hits : ByteArray := prog_1_method_29_code
noncomputable def yX11_hits : MethodName := ⟨RX11, "hits", "(I)I"⟩
noncomputable abbrev cX11_alone : ByteArray := prog_1_method_30_code
noncomputable def yX11_alone : MethodName := ⟨RX11, "alone", "(I)I"⟩
noncomputable abbrev cX11_rest : ByteArray := prog_1_method_31_code
noncomputable def yX11_rest : MethodName := ⟨RX11, "rest", "(II)I"⟩
noncomputable abbrev cX11_paused : ByteArray := prog_1_method_32_code
noncomputable def yX11_paused : MethodName := ⟨RX11, "paused", "(II)I"⟩
noncomputable abbrev cX11_see : ByteArray := prog_1_method_33_code
noncomputable def yX11_see : MethodName := ⟨RX11, "see", "(III)I"⟩
noncomputable abbrev cX11_who : ByteArray := prog_1_method_34_code
noncomputable def yX11_who : MethodName := ⟨RX11, "who", "()I"⟩
noncomputable abbrev cX11_allSeenIsSo : ByteArray := prog_1_method_35_code
noncomputable def yX11_allSeenIsSo : MethodName := ⟨RX11, "allSeenIsSo", "()Z"⟩
noncomputable abbrev cX11_seenIsSo : ByteArray := prog_1_method_36_code
noncomputable def yX11_seenIsSo : MethodName := ⟨RX11, "seenIsSo", "(I)Z"⟩
noncomputable abbrev cX11_odds : ByteArray := prog_1_method_37_code
noncomputable def yX11_odds : MethodName := ⟨RX11, "odds", "(III)J"⟩
noncomputable abbrev cX11_mean : ByteArray := prog_1_method_38_code
noncomputable def yX11_mean : MethodName := ⟨RX11, "mean", "(II)J"⟩
noncomputable abbrev cX11_lowest : ByteArray := prog_1_method_39_code
noncomputable def yX11_lowest : MethodName := ⟨RX11, "lowest", "(III)J"⟩
noncomputable abbrev cX11_plan : ByteArray := prog_1_method_40_code
noncomputable def yX11_plan : MethodName := ⟨RX11, "plan", "(I)I"⟩
noncomputable abbrev cX11_planned : ByteArray := prog_1_method_41_code
noncomputable def yX11_planned : MethodName := ⟨RX11, "planned", "()I"⟩
noncomputable abbrev cX11_book : ByteArray := prog_1_method_42_code
noncomputable def yX11_book : MethodName := ⟨RX11, "book", "(I)I"⟩
noncomputable abbrev cX11_looked : ByteArray := prog_1_method_43_code
noncomputable def yX11_looked : MethodName := ⟨RX11, "looked", "()I"⟩
noncomputable abbrev cX11_judge : ByteArray := prog_1_method_44_code
noncomputable def yX11_judge : MethodName := ⟨RX11, "judge", "(II)I"⟩
noncomputable abbrev cX11_image : ByteArray := prog_1_method_45_code
noncomputable def yX11_image : MethodName := ⟨RX11, "image", "()I"⟩
noncomputable abbrev cX11_undo : ByteArray := prog_1_method_46_code
noncomputable def yX11_undo : MethodName := ⟨RX11, "undo", "()I"⟩
noncomputable abbrev cX11_act : ByteArray := prog_1_method_47_code
noncomputable def yX11_act : MethodName := ⟨RX11, "act", "(III)I"⟩
noncomputable abbrev cX11_trace : ByteArray := prog_1_method_48_code
noncomputable def yX11_trace : MethodName := ⟨RX11, "trace", "(I)I"⟩
noncomputable abbrev cX11_taken : ByteArray := prog_1_method_49_code
noncomputable def yX11_taken : MethodName := ⟨RX11, "taken", "(II)I"⟩
noncomputable abbrev cX11_isOfKind : ByteArray := prog_1_method_50_code
noncomputable def yX11_isOfKind : MethodName := ⟨RX11, "isOfKind", "(LNineMowers$Mower;I)Z"⟩
noncomputable abbrev cX11_count : ByteArray := prog_1_method_51_code
noncomputable def yX11_count : MethodName := ⟨RX11, "count", "(I)I"⟩
noncomputable abbrev cX11_isTape : ByteArray := prog_1_method_52_code
noncomputable def yX11_isTape : MethodName := ⟨RX11, "isTape", "(I)Z"⟩
noncomputable abbrev cX11_tape : ByteArray := prog_1_method_53_code
noncomputable def yX11_tape : MethodName := ⟨RX11, "tape", "(III)I"⟩
noncomputable abbrev cX11_item : ByteArray := prog_1_method_54_code
noncomputable def yX11_item : MethodName := ⟨RX11, "item", "(IIJ)I"⟩
noncomputable abbrev cX11_read : ByteArray := prog_1_method_55_code
noncomputable def yX11_read : MethodName := ⟨RX11, "read", "(II)J"⟩
noncomputable abbrev cX11_shift : ByteArray := prog_1_method_56_code
noncomputable def yX11_shift : MethodName := ⟨RX11, "shift", "(IIIII)I"⟩
noncomputable def RX12 : String := "NineMowersModel"
noncomputable def TX12 : u_T := fun k => match k with
  | 0 => ("NineMowersModel", "mowers", "I", false)
  | 1 => ("NineMowersModel", "minutes", "I", false)
  | 2 => ("NineMowersModel", "rowed", "I", false)
  | 3 => ("NineMowersModel", "kind", "[I", true)
  | 4 => ("NineMowersModel", "v", "[I", true)
  | 5 => ("NineMowersModel", "where", "[I", true)
  | 6 => ("NineMowersModel", "edge", "[I", true)
  | 7 => ("NineMowersModel", "tired", "[I", true)
  | 8 => ("NineMowersModel", "stopped", "[I", true)
  | 9 => ("NineMowersModel", "rows", "[I", true)
  | 10 => ("NineMowersModel", "line", "[I", true)
  | 11 => ("NineMowersModel", "fields", "I", false)
  | 12 => ("NineMowersModel", "the", "I", false)
  | 13 => ("NineMowersModel", "fed", "I", false)
  | 14 => ("NineMowersModel", "at", "I", false)
  | 15 => ("NineMowersModel", "digits", "I", false)
  | 16 => ("NineMowersModel", "text", "[I", true)
  | 17 => ("NineMowersModel", "clauses", "[I", true)
  | 18 => ("NineMowersModel", "word", "[I", true)
  | 19 => ("NineMowersModel", "number", "[I", true)
  | 20 => ("NineMowersModel", "from", "[I", true)
  | 21 => ("NineMowersModel", "to", "[I", true)
  | 22 => ("NineMowersModel", "sign", "[I", true)
  | 23 => ("NineMowersModel", "waits", "[I", true)
  | 24 => ("NineMowersModel", "signs", "I", false)
  | 25 => ("NineMowersModel", "waiting", "I", false)
  | 26 => ("NineMowersModel", "open", "I", false)
  | 27 => ("NineMowersModel", "letters", "[I", true)
  | 28 => ("NineMowersModel", "gapTold", "I", false)
  | 29 => ("NineMowersModel", "pile", "[Z", true)
  | 30 => ("NineMowersModel", "placeSeen", "I", false)
  | 31 => ("NineMowersModel", "stride", "[I", true)
  | 32 => ("NineMowersModel", "heldTimes", "[I", true)
  | 33 => ("NineMowersModel", "keptMinutes", "I", false)
  | 34 => ("NineMowersModel", "keptWhere", "[I", true)
  | 35 => ("NineMowersModel", "keptEdge", "[I", true)
  | 36 => ("NineMowersModel", "keptTired", "[I", true)
  | 37 => ("NineMowersModel", "keptStopped", "[I", true)
  | 38 => ("NineMowersModel", "keptLine", "[I", true)
  | 39 => ("NineMowersModel", "bestLine", "[I", true)
  | 40 => ("NineMowersModel", "asIs", "[I", true)
  | 41 => ("NineMowersModel", "seen", "I", false)
  | 42 => ("NineMowersModel", "seenWho", "[I", true)
  | 43 => ("NineMowersModel", "seenWhen", "[I", true)
  | 44 => ("NineMowersModel", "seenAt", "[I", true)
  | 45 => ("NineMowersModel", "plans", "I", false)
  | 46 => ("NineMowersModel", "books", "I", false)
  | 47 => ("NineMowersModel", "plan", "[I", true)
  | 48 => ("NineMowersModel", "book", "[I", true)
  | 49 => ("NineMowersModel", "hasImage", "Z", false)
  | 50 => ("NineMowersModel", "imageThe", "I", false)
  | 51 => ("NineMowersModel", "imageMowers", "I", false)
  | 52 => ("NineMowersModel", "imageMinutes", "I", false)
  | 53 => ("NineMowersModel", "imageSeen", "I", false)
  | 54 => ("NineMowersModel", "imagePlans", "I", false)
  | 55 => ("NineMowersModel", "imageBooks", "I", false)
  | 56 => ("NineMowersModel", "imageKind", "[I", true)
  | 57 => ("NineMowersModel", "imageV", "[I", true)
  | 58 => ("NineMowersModel", "imageWhere", "[I", true)
  | 59 => ("NineMowersModel", "imageEdge", "[I", true)
  | 60 => ("NineMowersModel", "imageTired", "[I", true)
  | 61 => ("NineMowersModel", "imageStopped", "[I", true)
  | 62 => ("NineMowersModel", "imageLine", "[I", true)
  | 63 => ("NineMowersModel", "imageRows", "[I", true)
  | 64 => ("NineMowersModel", "imageWho", "[I", true)
  | 65 => ("NineMowersModel", "imageWhen", "[I", true)
  | 66 => ("NineMowersModel", "imageAt", "[I", true)
  | 67 => ("NineMowersModel", "imagePlan", "[I", true)
  | 68 => ("NineMowersModel", "imageBook", "[I", true)
  | 69 => ("NineMowersModel", "ran", "I", false)
  | 70 => ("NineMowersModel", "bodies", "[I", true)
  | 71 => ("NineMowersModel", "sort", "[I", true)
  | 72 => ("NineMowersModel", "length", "[I", true)
  | 73 => ("NineMowersModel", "item", "[J", true)
  | _ => ("NineMowersModel", "aside", "[J", true)
noncomputable def tyX12 : Nat → FieldType := fun k => match k with
  | 0 => .int
  | 1 => .int
  | 2 => .int
  | 3 => .array .int
  | 4 => .array .int
  | 5 => .array .int
  | 6 => .array .int
  | 7 => .array .int
  | 8 => .array .int
  | 9 => .array .int
  | 10 => .array .int
  | 11 => .int
  | 12 => .int
  | 13 => .int
  | 14 => .int
  | 15 => .int
  | 16 => .array .int
  | 17 => .array .int
  | 18 => .array .int
  | 19 => .array .int
  | 20 => .array .int
  | 21 => .array .int
  | 22 => .array .int
  | 23 => .array .int
  | 24 => .int
  | 25 => .int
  | 26 => .int
  | 27 => .array .int
  | 28 => .int
  | 29 => .array .boolean
  | 30 => .int
  | 31 => .array .int
  | 32 => .array .int
  | 33 => .int
  | 34 => .array .int
  | 35 => .array .int
  | 36 => .array .int
  | 37 => .array .int
  | 38 => .array .int
  | 39 => .array .int
  | 40 => .array .int
  | 41 => .int
  | 42 => .array .int
  | 43 => .array .int
  | 44 => .array .int
  | 45 => .int
  | 46 => .int
  | 47 => .array .int
  | 48 => .array .int
  | 49 => .boolean
  | 50 => .int
  | 51 => .int
  | 52 => .int
  | 53 => .int
  | 54 => .int
  | 55 => .int
  | 56 => .array .int
  | 57 => .array .int
  | 58 => .array .int
  | 59 => .array .int
  | 60 => .array .int
  | 61 => .array .int
  | 62 => .array .int
  | 63 => .array .int
  | 64 => .array .int
  | 65 => .array .int
  | 66 => .array .int
  | 67 => .array .int
  | 68 => .array .int
  | 69 => .int
  | 70 => .array .int
  | 71 => .array .int
  | 72 => .array .int
  | 73 => .array .long
  | _ => .array .long
noncomputable abbrev wsX120 : List Cond := u_ws RX12 TX12 75
theorem nmX12 : ∀ a, a < 75 → ∀ b, b < 75 → a ≠ b → (TX12 a).2.1 ≠ (TX12 b).2.1 := by decide +kernel
theorem tyX12_ok : ∀ k, k < 75 → parseFieldDescriptor (TX12 k).2.2.1 = some (tyX12 k) := by decide +kernel
noncomputable abbrev cX12_init : ByteArray := prog_14_method_1_code
noncomputable def yX12_init : MethodName := ⟨RX12, "<init>", "()V"⟩
noncomputable abbrev cX12_in : ByteArray := prog_14_method_2_code
noncomputable def yX12_in : MethodName := ⟨RX12, "in", "(III)Z"⟩
noncomputable abbrev cX12_has : ByteArray := prog_14_method_3_code
noncomputable def yX12_has : MethodName := ⟨RX12, "has", "(II)Z"⟩
noncomputable abbrev cX12_least : ByteArray := prog_14_method_4_code
noncomputable def yX12_least : MethodName := ⟨RX12, "least", "(II)I"⟩
noncomputable abbrev cX12_most : ByteArray := prog_14_method_5_code
noncomputable def yX12_most : MethodName := ⟨RX12, "most", "(II)I"⟩
noncomputable abbrev cX12_isMower : ByteArray := prog_14_method_6_code
noncomputable def yX12_isMower : MethodName := ⟨RX12, "isMower", "(I)Z"⟩
noncomputable abbrev cX12_mower : ByteArray := prog_14_method_7_code
noncomputable def yX12_mower : MethodName := ⟨RX12, "mower", "(II)I"⟩
noncomputable abbrev cX12_set : ByteArray := prog_14_method_8_code
noncomputable def yX12_set : MethodName := ⟨RX12, "set", "(III)I"⟩
noncomputable abbrev cX12_row : ByteArray := prog_14_method_9_code
noncomputable def yX12_row : MethodName := ⟨RX12, "row", "(III)I"⟩
noncomputable abbrev cX12_placeOf : ByteArray := prog_14_method_10_code
noncomputable def yX12_placeOf : MethodName := ⟨RX12, "placeOf", "(I)I"⟩
noncomputable abbrev cX12_place : ByteArray := prog_14_method_11_code
noncomputable def yX12_place : MethodName := ⟨RX12, "place", "(II)I"⟩
noncomputable abbrev cX12_feed : ByteArray := prog_14_method_12_code
noncomputable def yX12_feed : MethodName := ⟨RX12, "feed", "(I)I"⟩
noncomputable abbrev cX12_next : ByteArray := prog_14_method_13_code
noncomputable def yX12_next : MethodName := ⟨RX12, "next", "()I"⟩
noncomputable abbrev cX12_takes : ByteArray := prog_14_method_14_code
noncomputable def yX12_takes : MethodName := ⟨RX12, "takes", "(I)Z"⟩
noncomputable abbrev cX12_takesWord : ByteArray := prog_14_method_15_code
noncomputable def yX12_takesWord : MethodName := ⟨RX12, "takesWord", "(II)Z"⟩
noncomputable abbrev cX12_isDigit : ByteArray := prog_14_method_16_code
noncomputable def yX12_isDigit : MethodName := ⟨RX12, "isDigit", "()Z"⟩
noncomputable abbrev cX12_takesNumber : ByteArray := prog_14_method_17_code
noncomputable def yX12_takesNumber : MethodName := ⟨RX12, "takesNumber", "()Z"⟩
noncomputable abbrev cX12_emits : ByteArray := prog_14_method_18_code
noncomputable def yX12_emits : MethodName := ⟨RX12, "emits", "(I)V"⟩
noncomputable abbrev cX12_whole : ByteArray := prog_14_method_19_code
noncomputable def yX12_whole : MethodName := ⟨RX12, "whole", "()V"⟩
noncomputable abbrev cX12_settle : ByteArray := prog_14_method_20_code
noncomputable def yX12_settle : MethodName := ⟨RX12, "settle", "(I)V"⟩
noncomputable abbrev cX12_letterAt : ByteArray := prog_14_method_21_code
noncomputable def yX12_letterAt : MethodName := ⟨RX12, "letterAt", "(I)I"⟩
noncomputable abbrev cX12_takesTest : ByteArray := prog_14_method_22_code
noncomputable def yX12_takesTest : MethodName := ⟨RX12, "takesTest", "()Z"⟩
noncomputable abbrev cX12_takesE : ByteArray := prog_14_method_23_code
noncomputable def yX12_takesE : MethodName := ⟨RX12, "takesE", "(I)Z"⟩
noncomputable abbrev cX12_takesHead : ByteArray := prog_14_method_24_code
noncomputable def yX12_takesHead : MethodName := ⟨RX12, "takesHead", "(I)Z"⟩
noncomputable abbrev cX12_takesClause : ByteArray := prog_14_method_25_code
noncomputable def yX12_takesClause : MethodName := ⟨RX12, "takesClause", "(I)Z"⟩
noncomputable abbrev cX12_goesText : ByteArray := prog_14_method_26_code
noncomputable def yX12_goesText : MethodName := ⟨RX12, "goesText", "(I)Z"⟩
noncomputable abbrev cX12_field : ByteArray := prog_14_method_27_code
noncomputable def yX12_field : MethodName := ⟨RX12, "field", "()I"⟩
noncomputable abbrev cX12_begin : ByteArray := prog_14_method_28_code
noncomputable def yX12_begin : MethodName := ⟨RX12, "begin", "()I"⟩
noncomputable abbrev cX12_behind : ByteArray := prog_14_method_29_code
noncomputable def yX12_behind : MethodName := ⟨RX12, "behind", "()I"⟩
noncomputable abbrev cX12_lastOf : ByteArray := prog_14_method_30_code
noncomputable def yX12_lastOf : MethodName := ⟨RX12, "lastOf", "(II)I"⟩
noncomputable abbrev cX12_gap : ByteArray := prog_14_method_31_code
noncomputable def yX12_gap : MethodName := ⟨RX12, "gap", "()I"⟩
noncomputable abbrev cX12_fieldLong : ByteArray := prog_14_method_32_code
noncomputable def yX12_fieldLong : MethodName := ⟨RX12, "fieldLong", "()I"⟩
noncomputable abbrev cX12_factOf : ByteArray := prog_14_method_33_code
noncomputable def yX12_factOf : MethodName := ⟨RX12, "factOf", "(II)I"⟩
noncomputable abbrev cX12_holds : ByteArray := prog_14_method_34_code
noncomputable def yX12_holds : MethodName := ⟨RX12, "holds", "(II)Z"⟩
noncomputable abbrev cX12_paceAt : ByteArray := prog_14_method_35_code
noncomputable def yX12_paceAt : MethodName := ⟨RX12, "paceAt", "(I)I"⟩
noncomputable abbrev cX12_hasty : ByteArray := prog_14_method_36_code
noncomputable def yX12_hasty : MethodName := ⟨RX12, "hasty", "(II)I"⟩
noncomputable abbrev cX12_isPressed : ByteArray := prog_14_method_37_code
noncomputable def yX12_isPressed : MethodName := ⟨RX12, "isPressed", "(I)Z"⟩
noncomputable abbrev cX12_strideOf : ByteArray := prog_14_method_38_code
noncomputable def yX12_strideOf : MethodName := ⟨RX12, "strideOf", "(III)I"⟩
noncomputable abbrev cX12_strideAt : ByteArray := prog_14_method_39_code
noncomputable def yX12_strideAt : MethodName := ⟨RX12, "strideAt", "(I)I"⟩
noncomputable abbrev cX12_of : ByteArray := prog_14_method_40_code
noncomputable def yX12_of : MethodName := ⟨RX12, "of", "(II)I"⟩
noncomputable abbrev cX12_told : ByteArray := prog_14_method_41_code
noncomputable def yX12_told : MethodName := ⟨RX12, "told", "(I)I"⟩
noncomputable abbrev cX12_goes : ByteArray := prog_14_method_42_code
noncomputable def yX12_goes : MethodName := ⟨RX12, "goes", "(I)Z"⟩
noncomputable abbrev cX12_goMinute : ByteArray := prog_14_method_43_code
noncomputable def yX12_goMinute : MethodName := ⟨RX12, "goMinute", "()I"⟩
noncomputable abbrev cX12_goWhet : ByteArray := prog_14_method_44_code
noncomputable def yX12_goWhet : MethodName := ⟨RX12, "goWhet", "()V"⟩
noncomputable abbrev cX12_goPause : ByteArray := prog_14_method_45_code
noncomputable def yX12_goPause : MethodName := ⟨RX12, "goPause", "(I)V"⟩
noncomputable abbrev cX12_goMinutes : ByteArray := prog_14_method_46_code
noncomputable def yX12_goMinutes : MethodName := ⟨RX12, "goMinutes", "(I)V"⟩
noncomputable abbrev cX12_minute : ByteArray := prog_14_method_47_code
noncomputable def yX12_minute : MethodName := ⟨RX12, "minute", "()I"⟩
noncomputable abbrev cX12_whet : ByteArray := prog_14_method_48_code
noncomputable def yX12_whet : MethodName := ⟨RX12, "whet", "()I"⟩
noncomputable abbrev cX12_pause : ByteArray := prog_14_method_49_code
noncomputable def yX12_pause : MethodName := ⟨RX12, "pause", "(I)I"⟩
noncomputable abbrev cX12_save : ByteArray := prog_14_method_50_code
noncomputable def yX12_save : MethodName := ⟨RX12, "save", "()V"⟩
noncomputable abbrev cX12_putBack : ByteArray := prog_14_method_51_code
noncomputable def yX12_putBack : MethodName := ⟨RX12, "putBack", "()V"⟩
noncomputable abbrev cX12_all : ByteArray := prog_14_method_52_code
noncomputable def yX12_all : MethodName := ⟨RX12, "all", "()I"⟩
noncomputable abbrev cX12_allBehind : ByteArray := prog_14_method_53_code
noncomputable def yX12_allBehind : MethodName := ⟨RX12, "allBehind", "(I)I"⟩
noncomputable abbrev cX12_on : ByteArray := prog_14_method_54_code
noncomputable def yX12_on : MethodName := ⟨RX12, "on", "(II)I"⟩
noncomputable abbrev cX12_isDone : ByteArray := prog_14_method_55_code
noncomputable def yX12_isDone : MethodName := ⟨RX12, "isDone", "()Z"⟩
noncomputable abbrev cX12_done : ByteArray := prog_14_method_56_code
noncomputable def yX12_done : MethodName := ⟨RX12, "done", "()I"⟩
noncomputable abbrev cX12_layOrder : ByteArray := prog_14_method_57_code
noncomputable def yX12_layOrder : MethodName := ⟨RX12, "layOrder", "(I)Z"⟩
noncomputable abbrev cX12_fromTheStart : ByteArray := prog_14_method_58_code
noncomputable def yX12_fromTheStart : MethodName := ⟨RX12, "fromTheStart", "(I)I"⟩
noncomputable abbrev cX12_order : ByteArray := prog_14_method_59_code
noncomputable def yX12_order : MethodName := ⟨RX12, "order", "(II)I"⟩
noncomputable abbrev cX12_whetted : ByteArray := prog_14_method_60_code
noncomputable def yX12_whetted : MethodName := ⟨RX12, "whetted", "(II)I"⟩
noncomputable abbrev cX12_whets : ByteArray := prog_14_method_61_code
noncomputable def yX12_whets : MethodName := ⟨RX12, "whets", "(II)I"⟩
noncomputable abbrev cX12_apart : ByteArray := prog_14_method_62_code
noncomputable def yX12_apart : MethodName := ⟨RX12, "apart", "(II)I"⟩
noncomputable abbrev cX12_stop : ByteArray := prog_14_method_63_code
noncomputable def yX12_stop : MethodName := ⟨RX12, "stop", "(IIII)I"⟩
noncomputable abbrev cX12_aloneBehind : ByteArray := prog_14_method_64_code
noncomputable def yX12_aloneBehind : MethodName := ⟨RX12, "aloneBehind", "(II)I"⟩
noncomputable abbrev cX12_alone : ByteArray := prog_14_method_65_code
noncomputable def yX12_alone : MethodName := ⟨RX12, "alone", "(I)I"⟩
noncomputable abbrev cX12_allStopped : ByteArray := prog_14_method_66_code
noncomputable def yX12_allStopped : MethodName := ⟨RX12, "allStopped", "(III)I"⟩
noncomputable abbrev cX12_rest : ByteArray := prog_14_method_67_code
noncomputable def yX12_rest : MethodName := ⟨RX12, "rest", "(II)I"⟩
noncomputable abbrev cX12_paused : ByteArray := prog_14_method_68_code
noncomputable def yX12_paused : MethodName := ⟨RX12, "paused", "(II)I"⟩
noncomputable abbrev cX12_see : ByteArray := prog_14_method_69_code
noncomputable def yX12_see : MethodName := ⟨RX12, "see", "(III)I"⟩
noncomputable abbrev cX12_isSeen : ByteArray := prog_14_method_70_code
noncomputable def yX12_isSeen : MethodName := ⟨RX12, "isSeen", "(II)Z"⟩
noncomputable abbrev cX12_who : ByteArray := prog_14_method_71_code
noncomputable def yX12_who : MethodName := ⟨RX12, "who", "()I"⟩
noncomputable abbrev cX12_divisor : ByteArray := prog_14_method_72_code
noncomputable def yX12_divisor : MethodName := ⟨RX12, "divisor", "(II)I"⟩
noncomputable abbrev cX12_lowest : ByteArray := prog_14_method_73_code
noncomputable def yX12_lowest : MethodName := ⟨RX12, "lowest", "(III)J"⟩
noncomputable abbrev cX12_odds : ByteArray := prog_14_method_74_code
noncomputable def yX12_odds : MethodName := ⟨RX12, "odds", "(III)J"⟩
noncomputable abbrev cX12_mean : ByteArray := prog_14_method_75_code
noncomputable def yX12_mean : MethodName := ⟨RX12, "mean", "(II)J"⟩
noncomputable abbrev cX12_plan : ByteArray := prog_14_method_76_code
noncomputable def yX12_plan : MethodName := ⟨RX12, "plan", "(I)I"⟩
noncomputable abbrev cX12_planned : ByteArray := prog_14_method_77_code
noncomputable def yX12_planned : MethodName := ⟨RX12, "planned", "()I"⟩
noncomputable abbrev cX12_book : ByteArray := prog_14_method_78_code
noncomputable def yX12_book : MethodName := ⟨RX12, "book", "(I)I"⟩
noncomputable abbrev cX12_looked : ByteArray := prog_14_method_79_code
noncomputable def yX12_looked : MethodName := ⟨RX12, "looked", "()I"⟩
noncomputable abbrev cX12_judge : ByteArray := prog_14_method_80_code
noncomputable def yX12_judge : MethodName := ⟨RX12, "judge", "(II)I"⟩
noncomputable abbrev cX12_image : ByteArray := prog_14_method_81_code
noncomputable def yX12_image : MethodName := ⟨RX12, "image", "()I"⟩
noncomputable abbrev cX12_undo : ByteArray := prog_14_method_82_code
noncomputable def yX12_undo : MethodName := ⟨RX12, "undo", "()I"⟩
noncomputable abbrev cX12_body : ByteArray := prog_14_method_83_code
noncomputable def yX12_body : MethodName := ⟨RX12, "body", "(I)V"⟩
noncomputable abbrev cX12_mowerMows : ByteArray := prog_14_method_84_code
noncomputable def yX12_mowerMows : MethodName := ⟨RX12, "mowerMows", "(II)I"⟩
noncomputable abbrev cX12_mowsAct : ByteArray := prog_14_method_85_code
noncomputable def yX12_mowsAct : MethodName := ⟨RX12, "mowsAct", "(II)I"⟩
noncomputable abbrev cX12_mowerWhets : ByteArray := prog_14_method_86_code
noncomputable def yX12_mowerWhets : MethodName := ⟨RX12, "mowerWhets", "(II)I"⟩
noncomputable abbrev cX12_steadyWhets : ByteArray := prog_14_method_87_code
noncomputable def yX12_steadyWhets : MethodName := ⟨RX12, "steadyWhets", "(II)I"⟩
noncomputable abbrev cX12_whetsAct : ByteArray := prog_14_method_88_code
noncomputable def yX12_whetsAct : MethodName := ⟨RX12, "whetsAct", "(II)I"⟩
noncomputable abbrev cX12_mowerTells : ByteArray := prog_14_method_89_code
noncomputable def yX12_mowerTells : MethodName := ⟨RX12, "mowerTells", "(II)I"⟩
noncomputable abbrev cX12_tellsAct : ByteArray := prog_14_method_90_code
noncomputable def yX12_tellsAct : MethodName := ⟨RX12, "tellsAct", "(II)I"⟩
noncomputable abbrev cX12_act : ByteArray := prog_14_method_91_code
noncomputable def yX12_act : MethodName := ⟨RX12, "act", "(III)I"⟩
noncomputable abbrev cX12_trace : ByteArray := prog_14_method_92_code
noncomputable def yX12_trace : MethodName := ⟨RX12, "trace", "(I)I"⟩
noncomputable abbrev cX12_taken : ByteArray := prog_14_method_93_code
noncomputable def yX12_taken : MethodName := ⟨RX12, "taken", "(II)I"⟩
noncomputable abbrev cX12_count : ByteArray := prog_14_method_94_code
noncomputable def yX12_count : MethodName := ⟨RX12, "count", "(I)I"⟩
noncomputable abbrev cX12_isTape : ByteArray := prog_14_method_95_code
noncomputable def yX12_isTape : MethodName := ⟨RX12, "isTape", "(I)Z"⟩
noncomputable abbrev cX12_tape : ByteArray := prog_14_method_96_code
noncomputable def yX12_tape : MethodName := ⟨RX12, "tape", "(III)I"⟩
noncomputable abbrev cX12_narrow : ByteArray := prog_14_method_97_code
noncomputable def yX12_narrow : MethodName := ⟨RX12, "narrow", "(IJ)J"⟩
noncomputable abbrev cX12_item : ByteArray := prog_14_method_98_code
noncomputable def yX12_item : MethodName := ⟨RX12, "item", "(IIJ)I"⟩
noncomputable abbrev cX12_read : ByteArray := prog_14_method_99_code
noncomputable def yX12_read : MethodName := ⟨RX12, "read", "(II)J"⟩
noncomputable abbrev cX12_shift : ByteArray := prog_14_method_100_code
noncomputable def yX12_shift : MethodName := ⟨RX12, "shift", "(IIIII)I"⟩
noncomputable def RJ11 : String := "java/lang/Character"
noncomputable abbrev cJ11_isValidCodePoint_9a6ad : ByteArray := prog_15_method_11_code
noncomputable def yJ11_isValidCodePoint_9a6ad : MethodName := ⟨RJ11, "isValidCodePoint", "(I)Z"⟩
noncomputable abbrev cJ11_highSurrogate_5068e : ByteArray := prog_15_method_28_code
noncomputable def yJ11_highSurrogate_5068e : MethodName := ⟨RJ11, "highSurrogate", "(I)C"⟩
noncomputable abbrev cJ11_lowSurrogate_5068e : ByteArray := prog_15_method_29_code
noncomputable def yJ11_lowSurrogate_5068e : MethodName := ⟨RJ11, "lowSurrogate", "(I)C"⟩
noncomputable def RJ0 : String := "java/lang/String"
noncomputable abbrev cJ0_length_8abf5 : ByteArray := prog_17_method_54_code
noncomputable def yJ0_length_8abf5 : MethodName := ⟨RJ0, "length", "()I"⟩
noncomputable abbrev cJ0_charAt_5068e : ByteArray := prog_17_method_56_code
noncomputable def yJ0_charAt_5068e : MethodName := ⟨RJ0, "charAt", "(I)C"⟩
noncomputable abbrev cJ0_indexOf_0f7a4 : ByteArray := prog_17_method_79_code
noncomputable def yJ0_indexOf_0f7a4 : MethodName := ⟨RJ0, "indexOf", "(I)I"⟩
noncomputable abbrev cJ0_indexOf_7cf53 : ByteArray := prog_17_method_80_code
noncomputable def yJ0_indexOf_7cf53 : MethodName := ⟨RJ0, "indexOf", "(II)I"⟩
noncomputable abbrev cJ0_coder_7d493 : ByteArray := prog_17_method_152_code
noncomputable def yJ0_coder_7d493 : MethodName := ⟨RJ0, "coder", "()B"⟩
noncomputable abbrev cJ0_isLatin1_aae02 : ByteArray := prog_17_method_154_code
noncomputable def yJ0_isLatin1_aae02 : MethodName := ⟨RJ0, "isLatin1", "()Z"⟩
noncomputable abbrev cJ0_checkIndex_df160 : ByteArray := prog_17_method_155_code
noncomputable def yJ0_checkIndex_df160 : MethodName := ⟨RJ0, "checkIndex", "(II)V"⟩
noncomputable abbrev cJ0_checkBoundsBeginEnd_23922 : ByteArray := prog_17_method_158_code
noncomputable def yJ0_checkBoundsBeginEnd_23922 : MethodName := ⟨RJ0, "checkBoundsBeginEnd", "(III)V"⟩
noncomputable def RJ1 : String := "java/lang/StringLatin1"
noncomputable abbrev cJ1_charAt_3b067 : ByteArray := prog_18_method_2_code
noncomputable def yJ1_charAt_3b067 : MethodName := ⟨RJ1, "charAt", "([BI)C"⟩
noncomputable abbrev cJ1_canEncode_9a6ad : ByteArray := prog_18_method_4_code
noncomputable def yJ1_canEncode_9a6ad : MethodName := ⟨RJ1, "canEncode", "(I)Z"⟩
noncomputable abbrev cJ1_indexOf_4cfef : ByteArray := prog_18_method_22_code
noncomputable def yJ1_indexOf_4cfef : MethodName := ⟨RJ1, "indexOf", "([BIII)I"⟩
noncomputable abbrev cJ1_indexOfChar_4cfef : ByteArray := prog_18_method_23_code
noncomputable def yJ1_indexOfChar_4cfef : MethodName := ⟨RJ1, "indexOfChar", "([BIII)I"⟩
noncomputable def RJ2 : String := "java/lang/StringUTF16"
noncomputable abbrev cJ2_getChar_3b067 : ByteArray := prog_19_method_5_code
noncomputable def yJ2_getChar_3b067 : MethodName := ⟨RJ2, "getChar", "([BI)C"⟩
noncomputable abbrev cJ2_length_9d52b : ByteArray := prog_19_method_6_code
noncomputable def yJ2_length_9d52b : MethodName := ⟨RJ2, "length", "([B)I"⟩
noncomputable abbrev cJ2_indexOf_4cfef : ByteArray := prog_19_method_40_code
noncomputable def yJ2_indexOf_4cfef : MethodName := ⟨RJ2, "indexOf", "([BIII)I"⟩
noncomputable abbrev cJ2_indexOfChar_4cfef : ByteArray := prog_19_method_47_code
noncomputable def yJ2_indexOfChar_4cfef : MethodName := ⟨RJ2, "indexOfChar", "([BIII)I"⟩
noncomputable abbrev cJ2_indexOfCharUnsafe_4cfef : ByteArray := prog_19_method_48_code
noncomputable def yJ2_indexOfCharUnsafe_4cfef : MethodName := ⟨RJ2, "indexOfCharUnsafe", "([BIII)I"⟩
noncomputable abbrev cJ2_indexOfSupplementary_4cfef : ByteArray := prog_19_method_49_code
noncomputable def yJ2_indexOfSupplementary_4cfef : MethodName := ⟨RJ2, "indexOfSupplementary", "([BIII)I"⟩
noncomputable abbrev cJ2_charAt_3b067 : ByteArray := prog_19_method_83_code
noncomputable def yJ2_charAt_3b067 : MethodName := ⟨RJ2, "charAt", "([BI)C"⟩
noncomputable abbrev cJ2_checkIndex_2214a : ByteArray := prog_19_method_91_code
noncomputable def yJ2_checkIndex_2214a : MethodName := ⟨RJ2, "checkIndex", "(I[B)V"⟩
noncomputable abbrev cJ2_checkBoundsBeginEnd_d044e : ByteArray := prog_19_method_93_code
noncomputable def yJ2_checkBoundsBeginEnd_d044e : MethodName := ⟨RJ2, "checkBoundsBeginEnd", "(II[B)V"⟩
noncomputable def RJ7 : String := "java/util/Arrays"
noncomputable abbrev cJ7_fill_d0a16 : ByteArray := prog_21_method_101_code
noncomputable def yJ7_fill_d0a16 : MethodName := ⟨RJ7, "fill", "([JJ)V"⟩
noncomputable def RJ3 : String := "jdk/internal/util/Preconditions"
noncomputable abbrev cJ3_checkIndex_8e157 : ByteArray := prog_22_method_11_code
noncomputable def yJ3_checkIndex_8e157 : MethodName := ⟨RJ3, "checkIndex", "(IILjava/util/function/BiFunction;)I"⟩
noncomputable abbrev cJ3_checkFromToIndex_8c36e : ByteArray := prog_22_method_12_code
noncomputable def yJ3_checkFromToIndex_8c36e : MethodName := ⟨RJ3, "checkFromToIndex", "(IIILjava/util/function/BiFunction;)I"⟩
noncomputable def RL : String := "NineMowersLaw"
noncomputable abbrev cL_law : ByteArray := code
