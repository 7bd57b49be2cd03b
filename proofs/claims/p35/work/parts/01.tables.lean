-- ===== PART A: goes FIRST, ahead of the names: the tables' words, and 'selects' of the private methods out of them =====
/-- a private method of a class that the tables say can be made, by its rows of tables_1 -/
noncomputable def lw_okq (q : MethodName × Nat) : Prop := (q.1.cls ≠ "java/lang/invoke/MethodHandle" ∧ q.1.cls ≠ "java/lang/invoke/VarHandle") ∧ Cond.instantiable q.1.cls q.2 ∈ tables_1 ∧ Cond.privateMethod q.1 ∈ tables_1 ∧ Cond.instanceMethod q.1 ∈ tables_1
theorem tb_all : ∀ w : Cond, (w ∈ tables_1_1 → w ∈ tables_1) ∧ (w ∈ tables_1_2 → w ∈ tables_1) ∧ (w ∈ tables_1_3 → w ∈ tables_1) ∧ (w ∈ tables_1_4 → w ∈ tables_1) ∧ (w ∈ tables_1_5 → w ∈ tables_1) ∧ (w ∈ tables_1_6 → w ∈ tables_1) ∧ (w ∈ tables_1_7 → w ∈ tables_1) := by
  intro w
  unfold tables_1
  simp only [List.mem_append]
  refine ⟨?_, ?_, ?_, ?_, ?_, ?_, ?_⟩ <;> intro h
  · exact Or.inl h
  · exact Or.inr (Or.inl h)
  · exact Or.inr (Or.inr (Or.inl h))
  · exact Or.inr (Or.inr (Or.inr (Or.inl h)))
  · exact Or.inr (Or.inr (Or.inr (Or.inr (Or.inl h))))
  · exact Or.inr (Or.inr (Or.inr (Or.inr (Or.inr (Or.inl h)))))
  · exact Or.inr (Or.inr (Or.inr (Or.inr (Or.inr (Or.inr (h))))))
theorem tb_1 (w : Cond) (h : w ∈ tables_1_1) : w ∈ tables_1 := (tb_all w).1 h
theorem tb_2 (w : Cond) (h : w ∈ tables_1_2) : w ∈ tables_1 := (tb_all w).2.1 h
theorem tb_3 (w : Cond) (h : w ∈ tables_1_3) : w ∈ tables_1 := (tb_all w).2.2.1 h
theorem tb_4 (w : Cond) (h : w ∈ tables_1_4) : w ∈ tables_1 := (tb_all w).2.2.2.1 h
theorem tb_5 (w : Cond) (h : w ∈ tables_1_5) : w ∈ tables_1 := (tb_all w).2.2.2.2.1 h
theorem tb_6 (w : Cond) (h : w ∈ tables_1_6) : w ∈ tables_1 := (tb_all w).2.2.2.2.2.1 h
theorem tb_7 (w : Cond) (h : w ∈ tables_1_7) : w ∈ tables_1 := (tb_all w).2.2.2.2.2.2 h
theorem nh_0 : (("NineMowers" : String) ≠ "java/lang/invoke/MethodHandle") ∧ (("NineMowers" : String) ≠ "java/lang/invoke/VarHandle") := ⟨by decide +kernel, by decide +kernel⟩
set_option maxRecDepth 20000 in
theorem ni_0 : Cond.instantiable "NineMowers" 13 ∈ tables_1 := tb_1 _ (List.mem_of_getElem? (i := 23) rfl)
theorem nh_1 : (("NineMowers$Field" : String) ≠ "java/lang/invoke/MethodHandle") ∧ (("NineMowers$Field" : String) ≠ "java/lang/invoke/VarHandle") := ⟨by decide +kernel, by decide +kernel⟩
set_option maxRecDepth 20000 in
theorem ni_1 : Cond.instantiable "NineMowers$Field" 12 ∈ tables_1 := tb_1 _ (List.mem_of_getElem? (i := 131) rfl)
theorem nh_2 : (("NineMowers$Course" : String) ≠ "java/lang/invoke/MethodHandle") ∧ (("NineMowers$Course" : String) ≠ "java/lang/invoke/VarHandle") := ⟨by decide +kernel, by decide +kernel⟩
set_option maxRecDepth 20000 in
theorem ni_2 : Cond.instantiable "NineMowers$Course" 17 ∈ tables_1 := tb_1 _ (List.mem_of_getElem? (i := 31) rfl)
theorem nh_3 : (("NineMowersModel" : String) ≠ "java/lang/invoke/MethodHandle") ∧ (("NineMowersModel" : String) ≠ "java/lang/invoke/VarHandle") := ⟨by decide +kernel, by decide +kernel⟩
set_option maxRecDepth 20000 in
theorem ni_3 : Cond.instantiable "NineMowersModel" 75 ∈ tables_1 := tb_5 _ (List.mem_of_getElem? (i := 9) rfl)
set_option maxRecDepth 20000 in
theorem lw_p0 : lw_okq (⟨"NineMowers", "isMower", "(I)Z"⟩, 13) := ⟨nh_0, ni_0, tb_2 _ (List.mem_of_getElem? (i := 106) rfl), tb_2 _ (List.mem_of_getElem? (i := 107) rfl)⟩
set_option maxRecDepth 20000 in
theorem lw_p1 : lw_okq (⟨"NineMowers$Field", "holds", "(II[I)Z"⟩, 12) := ⟨nh_1, ni_1, tb_2 _ (List.mem_of_getElem? (i := 122) rfl), tb_2 _ (List.mem_of_getElem? (i := 123) rfl)⟩
set_option maxRecDepth 20000 in
theorem lw_p2 : lw_okq (⟨"NineMowers$Field", "readsClause", "()Z"⟩, 12) := ⟨nh_1, ni_1, tb_2 _ (List.mem_of_getElem? (i := 203) rfl), tb_2 _ (List.mem_of_getElem? (i := 204) rfl)⟩
set_option maxRecDepth 20000 in
theorem lw_p3 : lw_okq (⟨"NineMowers$Field", "signAmong", "(Ljava/lang/String;)I"⟩, 12) := ⟨nh_1, ni_1, tb_2 _ (List.mem_of_getElem? (i := 208) rfl), tb_2 _ (List.mem_of_getElem? (i := 209) rfl)⟩
set_option maxRecDepth 20000 in
theorem lw_p4 : lw_okq (⟨"NineMowers$Field", "sign", "()I"⟩, 12) := ⟨nh_1, ni_1, tb_2 _ (List.mem_of_getElem? (i := 212) rfl), tb_2 _ (List.mem_of_getElem? (i := 213) rfl)⟩
set_option maxRecDepth 20000 in
theorem lw_p5 : lw_okq (⟨"NineMowers$Field", "readsWord", "(I)Z"⟩, 12) := ⟨nh_1, ni_1, tb_3 _ (List.mem_of_getElem? (i := 60) rfl), tb_3 _ (List.mem_of_getElem? (i := 61) rfl)⟩
set_option maxRecDepth 20000 in
theorem lw_p6 : lw_okq (⟨"NineMowers$Field", "takes", "(C)Z"⟩, 12) := ⟨nh_1, ni_1, tb_3 _ (List.mem_of_getElem? (i := 93) rfl), tb_3 _ (List.mem_of_getElem? (i := 94) rfl)⟩
set_option maxRecDepth 20000 in
theorem lw_p7 : lw_okq (⟨"NineMowers$Field", "readsNumber", "()I"⟩, 12) := ⟨nh_1, ni_1, tb_3 _ (List.mem_of_getElem? (i := 97) rfl), tb_3 _ (List.mem_of_getElem? (i := 98) rfl)⟩
set_option maxRecDepth 20000 in
theorem lw_p8 : lw_okq (⟨"NineMowers$Field", "isDigit", "()Z"⟩, 12) := ⟨nh_1, ni_1, tb_3 _ (List.mem_of_getElem? (i := 101) rfl), tb_3 _ (List.mem_of_getElem? (i := 102) rfl)⟩
set_option maxRecDepth 20000 in
theorem lw_p9 : lw_okq (⟨"NineMowers$Field", "readsEither", "(I)Z"⟩, 12) := ⟨nh_1, ni_1, tb_3 _ (List.mem_of_getElem? (i := 105) rfl), tb_3 _ (List.mem_of_getElem? (i := 106) rfl)⟩
set_option maxRecDepth 20000 in
theorem lw_p10 : lw_okq (⟨"NineMowers$Field", "readsBoth", "(I)Z"⟩, 12) := ⟨nh_1, ni_1, tb_3 _ (List.mem_of_getElem? (i := 109) rfl), tb_3 _ (List.mem_of_getElem? (i := 110) rfl)⟩
set_option maxRecDepth 20000 in
theorem lw_p11 : lw_okq (⟨"NineMowers$Field", "readsPart", "(I)Z"⟩, 12) := ⟨nh_1, ni_1, tb_3 _ (List.mem_of_getElem? (i := 113) rfl), tb_3 _ (List.mem_of_getElem? (i := 114) rfl)⟩
set_option maxRecDepth 20000 in
theorem lw_p12 : lw_okq (⟨"NineMowers$Field", "writes", "(I)V"⟩, 12) := ⟨nh_1, ni_1, tb_3 _ (List.mem_of_getElem? (i := 117) rfl), tb_3 _ (List.mem_of_getElem? (i := 118) rfl)⟩
set_option maxRecDepth 20000 in
theorem lw_p13 : lw_okq (⟨"NineMowers$Field", "readsTest", "()Z"⟩, 12) := ⟨nh_1, ni_1, tb_3 _ (List.mem_of_getElem? (i := 121) rfl), tb_3 _ (List.mem_of_getElem? (i := 122) rfl)⟩
set_option maxRecDepth 20000 in
theorem lw_p14 : lw_okq (⟨"NineMowers$Field", "keeps", "(II)V"⟩, 12) := ⟨nh_1, ni_1, tb_3 _ (List.mem_of_getElem? (i := 127) rfl), tb_3 _ (List.mem_of_getElem? (i := 128) rfl)⟩
set_option maxRecDepth 20000 in
theorem lw_p15 : lw_okq (⟨"NineMowers$Course", "roomAt", "(I)I"⟩, 17) := ⟨nh_2, ni_2, tb_3 _ (List.mem_of_getElem? (i := 149) rfl), tb_3 _ (List.mem_of_getElem? (i := 150) rfl)⟩
noncomputable def lw_privs_1 : List (MethodName × Nat) := [(⟨"NineMowers", "isMower", "(I)Z"⟩, 13), (⟨"NineMowers$Field", "holds", "(II[I)Z"⟩, 12), (⟨"NineMowers$Field", "readsClause", "()Z"⟩, 12), (⟨"NineMowers$Field", "signAmong", "(Ljava/lang/String;)I"⟩, 12), (⟨"NineMowers$Field", "sign", "()I"⟩, 12), (⟨"NineMowers$Field", "readsWord", "(I)Z"⟩, 12), (⟨"NineMowers$Field", "takes", "(C)Z"⟩, 12), (⟨"NineMowers$Field", "readsNumber", "()I"⟩, 12), (⟨"NineMowers$Field", "isDigit", "()Z"⟩, 12), (⟨"NineMowers$Field", "readsEither", "(I)Z"⟩, 12), (⟨"NineMowers$Field", "readsBoth", "(I)Z"⟩, 12), (⟨"NineMowers$Field", "readsPart", "(I)Z"⟩, 12), (⟨"NineMowers$Field", "writes", "(I)V"⟩, 12), (⟨"NineMowers$Field", "readsTest", "()Z"⟩, 12), (⟨"NineMowers$Field", "keeps", "(II)V"⟩, 12), (⟨"NineMowers$Course", "roomAt", "(I)I"⟩, 17)]
theorem lw_r1 : ∀ q ∈ lw_privs_1, lw_okq q := List.forall_mem_cons.mpr ⟨lw_p0, List.forall_mem_cons.mpr ⟨lw_p1, List.forall_mem_cons.mpr ⟨lw_p2, List.forall_mem_cons.mpr ⟨lw_p3, List.forall_mem_cons.mpr ⟨lw_p4, List.forall_mem_cons.mpr ⟨lw_p5, List.forall_mem_cons.mpr ⟨lw_p6, List.forall_mem_cons.mpr ⟨lw_p7, List.forall_mem_cons.mpr ⟨lw_p8, List.forall_mem_cons.mpr ⟨lw_p9, List.forall_mem_cons.mpr ⟨lw_p10, List.forall_mem_cons.mpr ⟨lw_p11, List.forall_mem_cons.mpr ⟨lw_p12, List.forall_mem_cons.mpr ⟨lw_p13, List.forall_mem_cons.mpr ⟨lw_p14, List.forall_mem_cons.mpr ⟨lw_p15, fun _ h => absurd h List.not_mem_nil⟩⟩⟩⟩⟩⟩⟩⟩⟩⟩⟩⟩⟩⟩⟩⟩
set_option maxRecDepth 20000 in
theorem lw_p16 : lw_okq (⟨"NineMowers$Course", "wears", "(IZ)V"⟩, 17) := ⟨nh_2, ni_2, tb_3 _ (List.mem_of_getElem? (i := 155) rfl), tb_3 _ (List.mem_of_getElem? (i := 156) rfl)⟩
set_option maxRecDepth 20000 in
theorem lw_p17 : lw_okq (⟨"NineMowers$Course", "passes", "(II)V"⟩, 17) := ⟨nh_2, ni_2, tb_3 _ (List.mem_of_getElem? (i := 167) rfl), tb_3 _ (List.mem_of_getElem? (i := 168) rfl)⟩
set_option maxRecDepth 20000 in
theorem lw_p18 : lw_okq (⟨"NineMowers", "heldTimes", "(II)I"⟩, 13) := ⟨nh_0, ni_0, tb_3 _ (List.mem_of_getElem? (i := 190) rfl), tb_3 _ (List.mem_of_getElem? (i := 191) rfl)⟩
set_option maxRecDepth 20000 in
theorem lw_p19 : lw_okq (⟨"NineMowers", "findsBestOrder", "(I)I"⟩, 13) := ⟨nh_0, ni_0, tb_3 _ (List.mem_of_getElem? (i := 215) rfl), tb_3 _ (List.mem_of_getElem? (i := 216) rfl)⟩
set_option maxRecDepth 20000 in
theorem lw_p20 : lw_okq (⟨"NineMowers", "totalInOrder", "(I)I"⟩, 13) := ⟨nh_0, ni_0, tb_3 _ (List.mem_of_getElem? (i := 220) rfl), tb_3 _ (List.mem_of_getElem? (i := 221) rfl)⟩
set_option maxRecDepth 20000 in
theorem lw_p21 : lw_okq (⟨"NineMowers", "triesNextOrder", "(I)Z"⟩, 13) := ⟨nh_0, ni_0, tb_3 _ (List.mem_of_getElem? (i := 225) rfl), tb_3 _ (List.mem_of_getElem? (i := 226) rfl)⟩
set_option maxRecDepth 20000 in
theorem lw_p22 : lw_okq (⟨"NineMowers", "swapsTried", "(II)V"⟩, 13) := ⟨nh_0, ni_0, tb_3 _ (List.mem_of_getElem? (i := 229) rfl), tb_3 _ (List.mem_of_getElem? (i := 230) rfl)⟩
set_option maxRecDepth 20000 in
theorem lw_p23 : lw_okq (⟨"NineMowers", "mostBy", "(IIIII)I"⟩, 13) := ⟨nh_0, ni_0, tb_3 _ (List.mem_of_getElem? (i := 237) rfl), tb_3 _ (List.mem_of_getElem? (i := 238) rfl)⟩
set_option maxRecDepth 20000 in
theorem lw_p24 : lw_okq (⟨"NineMowers", "totalBy", "(III)I"⟩, 13) := ⟨nh_0, ni_0, tb_4 _ (List.mem_of_getElem? (i := 1) rfl), tb_4 _ (List.mem_of_getElem? (i := 2) rfl)⟩
set_option maxRecDepth 20000 in
theorem lw_p25 : lw_okq (⟨"NineMowers", "hits", "(I)I"⟩, 13) := ⟨nh_0, ni_0, tb_4 _ (List.mem_of_getElem? (i := 18) rfl), tb_4 _ (List.mem_of_getElem? (i := 19) rfl)⟩
set_option maxRecDepth 20000 in
theorem lw_p26 : lw_okq (⟨"NineMowers", "allSeenIsSo", "()Z"⟩, 13) := ⟨nh_0, ni_0, tb_4 _ (List.mem_of_getElem? (i := 50) rfl), tb_4 _ (List.mem_of_getElem? (i := 51) rfl)⟩
set_option maxRecDepth 20000 in
theorem lw_p27 : lw_okq (⟨"NineMowers", "seenIsSo", "(I)Z"⟩, 13) := ⟨nh_0, ni_0, tb_4 _ (List.mem_of_getElem? (i := 54) rfl), tb_4 _ (List.mem_of_getElem? (i := 55) rfl)⟩
set_option maxRecDepth 20000 in
theorem lw_p28 : lw_okq (⟨"NineMowersModel", "in", "(III)Z"⟩, 75) := ⟨nh_3, ni_3, tb_6 _ (List.mem_of_getElem? (i := 6) rfl), tb_6 _ (List.mem_of_getElem? (i := 7) rfl)⟩
set_option maxRecDepth 20000 in
theorem lw_p29 : lw_okq (⟨"NineMowersModel", "isMower", "(I)Z"⟩, 75) := ⟨nh_3, ni_3, tb_6 _ (List.mem_of_getElem? (i := 14) rfl), tb_6 _ (List.mem_of_getElem? (i := 15) rfl)⟩
set_option maxRecDepth 20000 in
theorem lw_p30 : lw_okq (⟨"NineMowersModel", "placeOf", "(I)I"⟩, 75) := ⟨nh_3, ni_3, tb_6 _ (List.mem_of_getElem? (i := 26) rfl), tb_6 _ (List.mem_of_getElem? (i := 27) rfl)⟩
set_option maxRecDepth 20000 in
theorem lw_p31 : lw_okq (⟨"NineMowersModel", "goesText", "(I)Z"⟩, 75) := ⟨nh_3, ni_3, tb_6 _ (List.mem_of_getElem? (i := 38) rfl), tb_6 _ (List.mem_of_getElem? (i := 39) rfl)⟩
noncomputable def lw_privs_2 : List (MethodName × Nat) := [(⟨"NineMowers$Course", "wears", "(IZ)V"⟩, 17), (⟨"NineMowers$Course", "passes", "(II)V"⟩, 17), (⟨"NineMowers", "heldTimes", "(II)I"⟩, 13), (⟨"NineMowers", "findsBestOrder", "(I)I"⟩, 13), (⟨"NineMowers", "totalInOrder", "(I)I"⟩, 13), (⟨"NineMowers", "triesNextOrder", "(I)Z"⟩, 13), (⟨"NineMowers", "swapsTried", "(II)V"⟩, 13), (⟨"NineMowers", "mostBy", "(IIIII)I"⟩, 13), (⟨"NineMowers", "totalBy", "(III)I"⟩, 13), (⟨"NineMowers", "hits", "(I)I"⟩, 13), (⟨"NineMowers", "allSeenIsSo", "()Z"⟩, 13), (⟨"NineMowers", "seenIsSo", "(I)Z"⟩, 13), (⟨"NineMowersModel", "in", "(III)Z"⟩, 75), (⟨"NineMowersModel", "isMower", "(I)Z"⟩, 75), (⟨"NineMowersModel", "placeOf", "(I)I"⟩, 75), (⟨"NineMowersModel", "goesText", "(I)Z"⟩, 75)]
theorem lw_r2 : ∀ q ∈ lw_privs_2, lw_okq q := List.forall_mem_cons.mpr ⟨lw_p16, List.forall_mem_cons.mpr ⟨lw_p17, List.forall_mem_cons.mpr ⟨lw_p18, List.forall_mem_cons.mpr ⟨lw_p19, List.forall_mem_cons.mpr ⟨lw_p20, List.forall_mem_cons.mpr ⟨lw_p21, List.forall_mem_cons.mpr ⟨lw_p22, List.forall_mem_cons.mpr ⟨lw_p23, List.forall_mem_cons.mpr ⟨lw_p24, List.forall_mem_cons.mpr ⟨lw_p25, List.forall_mem_cons.mpr ⟨lw_p26, List.forall_mem_cons.mpr ⟨lw_p27, List.forall_mem_cons.mpr ⟨lw_p28, List.forall_mem_cons.mpr ⟨lw_p29, List.forall_mem_cons.mpr ⟨lw_p30, List.forall_mem_cons.mpr ⟨lw_p31, fun _ h => absurd h List.not_mem_nil⟩⟩⟩⟩⟩⟩⟩⟩⟩⟩⟩⟩⟩⟩⟩⟩
set_option maxRecDepth 20000 in
theorem lw_p32 : lw_okq (⟨"NineMowersModel", "takesClause", "(I)Z"⟩, 75) := ⟨nh_3, ni_3, tb_6 _ (List.mem_of_getElem? (i := 42) rfl), tb_6 _ (List.mem_of_getElem? (i := 43) rfl)⟩
set_option maxRecDepth 20000 in
theorem lw_p33 : lw_okq (⟨"NineMowersModel", "takesHead", "(I)Z"⟩, 75) := ⟨nh_3, ni_3, tb_6 _ (List.mem_of_getElem? (i := 46) rfl), tb_6 _ (List.mem_of_getElem? (i := 47) rfl)⟩
set_option maxRecDepth 20000 in
theorem lw_p34 : lw_okq (⟨"NineMowersModel", "next", "()I"⟩, 75) := ⟨nh_3, ni_3, tb_6 _ (List.mem_of_getElem? (i := 50) rfl), tb_6 _ (List.mem_of_getElem? (i := 51) rfl)⟩
set_option maxRecDepth 20000 in
theorem lw_p35 : lw_okq (⟨"NineMowersModel", "takesWord", "(II)Z"⟩, 75) := ⟨nh_3, ni_3, tb_6 _ (List.mem_of_getElem? (i := 54) rfl), tb_6 _ (List.mem_of_getElem? (i := 55) rfl)⟩
set_option maxRecDepth 20000 in
theorem lw_p36 : lw_okq (⟨"NineMowersModel", "takes", "(I)Z"⟩, 75) := ⟨nh_3, ni_3, tb_6 _ (List.mem_of_getElem? (i := 58) rfl), tb_6 _ (List.mem_of_getElem? (i := 59) rfl)⟩
set_option maxRecDepth 20000 in
theorem lw_p37 : lw_okq (⟨"NineMowersModel", "takesNumber", "()Z"⟩, 75) := ⟨nh_3, ni_3, tb_6 _ (List.mem_of_getElem? (i := 62) rfl), tb_6 _ (List.mem_of_getElem? (i := 63) rfl)⟩
set_option maxRecDepth 20000 in
theorem lw_p38 : lw_okq (⟨"NineMowersModel", "isDigit", "()Z"⟩, 75) := ⟨nh_3, ni_3, tb_6 _ (List.mem_of_getElem? (i := 66) rfl), tb_6 _ (List.mem_of_getElem? (i := 67) rfl)⟩
set_option maxRecDepth 20000 in
theorem lw_p39 : lw_okq (⟨"NineMowersModel", "takesE", "(I)Z"⟩, 75) := ⟨nh_3, ni_3, tb_6 _ (List.mem_of_getElem? (i := 70) rfl), tb_6 _ (List.mem_of_getElem? (i := 71) rfl)⟩
set_option maxRecDepth 20000 in
theorem lw_p40 : lw_okq (⟨"NineMowersModel", "takesTest", "()Z"⟩, 75) := ⟨nh_3, ni_3, tb_6 _ (List.mem_of_getElem? (i := 74) rfl), tb_6 _ (List.mem_of_getElem? (i := 75) rfl)⟩
set_option maxRecDepth 20000 in
theorem lw_p41 : lw_okq (⟨"NineMowersModel", "letterAt", "(I)I"⟩, 75) := ⟨nh_3, ni_3, tb_6 _ (List.mem_of_getElem? (i := 78) rfl), tb_6 _ (List.mem_of_getElem? (i := 79) rfl)⟩
set_option maxRecDepth 20000 in
theorem lw_p42 : lw_okq (⟨"NineMowersModel", "emits", "(I)V"⟩, 75) := ⟨nh_3, ni_3, tb_6 _ (List.mem_of_getElem? (i := 82) rfl), tb_6 _ (List.mem_of_getElem? (i := 83) rfl)⟩
set_option maxRecDepth 20000 in
theorem lw_p43 : lw_okq (⟨"NineMowersModel", "whole", "()V"⟩, 75) := ⟨nh_3, ni_3, tb_6 _ (List.mem_of_getElem? (i := 86) rfl), tb_6 _ (List.mem_of_getElem? (i := 87) rfl)⟩
set_option maxRecDepth 20000 in
theorem lw_p44 : lw_okq (⟨"NineMowersModel", "settle", "(I)V"⟩, 75) := ⟨nh_3, ni_3, tb_6 _ (List.mem_of_getElem? (i := 90) rfl), tb_6 _ (List.mem_of_getElem? (i := 91) rfl)⟩
set_option maxRecDepth 20000 in
theorem lw_p45 : lw_okq (⟨"NineMowersModel", "paceAt", "(I)I"⟩, 75) := ⟨nh_3, ni_3, tb_6 _ (List.mem_of_getElem? (i := 98) rfl), tb_6 _ (List.mem_of_getElem? (i := 99) rfl)⟩
set_option maxRecDepth 20000 in
theorem lw_p46 : lw_okq (⟨"NineMowersModel", "begin", "()I"⟩, 75) := ⟨nh_3, ni_3, tb_6 _ (List.mem_of_getElem? (i := 102) rfl), tb_6 _ (List.mem_of_getElem? (i := 103) rfl)⟩
set_option maxRecDepth 20000 in
theorem lw_p47 : lw_okq (⟨"NineMowersModel", "behind", "()I"⟩, 75) := ⟨nh_3, ni_3, tb_6 _ (List.mem_of_getElem? (i := 106) rfl), tb_6 _ (List.mem_of_getElem? (i := 107) rfl)⟩
noncomputable def lw_privs_3 : List (MethodName × Nat) := [(⟨"NineMowersModel", "takesClause", "(I)Z"⟩, 75), (⟨"NineMowersModel", "takesHead", "(I)Z"⟩, 75), (⟨"NineMowersModel", "next", "()I"⟩, 75), (⟨"NineMowersModel", "takesWord", "(II)Z"⟩, 75), (⟨"NineMowersModel", "takes", "(I)Z"⟩, 75), (⟨"NineMowersModel", "takesNumber", "()Z"⟩, 75), (⟨"NineMowersModel", "isDigit", "()Z"⟩, 75), (⟨"NineMowersModel", "takesE", "(I)Z"⟩, 75), (⟨"NineMowersModel", "takesTest", "()Z"⟩, 75), (⟨"NineMowersModel", "letterAt", "(I)I"⟩, 75), (⟨"NineMowersModel", "emits", "(I)V"⟩, 75), (⟨"NineMowersModel", "whole", "()V"⟩, 75), (⟨"NineMowersModel", "settle", "(I)V"⟩, 75), (⟨"NineMowersModel", "paceAt", "(I)I"⟩, 75), (⟨"NineMowersModel", "begin", "()I"⟩, 75), (⟨"NineMowersModel", "behind", "()I"⟩, 75)]
theorem lw_r3 : ∀ q ∈ lw_privs_3, lw_okq q := List.forall_mem_cons.mpr ⟨lw_p32, List.forall_mem_cons.mpr ⟨lw_p33, List.forall_mem_cons.mpr ⟨lw_p34, List.forall_mem_cons.mpr ⟨lw_p35, List.forall_mem_cons.mpr ⟨lw_p36, List.forall_mem_cons.mpr ⟨lw_p37, List.forall_mem_cons.mpr ⟨lw_p38, List.forall_mem_cons.mpr ⟨lw_p39, List.forall_mem_cons.mpr ⟨lw_p40, List.forall_mem_cons.mpr ⟨lw_p41, List.forall_mem_cons.mpr ⟨lw_p42, List.forall_mem_cons.mpr ⟨lw_p43, List.forall_mem_cons.mpr ⟨lw_p44, List.forall_mem_cons.mpr ⟨lw_p45, List.forall_mem_cons.mpr ⟨lw_p46, List.forall_mem_cons.mpr ⟨lw_p47, fun _ h => absurd h List.not_mem_nil⟩⟩⟩⟩⟩⟩⟩⟩⟩⟩⟩⟩⟩⟩⟩⟩
set_option maxRecDepth 20000 in
theorem lw_p48 : lw_okq (⟨"NineMowersModel", "holds", "(II)Z"⟩, 75) := ⟨nh_3, ni_3, tb_6 _ (List.mem_of_getElem? (i := 110) rfl), tb_6 _ (List.mem_of_getElem? (i := 111) rfl)⟩
set_option maxRecDepth 20000 in
theorem lw_p49 : lw_okq (⟨"NineMowersModel", "factOf", "(II)I"⟩, 75) := ⟨nh_3, ni_3, tb_6 _ (List.mem_of_getElem? (i := 114) rfl), tb_6 _ (List.mem_of_getElem? (i := 115) rfl)⟩
set_option maxRecDepth 20000 in
theorem lw_p50 : lw_okq (⟨"NineMowersModel", "most", "(II)I"⟩, 75) := ⟨nh_3, ni_3, tb_6 _ (List.mem_of_getElem? (i := 118) rfl), tb_6 _ (List.mem_of_getElem? (i := 119) rfl)⟩
set_option maxRecDepth 20000 in
theorem lw_p51 : lw_okq (⟨"NineMowersModel", "strideAt", "(I)I"⟩, 75) := ⟨nh_3, ni_3, tb_6 _ (List.mem_of_getElem? (i := 122) rfl), tb_6 _ (List.mem_of_getElem? (i := 123) rfl)⟩
set_option maxRecDepth 20000 in
theorem lw_p52 : lw_okq (⟨"NineMowersModel", "strideOf", "(III)I"⟩, 75) := ⟨nh_3, ni_3, tb_6 _ (List.mem_of_getElem? (i := 126) rfl), tb_6 _ (List.mem_of_getElem? (i := 127) rfl)⟩
set_option maxRecDepth 20000 in
theorem lw_p53 : lw_okq (⟨"NineMowersModel", "hasty", "(II)I"⟩, 75) := ⟨nh_3, ni_3, tb_6 _ (List.mem_of_getElem? (i := 130) rfl), tb_6 _ (List.mem_of_getElem? (i := 131) rfl)⟩
set_option maxRecDepth 20000 in
theorem lw_p54 : lw_okq (⟨"NineMowersModel", "isPressed", "(I)Z"⟩, 75) := ⟨nh_3, ni_3, tb_6 _ (List.mem_of_getElem? (i := 134) rfl), tb_6 _ (List.mem_of_getElem? (i := 135) rfl)⟩
set_option maxRecDepth 20000 in
theorem lw_p55 : lw_okq (⟨"NineMowersModel", "gap", "()I"⟩, 75) := ⟨nh_3, ni_3, tb_6 _ (List.mem_of_getElem? (i := 138) rfl), tb_6 _ (List.mem_of_getElem? (i := 139) rfl)⟩
set_option maxRecDepth 20000 in
theorem lw_p56 : lw_okq (⟨"NineMowersModel", "lastOf", "(II)I"⟩, 75) := ⟨nh_3, ni_3, tb_6 _ (List.mem_of_getElem? (i := 142) rfl), tb_6 _ (List.mem_of_getElem? (i := 143) rfl)⟩
set_option maxRecDepth 20000 in
theorem lw_p57 : lw_okq (⟨"NineMowersModel", "fieldLong", "()I"⟩, 75) := ⟨nh_3, ni_3, tb_6 _ (List.mem_of_getElem? (i := 150) rfl), tb_6 _ (List.mem_of_getElem? (i := 151) rfl)⟩
set_option maxRecDepth 20000 in
theorem lw_p58 : lw_okq (⟨"NineMowersModel", "goMinute", "()I"⟩, 75) := ⟨nh_3, ni_3, tb_6 _ (List.mem_of_getElem? (i := 158) rfl), tb_6 _ (List.mem_of_getElem? (i := 159) rfl)⟩
set_option maxRecDepth 20000 in
theorem lw_p59 : lw_okq (⟨"NineMowersModel", "goes", "(I)Z"⟩, 75) := ⟨nh_3, ni_3, tb_6 _ (List.mem_of_getElem? (i := 162) rfl), tb_6 _ (List.mem_of_getElem? (i := 163) rfl)⟩
set_option maxRecDepth 20000 in
theorem lw_p60 : lw_okq (⟨"NineMowersModel", "least", "(II)I"⟩, 75) := ⟨nh_3, ni_3, tb_6 _ (List.mem_of_getElem? (i := 166) rfl), tb_6 _ (List.mem_of_getElem? (i := 167) rfl)⟩
set_option maxRecDepth 20000 in
theorem lw_p61 : lw_okq (⟨"NineMowersModel", "goWhet", "()V"⟩, 75) := ⟨nh_3, ni_3, tb_6 _ (List.mem_of_getElem? (i := 174) rfl), tb_6 _ (List.mem_of_getElem? (i := 175) rfl)⟩
set_option maxRecDepth 20000 in
theorem lw_p62 : lw_okq (⟨"NineMowersModel", "goPause", "(I)V"⟩, 75) := ⟨nh_3, ni_3, tb_6 _ (List.mem_of_getElem? (i := 182) rfl), tb_6 _ (List.mem_of_getElem? (i := 183) rfl)⟩
set_option maxRecDepth 20000 in
theorem lw_p63 : lw_okq (⟨"NineMowersModel", "save", "()V"⟩, 75) := ⟨nh_3, ni_3, tb_6 _ (List.mem_of_getElem? (i := 190) rfl), tb_6 _ (List.mem_of_getElem? (i := 191) rfl)⟩
noncomputable def lw_privs_4 : List (MethodName × Nat) := [(⟨"NineMowersModel", "holds", "(II)Z"⟩, 75), (⟨"NineMowersModel", "factOf", "(II)I"⟩, 75), (⟨"NineMowersModel", "most", "(II)I"⟩, 75), (⟨"NineMowersModel", "strideAt", "(I)I"⟩, 75), (⟨"NineMowersModel", "strideOf", "(III)I"⟩, 75), (⟨"NineMowersModel", "hasty", "(II)I"⟩, 75), (⟨"NineMowersModel", "isPressed", "(I)Z"⟩, 75), (⟨"NineMowersModel", "gap", "()I"⟩, 75), (⟨"NineMowersModel", "lastOf", "(II)I"⟩, 75), (⟨"NineMowersModel", "fieldLong", "()I"⟩, 75), (⟨"NineMowersModel", "goMinute", "()I"⟩, 75), (⟨"NineMowersModel", "goes", "(I)Z"⟩, 75), (⟨"NineMowersModel", "least", "(II)I"⟩, 75), (⟨"NineMowersModel", "goWhet", "()V"⟩, 75), (⟨"NineMowersModel", "goPause", "(I)V"⟩, 75), (⟨"NineMowersModel", "save", "()V"⟩, 75)]
theorem lw_r4 : ∀ q ∈ lw_privs_4, lw_okq q := List.forall_mem_cons.mpr ⟨lw_p48, List.forall_mem_cons.mpr ⟨lw_p49, List.forall_mem_cons.mpr ⟨lw_p50, List.forall_mem_cons.mpr ⟨lw_p51, List.forall_mem_cons.mpr ⟨lw_p52, List.forall_mem_cons.mpr ⟨lw_p53, List.forall_mem_cons.mpr ⟨lw_p54, List.forall_mem_cons.mpr ⟨lw_p55, List.forall_mem_cons.mpr ⟨lw_p56, List.forall_mem_cons.mpr ⟨lw_p57, List.forall_mem_cons.mpr ⟨lw_p58, List.forall_mem_cons.mpr ⟨lw_p59, List.forall_mem_cons.mpr ⟨lw_p60, List.forall_mem_cons.mpr ⟨lw_p61, List.forall_mem_cons.mpr ⟨lw_p62, List.forall_mem_cons.mpr ⟨lw_p63, fun _ h => absurd h List.not_mem_nil⟩⟩⟩⟩⟩⟩⟩⟩⟩⟩⟩⟩⟩⟩⟩⟩
set_option maxRecDepth 20000 in
theorem lw_p64 : lw_okq (⟨"NineMowersModel", "goMinutes", "(I)V"⟩, 75) := ⟨nh_3, ni_3, tb_6 _ (List.mem_of_getElem? (i := 194) rfl), tb_6 _ (List.mem_of_getElem? (i := 195) rfl)⟩
set_option maxRecDepth 20000 in
theorem lw_p65 : lw_okq (⟨"NineMowersModel", "all", "()I"⟩, 75) := ⟨nh_3, ni_3, tb_6 _ (List.mem_of_getElem? (i := 198) rfl), tb_6 _ (List.mem_of_getElem? (i := 199) rfl)⟩
set_option maxRecDepth 20000 in
theorem lw_p66 : lw_okq (⟨"NineMowersModel", "putBack", "()V"⟩, 75) := ⟨nh_3, ni_3, tb_6 _ (List.mem_of_getElem? (i := 202) rfl), tb_6 _ (List.mem_of_getElem? (i := 203) rfl)⟩
set_option maxRecDepth 20000 in
theorem lw_p67 : lw_okq (⟨"NineMowersModel", "isDone", "()Z"⟩, 75) := ⟨nh_3, ni_3, tb_6 _ (List.mem_of_getElem? (i := 210) rfl), tb_6 _ (List.mem_of_getElem? (i := 211) rfl)⟩
set_option maxRecDepth 20000 in
theorem lw_p68 : lw_okq (⟨"NineMowersModel", "layOrder", "(I)Z"⟩, 75) := ⟨nh_3, ni_3, tb_6 _ (List.mem_of_getElem? (i := 218) rfl), tb_6 _ (List.mem_of_getElem? (i := 219) rfl)⟩
set_option maxRecDepth 20000 in
theorem lw_p69 : lw_okq (⟨"NineMowersModel", "has", "(II)Z"⟩, 75) := ⟨nh_3, ni_3, tb_6 _ (List.mem_of_getElem? (i := 222) rfl), tb_6 _ (List.mem_of_getElem? (i := 223) rfl)⟩
set_option maxRecDepth 20000 in
theorem lw_p70 : lw_okq (⟨"NineMowersModel", "fromTheStart", "(I)I"⟩, 75) := ⟨nh_3, ni_3, tb_6 _ (List.mem_of_getElem? (i := 226) rfl), tb_6 _ (List.mem_of_getElem? (i := 227) rfl)⟩
set_option maxRecDepth 20000 in
theorem lw_p71 : lw_okq (⟨"NineMowersModel", "whetted", "(II)I"⟩, 75) := ⟨nh_3, ni_3, tb_6 _ (List.mem_of_getElem? (i := 234) rfl), tb_6 _ (List.mem_of_getElem? (i := 235) rfl)⟩
set_option maxRecDepth 20000 in
theorem lw_p72 : lw_okq (⟨"NineMowersModel", "allBehind", "(I)I"⟩, 75) := ⟨nh_3, ni_3, tb_7 _ (List.mem_of_getElem? (i := 2) rfl), tb_7 _ (List.mem_of_getElem? (i := 3) rfl)⟩
set_option maxRecDepth 20000 in
theorem lw_p73 : lw_okq (⟨"NineMowersModel", "aloneBehind", "(II)I"⟩, 75) := ⟨nh_3, ni_3, tb_7 _ (List.mem_of_getElem? (i := 16) rfl), tb_7 _ (List.mem_of_getElem? (i := 17) rfl)⟩
set_option maxRecDepth 20000 in
theorem lw_p74 : lw_okq (⟨"NineMowersModel", "allStopped", "(III)I"⟩, 75) := ⟨nh_3, ni_3, tb_7 _ (List.mem_of_getElem? (i := 24) rfl), tb_7 _ (List.mem_of_getElem? (i := 25) rfl)⟩
set_option maxRecDepth 20000 in
theorem lw_p75 : lw_okq (⟨"NineMowersModel", "isSeen", "(II)Z"⟩, 75) := ⟨nh_3, ni_3, tb_7 _ (List.mem_of_getElem? (i := 40) rfl), tb_7 _ (List.mem_of_getElem? (i := 41) rfl)⟩
set_option maxRecDepth 20000 in
theorem lw_p76 : lw_okq (⟨"NineMowersModel", "lowest", "(III)J"⟩, 75) := ⟨nh_3, ni_3, tb_7 _ (List.mem_of_getElem? (i := 49) rfl), tb_7 _ (List.mem_of_getElem? (i := 50) rfl)⟩
set_option maxRecDepth 20000 in
theorem lw_p77 : lw_okq (⟨"NineMowersModel", "divisor", "(II)I"⟩, 75) := ⟨nh_3, ni_3, tb_7 _ (List.mem_of_getElem? (i := 53) rfl), tb_7 _ (List.mem_of_getElem? (i := 54) rfl)⟩
set_option maxRecDepth 20000 in
theorem lw_p78 : lw_okq (⟨"NineMowersModel", "isTape", "(I)Z"⟩, 75) := ⟨nh_3, ni_3, tb_7 _ (List.mem_of_getElem? (i := 81) rfl), tb_7 _ (List.mem_of_getElem? (i := 82) rfl)⟩
set_option maxRecDepth 20000 in
theorem lw_p79 : lw_okq (⟨"NineMowersModel", "mowsAct", "(II)I"⟩, 75) := ⟨nh_3, ni_3, tb_7 _ (List.mem_of_getElem? (i := 97) rfl), tb_7 _ (List.mem_of_getElem? (i := 98) rfl)⟩
noncomputable def lw_privs_5 : List (MethodName × Nat) := [(⟨"NineMowersModel", "goMinutes", "(I)V"⟩, 75), (⟨"NineMowersModel", "all", "()I"⟩, 75), (⟨"NineMowersModel", "putBack", "()V"⟩, 75), (⟨"NineMowersModel", "isDone", "()Z"⟩, 75), (⟨"NineMowersModel", "layOrder", "(I)Z"⟩, 75), (⟨"NineMowersModel", "has", "(II)Z"⟩, 75), (⟨"NineMowersModel", "fromTheStart", "(I)I"⟩, 75), (⟨"NineMowersModel", "whetted", "(II)I"⟩, 75), (⟨"NineMowersModel", "allBehind", "(I)I"⟩, 75), (⟨"NineMowersModel", "aloneBehind", "(II)I"⟩, 75), (⟨"NineMowersModel", "allStopped", "(III)I"⟩, 75), (⟨"NineMowersModel", "isSeen", "(II)Z"⟩, 75), (⟨"NineMowersModel", "lowest", "(III)J"⟩, 75), (⟨"NineMowersModel", "divisor", "(II)I"⟩, 75), (⟨"NineMowersModel", "isTape", "(I)Z"⟩, 75), (⟨"NineMowersModel", "mowsAct", "(II)I"⟩, 75)]
theorem lw_r5 : ∀ q ∈ lw_privs_5, lw_okq q := List.forall_mem_cons.mpr ⟨lw_p64, List.forall_mem_cons.mpr ⟨lw_p65, List.forall_mem_cons.mpr ⟨lw_p66, List.forall_mem_cons.mpr ⟨lw_p67, List.forall_mem_cons.mpr ⟨lw_p68, List.forall_mem_cons.mpr ⟨lw_p69, List.forall_mem_cons.mpr ⟨lw_p70, List.forall_mem_cons.mpr ⟨lw_p71, List.forall_mem_cons.mpr ⟨lw_p72, List.forall_mem_cons.mpr ⟨lw_p73, List.forall_mem_cons.mpr ⟨lw_p74, List.forall_mem_cons.mpr ⟨lw_p75, List.forall_mem_cons.mpr ⟨lw_p76, List.forall_mem_cons.mpr ⟨lw_p77, List.forall_mem_cons.mpr ⟨lw_p78, List.forall_mem_cons.mpr ⟨lw_p79, fun _ h => absurd h List.not_mem_nil⟩⟩⟩⟩⟩⟩⟩⟩⟩⟩⟩⟩⟩⟩⟩⟩
set_option maxRecDepth 20000 in
theorem lw_p80 : lw_okq (⟨"NineMowersModel", "body", "(I)V"⟩, 75) := ⟨nh_3, ni_3, tb_7 _ (List.mem_of_getElem? (i := 101) rfl), tb_7 _ (List.mem_of_getElem? (i := 102) rfl)⟩
set_option maxRecDepth 20000 in
theorem lw_p81 : lw_okq (⟨"NineMowersModel", "mowerMows", "(II)I"⟩, 75) := ⟨nh_3, ni_3, tb_7 _ (List.mem_of_getElem? (i := 105) rfl), tb_7 _ (List.mem_of_getElem? (i := 106) rfl)⟩
set_option maxRecDepth 20000 in
theorem lw_p82 : lw_okq (⟨"NineMowersModel", "whetsAct", "(II)I"⟩, 75) := ⟨nh_3, ni_3, tb_7 _ (List.mem_of_getElem? (i := 109) rfl), tb_7 _ (List.mem_of_getElem? (i := 110) rfl)⟩
set_option maxRecDepth 20000 in
theorem lw_p83 : lw_okq (⟨"NineMowersModel", "steadyWhets", "(II)I"⟩, 75) := ⟨nh_3, ni_3, tb_7 _ (List.mem_of_getElem? (i := 113) rfl), tb_7 _ (List.mem_of_getElem? (i := 114) rfl)⟩
set_option maxRecDepth 20000 in
theorem lw_p84 : lw_okq (⟨"NineMowersModel", "mowerWhets", "(II)I"⟩, 75) := ⟨nh_3, ni_3, tb_7 _ (List.mem_of_getElem? (i := 117) rfl), tb_7 _ (List.mem_of_getElem? (i := 118) rfl)⟩
set_option maxRecDepth 20000 in
theorem lw_p85 : lw_okq (⟨"NineMowersModel", "tellsAct", "(II)I"⟩, 75) := ⟨nh_3, ni_3, tb_7 _ (List.mem_of_getElem? (i := 121) rfl), tb_7 _ (List.mem_of_getElem? (i := 122) rfl)⟩
set_option maxRecDepth 20000 in
theorem lw_p86 : lw_okq (⟨"NineMowersModel", "mowerTells", "(II)I"⟩, 75) := ⟨nh_3, ni_3, tb_7 _ (List.mem_of_getElem? (i := 125) rfl), tb_7 _ (List.mem_of_getElem? (i := 126) rfl)⟩
set_option maxRecDepth 20000 in
theorem lw_p87 : lw_okq (⟨"NineMowersModel", "narrow", "(IJ)J"⟩, 75) := ⟨nh_3, ni_3, tb_7 _ (List.mem_of_getElem? (i := 149) rfl), tb_7 _ (List.mem_of_getElem? (i := 150) rfl)⟩
noncomputable def lw_privs_6 : List (MethodName × Nat) := [(⟨"NineMowersModel", "body", "(I)V"⟩, 75), (⟨"NineMowersModel", "mowerMows", "(II)I"⟩, 75), (⟨"NineMowersModel", "whetsAct", "(II)I"⟩, 75), (⟨"NineMowersModel", "steadyWhets", "(II)I"⟩, 75), (⟨"NineMowersModel", "mowerWhets", "(II)I"⟩, 75), (⟨"NineMowersModel", "tellsAct", "(II)I"⟩, 75), (⟨"NineMowersModel", "mowerTells", "(II)I"⟩, 75), (⟨"NineMowersModel", "narrow", "(IJ)J"⟩, 75)]
theorem lw_r6 : ∀ q ∈ lw_privs_6, lw_okq q := List.forall_mem_cons.mpr ⟨lw_p80, List.forall_mem_cons.mpr ⟨lw_p81, List.forall_mem_cons.mpr ⟨lw_p82, List.forall_mem_cons.mpr ⟨lw_p83, List.forall_mem_cons.mpr ⟨lw_p84, List.forall_mem_cons.mpr ⟨lw_p85, List.forall_mem_cons.mpr ⟨lw_p86, List.forall_mem_cons.mpr ⟨lw_p87, fun _ h => absurd h List.not_mem_nil⟩⟩⟩⟩⟩⟩⟩⟩
noncomputable def lw_privs : List (MethodName × Nat) := lw_privs_1 ++ (lw_privs_2 ++ (lw_privs_3 ++ (lw_privs_4 ++ (lw_privs_5 ++ (lw_privs_6)))))
noncomputable def lw_tbl : List Cond := k2_sels lw_privs ++ tables_1
theorem lw_privs_ok : ∀ q ∈ lw_privs, lw_okq q := by
  show ∀ q ∈ lw_privs_1 ++ (lw_privs_2 ++ (lw_privs_3 ++ (lw_privs_4 ++ (lw_privs_5 ++ (lw_privs_6))))), lw_okq q
  exact List.forall_mem_append.mpr ⟨lw_r1, List.forall_mem_append.mpr ⟨lw_r2, List.forall_mem_append.mpr ⟨lw_r3, List.forall_mem_append.mpr ⟨lw_r4, List.forall_mem_append.mpr ⟨lw_r5, lw_r6⟩⟩⟩⟩⟩
