/-! words that the printed lists lack: calls of a body from further above -/
noncomputable def wsLk : List Cond := [.methodLink RX6 23 ⟨RX8, "mowing", "(ILNineMowers$Numbers;)I"⟩, .sameMethod RX8 RX4 "mowing" "(ILNineMowers$Numbers;)I", .superclass RX6 RX8, .superclass RX8 RX4, .instanceMethod yX4_mowing, .methodLink RX10 36 ⟨RX0, "mowing", "(ILNineMowers$Numbers;)I"⟩, .sameMethod RX0 RX4 "mowing" "(ILNineMowers$Numbers;)I", .superclass RX10 RX0, .superclass RX0 RX4, .methodLink RX10 32 ⟨RX0, "whetting", "(ILNineMowers$Numbers;)I"⟩, .sameMethod RX0 RX4 "whetting" "(ILNineMowers$Numbers;)I", .instanceMethod yX4_whetting, .methodLink RX7 29 ⟨RX3, "telling", "(ILNineMowers$Numbers;)I"⟩, .sameMethod RX3 RX4 "telling" "(ILNineMowers$Numbers;)I", .superclass RX7 RX3, .superclass RX3 RX4, .instanceMethod yX4_telling, .initialized RX4]
noncomputable def wsAct : List Cond := wsLk ++ (wsX4_mowing ++ (wsX4_whetting ++ wsX4_telling))
noncomputable def wsX0_tellinge : List Cond := wsX0_telling ++ wsAct
noncomputable def wsX10_mowinge : List Cond := wsX10_mowing ++ wsAct
noncomputable def wsX10_whettinge : List Cond := wsX10_whetting ++ wsAct
noncomputable def wsX11_acte : List Cond := wsX11_act ++ wsAct
noncomputable def wsX3_mowinge : List Cond := wsX3_mowing ++ wsAct
noncomputable def wsX4_mowinge : List Cond := wsX4_mowing ++ wsAct
noncomputable def wsX4_tellinge : List Cond := wsX4_telling ++ wsAct
noncomputable def wsX4_whettinge : List Cond := wsX4_whetting ++ wsAct
noncomputable def wsX6_mowinge : List Cond := wsX6_mowing ++ wsAct
noncomputable def wsX6_whettinge : List Cond := wsX6_whetting ++ wsAct
noncomputable def wsX7_tellinge : List Cond := wsX7_telling ++ wsAct
noncomputable def wsX8_whettinge : List Cond := wsX8_whetting ++ wsAct
theorem act_good : ∀ w ∈ wsAct, goodWord w = true := List.all_eq_true.mp (by decide +kernel)
theorem wsV_app (own : String) (idx : Nat) (C : String) (y : MethodName) (ws A : List Cond) : wsV own idx C y (ws ++ A) = wsV own idx C y ws ++ A := (List.append_assoc _ ws A).symm
theorem wsU_app (own : String) (idx : Nat) (C o : String) (x y : MethodName) (ws A : List Cond) : va_wsU own idx C o x y (ws ++ A) = va_wsU own idx C o x y ws ++ A := (List.append_assoc _ ws A).symm
theorem wsO_app (own : String) (idx : Nat) (C o : String) (x y : MethodName) (ws A : List Cond) : va_wsO own idx C o x y (ws ++ A) = va_wsO own idx C o x y ws ++ A := (List.append_assoc _ ws A).symm
theorem wsSU_app (own : String) (idx : Nat) (y : MethodName) (ws A : List Cond) : va_wsSU own idx y (ws ++ A) = va_wsSU own idx y ws ++ A := (List.append_assoc _ ws A).symm
theorem good_l {T A ws : List Cond} (h : GoodIn T ws) : GoodIn (T ++ A) ws := fun w hw => ⟨List.mem_append_left _ (h w hw).1, (h w hw).2⟩
theorem good_b {T ws : List Cond} (h : GoodIn T ws) : GoodIn (T ++ wsAct) (ws ++ wsAct) := goodIn_app (good_l h) (fun w hw => ⟨List.mem_append_right _ hw, good_of_word (act_good w hw)⟩)
theorem FA_ml {own : String} {T A : List Cond} {idx ci k : Nat} {rn : String} (h : FA own T idx ci k rn) : FA own (T ++ A) idx ci k rn := by
  unfold FA at h ⊢
  split at h
  · obtain ⟨h1, h2, h3, h4⟩ := h
    exact ⟨h1, fun w hw => List.mem_append_left _ (h2 w hw), List.mem_append_left _ h3, h4.elim Or.inl (fun h => Or.inr (List.mem_append_left _ h))⟩
  · exact h
theorem PA_ml {own : String} {T A : List Cond} {idx ci k : Nat} {rn : String} {ty : FieldType} (h : PA own T idx ci k rn ty) : PA own (T ++ A) idx ci k rn ty := by
  unfold PA at h ⊢
  split at h
  · obtain ⟨h1, h2, h3, h4⟩ := h
    exact ⟨h1, fun w hw => List.mem_append_left _ (h2 w hw), List.mem_append_left _ h3, h4⟩
  · exact h
theorem KV_ml {own : String} {T A : List Cond} {rm : Room} {idx : Nat} {Cn : String} {y : MethodName} {ws : List Cond} {rc : Room} {n : Nat} (h : KV own T rm idx Cn y ws rc n) : KV own (T ++ A) rm idx Cn y ws rc n := by
  obtain ⟨b, m, r, w', h1, h2⟩ := h
  exact ⟨b, m, r, w', good_l h1, h2⟩
theorem KV_mb {own : String} {T : List Cond} {rm : Room} {idx : Nat} {Cn : String} {y : MethodName} {ws : List Cond} {rc : Room} {n : Nat} (h : KV own T rm idx Cn y ws rc n) : KV own (T ++ wsAct) rm idx Cn y (ws ++ wsAct) rc n := by
  obtain ⟨b, m, r, w', h1, h2, h3⟩ := h
  exact ⟨b, m, r, w' ++ wsAct, by rw [wsV_app]; exact good_b h1, by rw [h2]; rfl, h3⟩
theorem KU_mb {own : String} {T : List Cond} {rm : Room} {idx : Nat} {Cn : String} {y : MethodName} {ws : List Cond} {rc : Room} {n : Nat} (h : KU own T rm idx Cn y ws rc n) : KU own (T ++ wsAct) rm idx Cn y (ws ++ wsAct) rc n := by
  obtain ⟨b, m, r, w', ow, x, h1, h2, h3⟩ := h
  refine ⟨b, m, r, w' ++ wsAct, ow, x, ?_, by rw [h2]; rfl, h3⟩
  rcases h1 with ⟨g, e⟩ | ⟨g, b0, m0, r0, e⟩
  · exact Or.inl ⟨by rw [wsU_app]; exact good_b g, e⟩
  · exact Or.inr ⟨by rw [wsO_app]; exact good_b g, b0, m0, r0, List.mem_append_left _ e⟩
theorem KSU_mb {own : String} {T : List Cond} {rm : Room} {idx : Nat} {y : MethodName} {ws : List Cond} {rc : Room} {n : Nat} (h : KSU own T rm idx y ws rc n) : KSU own (T ++ wsAct) rm idx y (ws ++ wsAct) rc n := by
  obtain ⟨b, m, r, w', h1, h2, h3⟩ := h
  exact ⟨b, m, r, w' ++ wsAct, by rw [wsSU_app]; exact good_b h1, by rw [h2]; rfl, h3⟩
noncomputable def wsSI (own : String) (idx : Nat) (x : MethodName) (C : String) (y : MethodName) (ws : List Cond) : List Cond := ([.methodLink own idx x, .sameMethod x.cls C x.name x.desc, .superclass own x.cls, .superclass x.cls C, .instanceMethod y, .initialized C] : List Cond) ++ ws
theorem act_4 {ws : List Cond} (h : ∀ w ∈ ws, w ∈ wsAct) (T : List Cond) : GoodIn (T ++ wsAct) (ws ++ wsAct) := fun w hw => by
  have h1 : w ∈ wsAct := (List.mem_append.mp hw).elim (h w) id
  exact ⟨List.mem_append_right _ h1, good_of_word (act_good w h1)⟩
theorem act_k {ws : List Cond} (h : ∀ w ∈ ws, w ∈ wsLk) (T : List Cond) : GoodIn (T ++ wsAct) ws := fun w hw => by
  have h1 : w ∈ wsAct := List.mem_append_left _ (h w hw)
  exact ⟨List.mem_append_right _ h1, good_of_word (act_good w h1)⟩
theorem act_m : ∀ w ∈ wsX4_mowing, w ∈ wsAct := fun _ h => List.mem_append_right _ (List.mem_append_left _ h)
theorem act_w : ∀ w ∈ wsX4_whetting, w ∈ wsAct := fun _ h => List.mem_append_right _ (List.mem_append_right _ (List.mem_append_left _ h))
theorem act_t : ∀ w ∈ wsX4_telling, w ∈ wsAct := fun _ h => List.mem_append_right _ (List.mem_append_right _ (List.mem_append_right _ h))
theorem gsi_X6_mowing_23 : GoodIn wsX6_mowinge (wsSI RX6 23 ⟨RX8, "mowing", "(ILNineMowers$Numbers;)I"⟩ RX4 yX4_mowing wsX4_mowinge) := goodIn_app (act_k (by
  intro w hw
  simp only [List.mem_cons, List.not_mem_nil, or_false] at hw
  rcases hw with rfl | rfl | rfl | rfl | rfl | rfl
  · exact List.mem_of_getElem? (i := 0) rfl
  · exact List.mem_of_getElem? (i := 1) rfl
  · exact List.mem_of_getElem? (i := 2) rfl
  · exact List.mem_of_getElem? (i := 3) rfl
  · exact List.mem_of_getElem? (i := 4) rfl
  · exact List.mem_of_getElem? (i := 17) rfl) wsX6_mowing) (act_4 act_m wsX6_mowing)
theorem gsi_X10_mowing_36 : GoodIn wsX10_mowinge (wsSI RX10 36 ⟨RX0, "mowing", "(ILNineMowers$Numbers;)I"⟩ RX4 yX4_mowing wsX4_mowinge) := goodIn_app (act_k (by
  intro w hw
  simp only [List.mem_cons, List.not_mem_nil, or_false] at hw
  rcases hw with rfl | rfl | rfl | rfl | rfl | rfl
  · exact List.mem_of_getElem? (i := 5) rfl
  · exact List.mem_of_getElem? (i := 6) rfl
  · exact List.mem_of_getElem? (i := 7) rfl
  · exact List.mem_of_getElem? (i := 8) rfl
  · exact List.mem_of_getElem? (i := 4) rfl
  · exact List.mem_of_getElem? (i := 17) rfl) wsX10_mowing) (act_4 act_m wsX10_mowing)
theorem gsi_X10_whetting_36 : GoodIn wsX10_whettinge (wsSI RX10 36 ⟨RX0, "mowing", "(ILNineMowers$Numbers;)I"⟩ RX4 yX4_mowing wsX4_mowinge) := goodIn_app (act_k (by
  intro w hw
  simp only [List.mem_cons, List.not_mem_nil, or_false] at hw
  rcases hw with rfl | rfl | rfl | rfl | rfl | rfl
  · exact List.mem_of_getElem? (i := 5) rfl
  · exact List.mem_of_getElem? (i := 6) rfl
  · exact List.mem_of_getElem? (i := 7) rfl
  · exact List.mem_of_getElem? (i := 8) rfl
  · exact List.mem_of_getElem? (i := 4) rfl
  · exact List.mem_of_getElem? (i := 17) rfl) wsX10_whetting) (act_4 act_m wsX10_whetting)
theorem gsi_X10_whetting_32 : GoodIn wsX10_whettinge (wsSI RX10 32 ⟨RX0, "whetting", "(ILNineMowers$Numbers;)I"⟩ RX4 yX4_whetting wsX4_whettinge) := goodIn_app (act_k (by
  intro w hw
  simp only [List.mem_cons, List.not_mem_nil, or_false] at hw
  rcases hw with rfl | rfl | rfl | rfl | rfl | rfl
  · exact List.mem_of_getElem? (i := 9) rfl
  · exact List.mem_of_getElem? (i := 10) rfl
  · exact List.mem_of_getElem? (i := 7) rfl
  · exact List.mem_of_getElem? (i := 8) rfl
  · exact List.mem_of_getElem? (i := 11) rfl
  · exact List.mem_of_getElem? (i := 17) rfl) wsX10_whetting) (act_4 act_w wsX10_whetting)
theorem gsi_X7_telling_29 : GoodIn wsX7_tellinge (wsSI RX7 29 ⟨RX3, "telling", "(ILNineMowers$Numbers;)I"⟩ RX4 yX4_telling wsX4_tellinge) := goodIn_app (act_k (by
  intro w hw
  simp only [List.mem_cons, List.not_mem_nil, or_false] at hw
  rcases hw with rfl | rfl | rfl | rfl | rfl | rfl
  · exact List.mem_of_getElem? (i := 12) rfl
  · exact List.mem_of_getElem? (i := 13) rfl
  · exact List.mem_of_getElem? (i := 14) rfl
  · exact List.mem_of_getElem? (i := 15) rfl
  · exact List.mem_of_getElem? (i := 16) rfl
  · exact List.mem_of_getElem? (i := 17) rfl) wsX7_telling) (act_4 act_t wsX7_telling)
/-- a call of a body from further above, of the same object -/
noncomputable def KSI (own : String) (Ts : List Cond) (rm : Room) (idx : Nat) (x : MethodName) (C : String) (y : MethodName) (ws : List Cond) (rc : Room) (n : Nat) : Prop :=
  ∃ (bytes : ByteArray) (maxL : Nat) (rt : Option FieldType) (ws' : List Cond), GoodIn Ts (wsSI own idx x C y ws) ∧ ws = Cond.code y bytes maxL rt :: ws' ∧ (y = ⟨C, x.name, x.desc⟩ ∧ y.name ≠ "<init>" ∧ (parseMethodDescriptor y.desc).map (fun d => d.parameters.length) = some n) ∧ (rc.frames + 1 ≤ rm.frames ∧ 8 + (maxL + 11) + rc.locals ≤ rm.locals)
section Rules4
variable {M : Mx} {cc : ByteArray} {ret : Option FieldType} {own : String} {Ts : List Cond} {rm rc : Room} {mc ms : Nat} {Qc Qm : Array Value → State → Outcome → State → Prop} {pc : Nat} {lv lv' : List (Nat × Value)} {st : List Value} {σ : Sg} {kn : Nat × Nat} {idx n b ci z : Nat} {x y : MethodName} {ws : List Cond} {As : List Value} {Cn Cy : String} {T : u_T} {N : Nat}
theorem R_si (C : Cx M cc ret own Ts rm mc ms Qc) (k : KSI own Ts rm idx x Cy y ws rc n) (hn : As.length = n) (hk : kd b = (10 + ci, z)) (hcl : vwCl[ci]? = some (Cn, T, N)) (hi : b ∈ ids (mV M)) (hst : (st.map fun v => v.category).sum ≤ 8) (hd : decode cc pc = .ok (.invokespecial idx, 3)) (hf : kn.1 + rc.cells ≤ rm.cells ∧ kn.2 + rc.slots ≤ rm.slots)
    (hM : Ka (mL M) (mV M) y ws rc rc.cells rc.slots (.ref b :: As) σ Qm) : RS M pc lv (As.reverse ++ .ref b :: st) st σ kn rc.cells rc.slots (Qm ((.ref b :: As).map (cv (mV M))).toArray) := by
  obtain ⟨p, l, e, R, s, m, args, below, meth, c, V, nL, Q⟩ := M
  intro ls H locs hl hG hS
  obtain ⟨hx, hb, hml, hown, hts, hr, hlk, hK, rfl, rfl, hw, hX⟩ := C
  obtain ⟨bytes, maxL, rt, ws', k1, k2, ⟨ky, k3, k3'⟩, k4⟩ := k
  obtain ⟨q0, hq⟩ := cell_at (V := V) (σ := σ) hi
  rw [ct_o hk] at hq
  rw [map_stk]
  have ok : ∀ w ∈ wsSI own idx x Cy y ws, w.before args s = true := fun w h => hts w (k1 w h).1
  have hGo : GoodIn Ts ws := fun w h => k1 w (List.mem_append_right _ h)
  have hcm : Cond.code y bytes maxL rt ∈ ws := by rw [k2]; exact List.mem_cons_self
  have hl1 := ok _ (List.mem_of_getElem? (i := 0) rfl)
  have hl2 := ok _ (List.mem_of_getElem? (i := 1) rfl)
  have hl3 := ok _ (List.mem_of_getElem? (i := 2) rfl)
  have hl4 := ok _ (List.mem_of_getElem? (i := 3) rfl)
  have hl5 := ok _ (List.mem_of_getElem? (i := 4) rfl)
  have hl6 := ok _ (List.mem_of_getElem? (i := 5) rfl)
  have hcode := hts _ (hGo _ hcm).1
  have hcy : y.cls = Cy := by rw [ky]
  have hws : ∀ w ∈ ws, ∀ (a' : Array Value) (U : State), s.WarmedH U.vm → w.before a' U = true := pay_in hts hGo
  have hBk : Back l R p e below s args y 3 8 (PreOf R rc.cells rc.slots (va_Pc ((.ref b :: As).map (cv V)) (fun U => GG V σ U))) (PostOf Qm rc.cells rc.slots (vA V)) := back_of (bytes := bytes) (maxL := maxL) (ret := rt) hM GGblind rfl rfl k4.1 k4.2 hws hcm (fun a' U hW => word_at hW (Or.inl (by first | rfl | simp [Cond.onTables, Cond.keeps, Cond.steady])) (by rw [hcy]; exact hl6))
  obtain ⟨cellB, hcB, hoB, hclB⟩ := va_recv hK hG.1 hcl hq
  obtain ⟨hfc, kB, hkB, -⟩ := (hK.1 ci _ hcl).2
  have hcc := Option.some.inj (hclB.symm.trans hfc)
  have hkB : s.vm.classes[cellB.cls]? = some kB := by rw [hcc]; exact hkB
  obtain ⟨mk, methM, hnamed, hmethM, hstM, habM⟩ := Cond.instanceMethod_spec hl5
  obtain ⟨methM', cM, hmethM', -, -, -, -, -, -, hsigM⟩ := Cond.code_spec hnamed hcode
  cases hmethM.symm.trans hmethM'
  obtain ⟨ps, dk, kp, hps, hdk, hkp, hsuper, -, -, hnid⟩ := Cond.superclass_spec hown hl3
  obtain ⟨p2, k2', kp2, hp2, hk2, hkp2, hsuper2, -, -, -⟩ := Cond.superclass_spec hps hl4
  have hn : s.methodNamed? ⟨Cy, x.name, x.desc⟩ = some mk := by rw [← ky]; exact hnamed
  have hpm : p2 = mk.cls := Option.some.inj (hp2.symm.trans (findClass_of_methodNamed hn))
  have hsz : 0 < s.vm.classes.size := Nat.lt_of_le_of_lt (Nat.zero_le _) (Array.getElem?_eq_some_iff.mp hk2).1
  have hsub : s.vm.isSubclass ps mk.cls = true := by
    rw [← hpm]
    unfold Vm.isSubclass
    obtain ⟨j, hj⟩ : ∃ j, s.vm.classes.size = j + 1 := ⟨s.vm.classes.size - 1, by omega⟩
    rw [hj]
    simp [Vm.isSubclassAux, hk2, hsuper2]
  have hlen : ∀ sig, parseMethodDescriptor y.desc = some sig → (As.map (cv V)).length = sig.parameters.length := fun sig h => by
    rw [h] at k3'
    rw [List.length_map, (by assumption : As.length = n)]
    exact (Option.some.inj k3').symm
  intro Tt hT X
  obtain ⟨vm₁, X₁, hstep₁⟩ := X.invokespecialUp hx hown hl1 hl2 hn hmethM hstM habM (by rw [ky] at k3; exact k3) hdk hnid hps hsuper hsub (a := va V b) (cell := cellB) (by rw [hT]; exact hcB)
    (fun z h => by rw [h] at hoB; cases hoB) hkB (g := F0 m pc ls ((As.map (cv V)).reverse ++ .ref (va V b) :: st.map (cv V))) rfl (argsL := As.map (cv V)) (rest := st.map (cv V)) (hlen _ hsigM) rfl (by rw [hb]; exact hd)
  obtain ⟨v, B, X', hpost, hsteps⟩ := hBk m meth c ⟨Tt.setVm vm₁, locs, _, _⟩ { F0 m pc ls ((As.map (cv V)).reverse ++ .ref (va V b) :: st.map (cv V)) with stack := st.map (cv V) } (.invokespecial idx) mk (Value.ref (va V b) :: As.map (cv V)).toArray X₁ rfl (hl.1.trans hml.symm) (by rw [hb]; exact hd) (cat_sum hst) (X₁.named hnamed) ⟨hf.1, hf.2, rfl, GG_mk hT hG hK hX hS X₁.warmed⟩
  obtain ⟨U', l2, c2, s2⟩ := B
  obtain ⟨g', mk', t, L, e1, e2, hq, h1, hL, h2, h3⟩ := hpost
  dsimp only [Pt.U, Pt.locs, Pt.cells, Pt.slots] at X' e1 e2 h1 h2 h3 hsteps
  subst h1; subst h2; subst h3
  exact ⟨v, (Tt.setVm vm₁).calling g' mk' (Value.ref (va V b) :: As.map (cv V)).toArray, t, U', L, hT, X', hL, e1, e2, hq, fun target h => hstep₁ _ (by rw [doInvoke_state]; exact hsteps.trans h)⟩
/-! texts -/
theorem P_ldcS (C : Cx M cc ret RX2 Ts rm mc ms Qc) {i : Nat} (hi : i < 8) (he : jIdx.getD i 0 = idx) (hd : decode cc pc = .ok (.ldc idx, 2)) (h : PS M (pc + 2) lv (.ref (200 + i) :: st) σ kn) : PS M pc lv st σ kn := by
  obtain ⟨p, l, e, R, s, m, args, below, meth, c, V, nL, Q⟩ := M
  intro ls H locs hl hG hS
  obtain ⟨hx, hb, hml, hown, hts, hr, hlk, hK, rfl, rfl, hw, hX⟩ := C
  have hSX := (hX.2.2 s hX.1).2
  have h1 := hSX.2.1 i hi
  rw [he] at h1
  exact va_ldcS hx hb hown h1 hd (h ls H locs hl hG hS)
theorem P_sval (C : Cx M cc ret own Ts rm mc ms Qc) {i : Nat} (hi : i < 8) (hlk : Cond.fieldLink own idx "java/lang/String" "value" "[B" ∈ Ts) (hd : decode cc pc = .ok (.getfield idx, 3)) (h : PS M (pc + 3) lv (.ref (300 + i) :: st) σ kn) : PS M pc lv (.ref (200 + i) :: st) σ kn := by
  obtain ⟨p, l, e, R, s, m, args, below, meth, c, V, nL, Q⟩ := M
  intro ls H locs hl hG hS
  have hk := hlk
  obtain ⟨hx, hb, hml, hown, hts, hr, hlk, hK, rfl, rfl, hw, hX⟩ := C
  have hSX := (hX.2.2 s hX.1).2
  exact vk_getf hx hb (hSX.1.1 i hi).2.2.1 hS hown (hts _ hk) (fun _ h => h) hd (h ls H locs hl hG hS)
theorem P_scod (C : Cx M cc ret own Ts rm mc ms Qc) {i : Nat} (hi : i < 8) (hlk : Cond.fieldLink own idx "java/lang/String" "coder" "B" ∈ Ts) (hd : decode cc pc = .ok (.getfield idx, 3)) (h : PS M (pc + 3) lv (.int 0 :: st) σ kn) : PS M pc lv (.ref (200 + i) :: st) σ kn := by
  obtain ⟨p, l, e, R, s, m, args, below, meth, c, V, nL, Q⟩ := M
  intro ls H locs hl hG hS
  have hk := hlk
  obtain ⟨hx, hb, hml, hown, hts, hr, hlk, hK, rfl, rfl, hw, hX⟩ := C
  have hSX := (hX.2.2 s hX.1).2
  exact vk_getf hx hb (hSX.1.1 i hi).2.1 hS hown (hts _ hk) (fun _ h => h) hd (h ls H locs hl hG hS)
theorem P_gstZ (C : Cx M cc ret own Ts rm mc ms Qc) (hlk : Cond.fieldLink own idx "java/lang/String" "COMPACT_STRINGS" "Z" ∈ Ts) (hd : decode cc pc = .ok (.getstatic idx, 3)) (h : PS M (pc + 3) lv (.int 1 :: st) σ kn) : PS M pc lv st σ kn := by
  obtain ⟨p, l, e, R, s, m, args, below, meth, c, V, nL, Q⟩ := M
  intro ls H locs hl hG hS
  have hk := hlk
  obtain ⟨hx, hb, hml, hown, hts, hr, hlk, hK, rfl, rfl, hw, hX⟩ := C
  have hSX := (hX.2.2 s hX.1).2
  exact va_gets hx hb hSX.2.2.1 hS hown (hts _ hk) (fun _ h => h) hd (h ls H locs hl hG hS)
theorem P_gstQ (C : Cx M cc ret own Ts rm mc ms Qc) (hlk : Cond.fieldLink own idx "jdk/internal/util/Preconditions" "SIOOBE_FORMATTER" "Ljava/util/function/BiFunction;" ∈ Ts) (hd : decode cc pc = .ok (.getstatic idx, 3)) (h : ∀ w : Value, (w = .null ∨ w = .ref 400) → PS M (pc + 3) lv (w :: st) σ kn) : PS M pc lv st σ kn := by
  obtain ⟨p, l, e, R, s, m, args, below, meth, c, V, nL, Q⟩ := M
  intro ls H locs hl hG hS
  have hk := hlk
  obtain ⟨hx, hb, hml, hown, hts, hr, hlk, hK, rfl, rfl, hw, hX⟩ := C
  have hSX := (hX.2.2 s hX.1).2
  rcases hSX.2.2.2 with hz | hz
  · exact va_gets hx hb hz hS hown (hts _ hk) (fun _ h => h) hd (h .null (Or.inl rfl) ls H locs hl hG hS)
  · exact va_gets hx hb hz hS hown (hts _ hk) (fun _ h => h) hd (h (.ref 400) (Or.inr rfl) ls H locs hl hG hS)
theorem P_slen (C : Cx M cc ret own Ts rm mc ms Qc) {i : Nat} (hi : i < 8) (hd : decode cc pc = .ok (.arraylength, 1)) (h : PS M (pc + 1) lv (.int (nI (slen i)) :: st) σ kn) : PS M pc lv (.ref (300 + i) :: st) σ kn := by
  obtain ⟨p, l, e, R, s, m, args, below, meth, c, V, nL, Q⟩ := M
  intro ls H locs hl hG hS
  obtain ⟨hx, hb, hml, hown, hts, hr, hlk, hK, rfl, rfl, hw, hX⟩ := C
  have hSX := (hX.2.2 s hX.1).2
  exact va_tlen hx hb (hSX.1.1 i hi).2.2.2 hS (v := nI (slen i)) rfl hd (h ls H locs hl hG hS)
theorem P_sald (C : Cx M cc ret own Ts rm mc ms Qc) {i : Nat} {k : Int32} (hi : i < 8) (hv : vp_in k (slen i)) (hd : decode cc pc = .ok (.baload, 1)) (h : PS M (pc + 1) lv (.int (sby i k.toNatClampNeg) :: st) σ kn) : PS M pc lv (.int k :: .ref (300 + i) :: st) σ kn := by
  obtain ⟨p, l, e, R, s, m, args, below, meth, c, V, nL, Q⟩ := M
  intro ls H locs hl hG hS
  obtain ⟨hx, hb, hml, hown, hts, hr, hlk, hK, rfl, rfl, hw, hX⟩ := C
  have hSX := (hX.2.2 s hX.1).2
  exact va_tb hx hb (hSX.1.1 i hi).2.2.2 hS hv (v := .int (sby i k.toNatClampNeg)) rfl hd (h ls H locs hl hG hS)
theorem R_vs (C : Cx M cc ret own Ts rm mc ms Qc) {i : Nat} (k : KV own Ts rm idx "java/lang/String" y ws rc n) (hn : As.length = n) (hi : i < 8) (hst : (st.map fun v => v.category).sum ≤ 8) (hd : decode cc pc = .ok (.invokevirtual idx, 3)) (hf : kn.1 + rc.cells ≤ rm.cells ∧ kn.2 + rc.slots ≤ rm.slots)
    (hM : Ka (mL M) (mV M) y ws rc rc.cells rc.slots (.ref (200 + i) :: As) σ Qm) : RS M pc lv (As.reverse ++ .ref (200 + i) :: st) st σ kn rc.cells rc.slots (Qm ((.ref (200 + i) :: As).map (cv (mV M))).toArray) := by
  obtain ⟨p, l, e, R, s, m, args, below, meth, c, V, nL, Q⟩ := M
  intro ls H locs hl hG hS
  obtain ⟨hx, hb, hml, hown, hts, hr, hlk, hK, rfl, rfl, hw, hX⟩ := C
  obtain ⟨bytes, maxL, rt, ws', k1, k2, k3, k4⟩ := k
  have hSX := (hX.2.2 s hX.1).2
  rw [map_stk]
  exact va_runV (As := As.map (cv V)) (b := va V (200 + i)) ⟨hx, hb, hml, hown, hts⟩ hM (cwV n hts k1 k2 rfl rfl k3 k4) ⟨GGblind, vk_recv (adK := fun i => va V (200 + i)) (i := i) hSX.1 hi hS, fun U hU hW => ⟨rfl, GG_mk hU hG hK hX hS hW⟩⟩ rfl (by rw [List.length_map]; exact hn) hl.1 rfl (cat_sum hst) hd hf
end Rules4
noncomputable def K_J0_checkIndex_df160 (l : Launch) (V : Vx) (i n : Int32) (σ : Sg) (Qk : Sg → Prop) : Prop := Ka l V yJ0_checkIndex_df160 wsJ0_checkIndex_df160 (rmz 1) 0 0 [.int i, .int n] σ (QV V Qk)
set_option maxHeartbeats 4000000 in
theorem k_J3_checkIndex {l : Launch} {V : Vx} {i n : Int32} {w : Value} (hw : w = .null ∨ w = .ref 400) {σ : Sg} {Qk : Int32 → Sg → Prop} (h0 : ¬ i < 0) (h1 : i < n) (h : Qk i σ) : Ka l V yJ3_checkIndex_8e157 wsJ3_checkIndex_8e157 (rmz 0) 0 0 [.int i, .int n, w] σ (QI V Qk) := by
  rcases hw with rfl | rfl
  all_goals
    refine Ka_of (own := RJ3) (by decide +kernel) rfl rfl (Nat.le_of_ble_eq_true rfl) (fun M hl hV hN C => ?_)
    subst hV
    refine P_iload_n C dJ3_checkIndex_8e157_0 0 rfl ?_
    refine P_if_lt C dJ3_checkIndex_8e157_1 (tgt := 9) (by decide) (fun q => absurd q h0) (fun _ => ?_)
    refine P_iload_n C dJ3_checkIndex_8e157_4 0 rfl ?_
    refine P_iload_n C dJ3_checkIndex_8e157_5 1 rfl ?_
    refine P_icmp_lt C dJ3_checkIndex_8e157_6 (tgt := 16) (by decide) (fun _ => ?_) (fun q => absurd h1 q)
    refine P_iload_n C dJ3_checkIndex_8e157_16 0 rfl ?_
    exact P_iret C dJ3_checkIndex_8e157_17 h
theorem kf_J0_checkIndex : KF RJ0 wsJ0_checkIndex_df160 (rmz 1) 1059 yJ3_checkIndex_8e157 wsJ3_checkIndex_8e157 (rmz 0) 3 := ⟨_, _, _, _, gJ0_checkIndex_df160_J3_checkIndex_8e157, rfl, by decide +kernel, by decide⟩
set_option maxHeartbeats 4000000 in
theorem k_J0_checkIndex {l : Launch} {V : Vx} {i n : Int32} {σ : Sg} {Qk : Sg → Prop} (h0 : ¬ i < 0) (h1 : i < n) (h : Qk σ) : K_J0_checkIndex_df160 l V i n σ Qk := by
  refine Ka_of (own := RJ0) (by decide +kernel) rfl rfl (Nat.le_of_ble_eq_true rfl) (fun M hl hV hN C => ?_)
  subst hl
  subst hV
  refine P_iload_n C dJ0_checkIndex_df160_0 0 rfl ?_
  refine P_iload_n C dJ0_checkIndex_df160_1 1 rfl ?_
  refine P_gstQ C (List.mem_of_getElem? (i := 1) rfl) dJ0_checkIndex_df160_2 (fun w hw => ?_)
  refine P_ci (R_f C kf_J0_checkIndex (As := [.int i, .int n, w]) rfl (Nat.le_of_ble_eq_true rfl) dJ0_checkIndex_df160_5 ⟨Nat.le_refl _, Nat.le_refl _⟩ (k_J3_checkIndex (Qk := fun r s => r = i ∧ s = σ) hw h0 h1 ⟨rfl, rfl⟩)) (fun r s hq => ?_)
  obtain ⟨rfl, rfl⟩ := hq
  refine P_pop C dJ0_checkIndex_df160_8 rfl ?_
  exact P_vret C dJ0_checkIndex_df160_9 h

