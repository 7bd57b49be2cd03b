theorem kv_X12_steadyWhets_X12_body : KV RX12 wsX12_steadyWhets (rmz 4) 406 RX12 yX12_body wsX12_body (rmz 0) 1 := ⟨_, _, _, _, gX12_steadyWhets_X12_body, rfl, by decide +kernel, by decide +kernel⟩
theorem kv_X12_steadyWhets_X12_mowerWhets : KV RX12 wsX12_steadyWhets (rmz 4) 415 RX12 yX12_mowerWhets wsX12_mowerWhets (rmz 3) 2 := ⟨_, _, _, _, gX12_steadyWhets_X12_mowerWhets, rfl, by decide +kernel, by decide +kernel⟩
noncomputable def K_X12_steadyWhets (l : Launch) (V : Vx) (a1 : Int32) (a2 : Int32) (σ : Sg) (Qk : Int32 → Sg → Prop) : Prop := Ka l V yX12_steadyWhets wsX12_steadyWhets (rmz 4) 0 0 [.ref 74, .int a1, .int a2] σ (QI V Qk)
theorem e_X12_steadyWhets {l : Launch} {V : Vx} {a1 : Int32} {a2 : Int32} {σ : Sg} {Qk : Int32 → Sg → Prop} (h : ∀ M : Mx, mL M = l → mV M = V → mN M = 3 → Cx M cX12_steadyWhets (some .int) RX12 wsX12_steadyWhets (rmz 4) 0 0 (QI (mV M) Qk) → PS M 0 [(0, .ref 74), (1, .int a1), (2, .int a2)] [] σ (0, 0)) : K_X12_steadyWhets l V a1 a2 σ Qk :=
  Ka_of (by decide +kernel) rfl rfl (Nat.le_of_ble_eq_true rfl) (fun M h1 h2 h3 C => h M h1 h2 h3 (by rw [h2]; exact C))
set_option maxRecDepth 100000 in
set_option maxHeartbeats 4000000 in
theorem s_X12_steadyWhets_0 {M : Mx} {Qk : Int32 → Sg → Prop} (C : Cx M cX12_steadyWhets (some .int) RX12 wsX12_steadyWhets (rmz 4) 0 0 (QI (mV M) Qk)) (hN : mN M = 3) {a1 : Int32} {a2 : Int32} {σ : Sg} (h : K_X12_body (mL M) (mV M) (20 : Int32) σ (fun σ1 => K_X12_mowerWhets (mL M) (mV M) a1 a2 σ1 (fun r3 σ2 => Qk (r3 ^^^ (6 : Int32)) σ2))) : PS M 0 [(0, .ref 74), (1, .int a1), (2, .int a2)] [] σ (0, 0) := by
  refine P_aload_n C dX12_steadyWhets_0 0 rfl ?_
  refine P_bipush C dX12_steadyWhets_1 (v := (20 : Int32)) rfl ?_
  refine P_cv (R_v (ci := 12) C kv_X12_steadyWhets_X12_body (As := [.int (20 : Int32)]) rfl kd_74 rfl (fxl fx_74) (Nat.le_of_ble_eq_true rfl) dX12_steadyWhets_3 ⟨Nat.le_refl _, Nat.le_refl _⟩ h) (fun σ1 h => ?_)
  refine P_aload_n C dX12_steadyWhets_6 0 rfl ?_
  refine P_iload_n C dX12_steadyWhets_7 1 rfl ?_
  refine P_iload_n C dX12_steadyWhets_8 2 rfl ?_
  refine P_ci (R_v (ci := 12) C kv_X12_steadyWhets_X12_mowerWhets (As := [.int a1, .int a2]) rfl kd_74 rfl (fxl fx_74) (Nat.le_of_ble_eq_true rfl) dX12_steadyWhets_9 ⟨Nat.le_refl _, Nat.le_refl _⟩ h) (fun r3 σ2 h => ?_)
  refine P_bipush C dX12_steadyWhets_12 (v := (6 : Int32)) rfl ?_
  refine P_ixor C dX12_steadyWhets_14 ?_
  exact P_iret C dX12_steadyWhets_15 h
theorem kv_X12_takesClause_X12_takesHead : KV RX12 wsX12_takesClause (rmz 5) 285 RX12 yX12_takesHead wsX12_takesHead (rmz 3) 1 := ⟨_, _, _, _, gX12_takesClause_X12_takesHead, rfl, by decide +kernel, by decide +kernel⟩
theorem kv_X12_takesClause_X12_takesNumber : KV RX12 wsX12_takesClause (rmz 5) 269 RX12 yX12_takesNumber wsX12_takesNumber (rmz 2) 0 := ⟨_, _, _, _, gX12_takesClause_X12_takesNumber, rfl, by decide +kernel, by decide +kernel⟩
theorem fa_X12_takesClause_68 : FA RX12 wsX12_takesClause 68 12 19 "NineMowersModel" := by
  show _ ∧ _ ∧ _ ∧ _
  exact ⟨by decide +kernel, fun _ h => List.mem_cons_of_mem _ (List.mem_append_right _ h), List.mem_of_getElem? (i := 1) rfl, Or.inl rfl⟩
theorem fa_X12_takesClause_56 : FA RX12 wsX12_takesClause 56 12 15 "NineMowersModel" := by
  show _ ∧ _ ∧ _ ∧ _
  exact ⟨by decide +kernel, fun _ h => List.mem_cons_of_mem _ (List.mem_append_right _ h), List.mem_of_getElem? (i := 2) rfl, Or.inl rfl⟩
theorem fa_X12_takesClause_65 : FA RX12 wsX12_takesClause 65 12 18 "NineMowersModel" := by
  show _ ∧ _ ∧ _ ∧ _
  exact ⟨by decide +kernel, fun _ h => List.mem_cons_of_mem _ (List.mem_append_right _ h), List.mem_of_getElem? (i := 3) rfl, Or.inl rfl⟩
theorem kv_X12_takesClause_X12_takes : KV RX12 wsX12_takesClause (rmz 5) 255 RX12 yX12_takes wsX12_takes (rmz 1) 1 := ⟨_, _, _, _, gX12_takesClause_X12_takes, rfl, by decide +kernel, by decide +kernel⟩
theorem kv_X12_takesClause_X12_takesE : KV RX12 wsX12_takesClause (rmz 5) 288 RX12 yX12_takesE wsX12_takesE (rmz 4) 1 := ⟨_, _, _, _, gX12_takesClause_X12_takesE, rfl, by decide +kernel, by decide +kernel⟩
noncomputable def K_X12_takesClause (l : Launch) (V : Vx) (a1 : Int32) (σ : Sg) (Qk : Int32 → Sg → Prop) : Prop := Ka l V yX12_takesClause wsX12_takesClause (rmz 5) 0 0 [.ref 74, .int a1] σ (QI V Qk)
theorem e_X12_takesClause {l : Launch} {V : Vx} {a1 : Int32} {σ : Sg} {Qk : Int32 → Sg → Prop} (h : ∀ M : Mx, mL M = l → mV M = V → mN M = 2 → Cx M cX12_takesClause (some .boolean) RX12 wsX12_takesClause (rmz 5) 0 0 (QI (mV M) Qk) → PS M 0 [(0, .ref 74), (1, .int a1)] [] σ (0, 0)) : K_X12_takesClause l V a1 σ Qk :=
  Ka_of (by decide +kernel) rfl rfl (Nat.le_of_ble_eq_true rfl) (fun M h1 h2 h3 C => h M h1 h2 h3 (by rw [h2]; exact C))
set_option maxRecDepth 100000 in
set_option maxHeartbeats 4000000 in
theorem s_X12_takesClause_0 {M : Mx} {Qk : Int32 → Sg → Prop} (C : Cx M cX12_takesClause (some .boolean) RX12 wsX12_takesClause (rmz 5) 0 0 (QI (mV M) Qk)) (hN : mN M = 2) {a1 : Int32} {σ : Sg} (h : K_X12_takesHead (mL M) (mV M) a1 σ (fun r2 σ1 => ((r2 = 0 → Qk (0 : Int32) σ1) ∧ (¬ r2 = 0 → K_X12_takesNumber (mL M) (mV M) σ1 (fun r5 σ4 => ((¬ r5 = 0 → (vp_in a1 60 ∧ (∀ σ8 : Sg, σ8 = si σ4 119 a1.toNatClampNeg (gi σ4 74 15) → (vp_in a1 60 ∧ (((2 : Int32) ≤ (gi σ8 118 a1.toNatClampNeg) → Qk (1 : Int32) σ8) ∧ (¬ (2 : Int32) ≤ (gi σ8 118 a1.toNatClampNeg) → K_X12_takes (mL M) (mV M) (32 : Int32) σ8 (fun r12 σ11 => ((r12 = 0 → Qk (0 : Int32) σ11) ∧ (¬ r12 = 0 → K_X12_takesE (mL M) (mV M) a1 σ11 (fun r15 σ14 => ((r15 = 0 → Qk (0 : Int32) σ14) ∧ (¬ r15 = 0 → Qk (1 : Int32) σ14)))))))))))) ∧ (r5 = 0 → Qk (0 : Int32) σ4))))))) : PS M 0 [(0, .ref 74), (1, .int a1)] [] σ (0, 0) := by
  refine P_aload_n C dX12_takesClause_0 0 rfl ?_
  refine P_iload_n C dX12_takesClause_1 1 rfl ?_
  refine P_ci (R_v (ci := 12) C kv_X12_takesClause_X12_takesHead (As := [.int a1]) rfl kd_74 rfl (fxl fx_74) (Nat.le_of_ble_eq_true rfl) dX12_takesClause_2 ⟨Nat.le_refl _, Nat.le_refl _⟩ h) (fun r2 σ1 h => ?_)
  refine P_if_eq C dX12_takesClause_5 (tgt := 15) (by decide +kernel) (fun q3 => ?_) (fun q3 => ?_)
  · have h := h.1 q3
    refine P_iconst C dX12_takesClause_15 (v := (0 : Int32)) rfl ?_
    exact P_zret C (by decide +kernel) dX12_takesClause_16 h
  · have h := h.2 q3
    refine P_aload_n C dX12_takesClause_8 0 rfl ?_
    refine P_ci (R_v (ci := 12) C kv_X12_takesClause_X12_takesNumber (As := []) rfl kd_74 rfl (fxl fx_74) (Nat.le_of_ble_eq_true rfl) dX12_takesClause_9 ⟨Nat.le_refl _, Nat.le_refl _⟩ h) (fun r5 σ4 h => ?_)
    refine P_if_ne C dX12_takesClause_12 (tgt := 17) (by decide +kernel) (fun q6 => ?_) (fun q6 => ?_)
    · have h := h.1 q6
      refine P_aload_n C dX12_takesClause_17 0 rfl ?_
      refine P_getS C (e := 119) fa_X12_takesClause_68 kd_74 (d := 45) rfl (fxl fx_74) rfl dX12_takesClause_18 ?_
      refine P_iload_n C dX12_takesClause_21 1 rfl ?_
      refine P_aload_n C dX12_takesClause_22 0 rfl ?_
      refine P_getI C fa_X12_takesClause_56 kd_74 rfl (fxl fx_74) dX12_takesClause_23 ?_
      obtain ⟨hv7, h⟩ := h
      refine P_iast C kd_119 (fxl fx_119) hv7 dX12_takesClause_26 ?_
      refine P_nm (fun σ8 eσ8 => ?_)
      have h := h σ8 eσ8
      refine P_aload_n C dX12_takesClause_27 0 rfl ?_
      refine P_getS C (e := 118) fa_X12_takesClause_65 kd_74 (d := 44) rfl (fxl fx_74) rfl dX12_takesClause_28 ?_
      refine P_iload_n C dX12_takesClause_31 1 rfl ?_
      obtain ⟨hv9, h⟩ := h
      refine P_iald C kd_118 (fxl fx_118) hv9 dX12_takesClause_32 ?_
      refine P_iconst C dX12_takesClause_33 (v := (2 : Int32)) rfl ?_
      refine P_icmp_ge C dX12_takesClause_34 (tgt := 54) (by decide +kernel) (fun q10 => ?_) (fun q10 => ?_)
      · have h := h.1 q10
        refine P_iconst C dX12_takesClause_54 (v := (1 : Int32)) rfl ?_
        refine P_goto C dX12_takesClause_55 (tgt := 59) (by decide +kernel) ?_
        exact P_zret C (by decide +kernel) dX12_takesClause_59 h
      · have h := h.2 q10
        refine P_aload_n C dX12_takesClause_37 0 rfl ?_
        refine P_bipush C dX12_takesClause_38 (v := (32 : Int32)) rfl ?_
        refine P_ci (R_v (ci := 12) C kv_X12_takesClause_X12_takes (As := [.int (32 : Int32)]) rfl kd_74 rfl (fxl fx_74) (Nat.le_of_ble_eq_true rfl) dX12_takesClause_40 ⟨Nat.le_refl _, Nat.le_refl _⟩ h) (fun r12 σ11 h => ?_)
        refine P_if_eq C dX12_takesClause_43 (tgt := 58) (by decide +kernel) (fun q13 => ?_) (fun q13 => ?_)
        · have h := h.1 q13
          refine P_iconst C dX12_takesClause_58 (v := (0 : Int32)) rfl ?_
          exact P_zret C (by decide +kernel) dX12_takesClause_59 h
        · have h := h.2 q13
          refine P_aload_n C dX12_takesClause_46 0 rfl ?_
          refine P_iload_n C dX12_takesClause_47 1 rfl ?_
          refine P_ci (R_v (ci := 12) C kv_X12_takesClause_X12_takesE (As := [.int a1]) rfl kd_74 rfl (fxl fx_74) (Nat.le_of_ble_eq_true rfl) dX12_takesClause_48 ⟨Nat.le_refl _, Nat.le_refl _⟩ h) (fun r15 σ14 h => ?_)
          refine P_if_eq C dX12_takesClause_51 (tgt := 58) (by decide +kernel) (fun q16 => ?_) (fun q16 => ?_)
          · have h := h.1 q16
            refine P_iconst C dX12_takesClause_58 (v := (0 : Int32)) rfl ?_
            exact P_zret C (by decide +kernel) dX12_takesClause_59 h
          · have h := h.2 q16
            refine P_iconst C dX12_takesClause_54 (v := (1 : Int32)) rfl ?_
            refine P_goto C dX12_takesClause_55 (tgt := 59) (by decide +kernel) ?_
            exact P_zret C (by decide +kernel) dX12_takesClause_59 h
    · have h := h.2 q6
      refine P_iconst C dX12_takesClause_15 (v := (0 : Int32)) rfl ?_
      exact P_zret C (by decide +kernel) dX12_takesClause_16 h
theorem fa_X12_strideAt_41 : FA RX12 wsX12_strideAt 41 12 10 "NineMowersModel" := by
  show _ ∧ _ ∧ _ ∧ _
  exact ⟨by decide +kernel, fun _ h => List.mem_cons_of_mem _ (List.mem_append_right _ h), List.mem_of_getElem? (i := 1) rfl, Or.inl rfl⟩
theorem kv_X12_strideAt_X12_paceAt : KV RX12 wsX12_strideAt (rmz 5) 325 RX12 yX12_paceAt wsX12_paceAt (rmz 2) 1 := ⟨_, _, _, _, gX12_strideAt_X12_paceAt, rfl, by decide +kernel, by decide +kernel⟩
theorem kv_X12_strideAt_X12_strideOf : KV RX12 wsX12_strideAt (rmz 5) 328 RX12 yX12_strideOf wsX12_strideOf (rmz 4) 3 := ⟨_, _, _, _, gX12_strideAt_X12_strideOf, rfl, by decide +kernel, by decide +kernel⟩
theorem kv_X12_strideAt_X12_most : KV RX12 wsX12_strideAt (rmz 5) 307 RX12 yX12_most wsX12_most (rmz 0) 2 := ⟨_, _, _, _, gX12_strideAt_X12_most, rfl, by decide +kernel, by decide +kernel⟩
theorem fa_X12_strideAt_29 : FA RX12 wsX12_strideAt 29 12 6 "NineMowersModel" := by
  show _ ∧ _ ∧ _ ∧ _
  exact ⟨by decide +kernel, fun _ h => List.mem_cons_of_mem _ (List.mem_append_right _ h), List.mem_of_getElem? (i := 2) rfl, Or.inl rfl⟩
noncomputable def K_X12_strideAt (l : Launch) (V : Vx) (a1 : Int32) (σ : Sg) (Qk : Int32 → Sg → Prop) : Prop := Ka l V yX12_strideAt wsX12_strideAt (rmz 5) 0 0 [.ref 74, .int a1] σ (QI V Qk)
theorem e_X12_strideAt {l : Launch} {V : Vx} {a1 : Int32} {σ : Sg} {Qk : Int32 → Sg → Prop} (h : ∀ M : Mx, mL M = l → mV M = V → mN M = 4 → Cx M cX12_strideAt (some .int) RX12 wsX12_strideAt (rmz 5) 0 0 (QI (mV M) Qk) → PS M 0 [(0, .ref 74), (1, .int a1)] [] σ (0, 0)) : K_X12_strideAt l V a1 σ Qk :=
  Ka_of (by decide +kernel) rfl rfl (Nat.le_of_ble_eq_true rfl) (fun M h1 h2 h3 C => h M h1 h2 h3 (by rw [h2]; exact C))
set_option maxRecDepth 100000 in
set_option maxHeartbeats 4000000 in
theorem s_X12_strideAt_0 {M : Mx} {Qk : Int32 → Sg → Prop} (C : Cx M cX12_strideAt (some .int) RX12 wsX12_strideAt (rmz 5) 0 0 (QI (mV M) Qk)) (hN : mN M = 4) {a1 : Int32} {σ : Sg} (h : (vp_in a1 6 ∧ (∀ v2 : Int32, v2 = gi σ 110 a1.toNatClampNeg → K_X12_paceAt (mL M) (mV M) a1 σ (fun r4 σ3 => K_X12_strideOf (mL M) (mV M) a1 v2 r4 σ3 (fun r6 σ5 => K_X12_most (mL M) (mV M) (0 : Int32) r6 σ5 (fun r8 σ7 => (vp_in v2 6 ∧ ((¬ (gi σ7 106 v2.toNatClampNeg) = 0 → Qk r8 σ7) ∧ ((gi σ7 106 v2.toNatClampNeg) = 0 → Qk (r8 / (2 : Int32)) σ7))))))))) : PS M 0 [(0, .ref 74), (1, .int a1)] [] σ (0, 0) := by
  refine P_aload_n C dX12_strideAt_0 0 rfl ?_
  refine P_getS C (e := 110) fa_X12_strideAt_41 kd_74 (d := 36) rfl (fxl fx_74) rfl dX12_strideAt_1 ?_
  refine P_iload_n C dX12_strideAt_4 1 rfl ?_
  obtain ⟨hv1, h⟩ := h
  refine P_iald C kd_110 (fxl fx_110) hv1 dX12_strideAt_5 ?_
  refine P_nmi (fun v2 ev2 => ?_)
  have h := h v2 ev2
  refine P_istore_n C dX12_strideAt_6 (by rw [hN]; decide) rfl ?_
  refine P_aload_n C dX12_strideAt_7 1 rfl ?_
  refine P_iconst C dX12_strideAt_8 (v := (0 : Int32)) rfl ?_
  refine P_aload_n C dX12_strideAt_9 1 rfl ?_
  refine P_iload_n C dX12_strideAt_10 2 rfl ?_
  refine P_iload_n C dX12_strideAt_11 0 rfl ?_
  refine P_aload_n C dX12_strideAt_12 1 rfl ?_
  refine P_iload_n C dX12_strideAt_13 2 rfl ?_
  refine P_ci (R_v (ci := 12) C kv_X12_strideAt_X12_paceAt (As := [.int a1]) rfl kd_74 rfl (fxl fx_74) (Nat.le_of_ble_eq_true rfl) dX12_strideAt_14 ⟨Nat.le_refl _, Nat.le_refl _⟩ h) (fun r4 σ3 h => ?_)
  refine P_ci (R_v (ci := 12) C kv_X12_strideAt_X12_strideOf (As := [.int a1, .int v2, .int r4]) rfl kd_74 rfl (fxl fx_74) (Nat.le_of_ble_eq_true rfl) dX12_strideAt_17 ⟨Nat.le_refl _, Nat.le_refl _⟩ h) (fun r6 σ5 h => ?_)
  refine P_ci (R_v (ci := 12) C kv_X12_strideAt_X12_most (As := [.int (0 : Int32), .int r6]) rfl kd_74 rfl (fxl fx_74) (Nat.le_of_ble_eq_true rfl) dX12_strideAt_20 ⟨Nat.le_refl _, Nat.le_refl _⟩ h) (fun r8 σ7 h => ?_)
  refine P_istore_n C dX12_strideAt_23 (by rw [hN]; decide) rfl ?_
  refine P_aload_n C dX12_strideAt_24 2 rfl ?_
  refine P_getS C (e := 106) fa_X12_strideAt_29 kd_74 (d := 32) rfl (fxl fx_74) rfl dX12_strideAt_25 ?_
  refine P_iload_n C dX12_strideAt_28 1 rfl ?_
  obtain ⟨hv9, h⟩ := h
  refine P_iald C kd_106 (fxl fx_106) hv9 dX12_strideAt_29 ?_
  refine P_if_ne C dX12_strideAt_30 (tgt := 39) (by decide +kernel) (fun q10 => ?_) (fun q10 => ?_)
  · have h := h.1 q10
    refine P_iload_n C dX12_strideAt_39 0 rfl ?_
    exact P_iret C dX12_strideAt_40 h
  · have h := h.2 q10
    refine P_iload_n C dX12_strideAt_33 0 rfl ?_
    refine P_iconst C dX12_strideAt_34 (v := (2 : Int32)) rfl ?_
    refine P_idiv C dX12_strideAt_35 (by decide +kernel) ?_
    refine P_goto C dX12_strideAt_36 (tgt := 40) (by decide +kernel) ?_
    exact P_iret C dX12_strideAt_40 h
theorem fa_X12_whetsAct_19 : FA RX12 wsX12_whetsAct 19 12 3 "NineMowersModel" := by
  show _ ∧ _ ∧ _ ∧ _
  exact ⟨by decide +kernel, fun _ h => List.mem_cons_of_mem _ (List.mem_append_right _ h), List.mem_of_getElem? (i := 1) rfl, Or.inl rfl⟩
theorem kv_X12_whetsAct_X12_mowerWhets : KV RX12 wsX12_whetsAct (rmz 5) 415 RX12 yX12_mowerWhets wsX12_mowerWhets (rmz 3) 2 := ⟨_, _, _, _, gX12_whetsAct_X12_mowerWhets, rfl, by decide +kernel, by decide +kernel⟩
theorem kv_X12_whetsAct_X12_steadyWhets : KV RX12 wsX12_whetsAct (rmz 5) 418 RX12 yX12_steadyWhets wsX12_steadyWhets (rmz 4) 2 := ⟨_, _, _, _, gX12_whetsAct_X12_steadyWhets, rfl, by decide +kernel, by decide +kernel⟩
theorem kv_X12_whetsAct_X12_body : KV RX12 wsX12_whetsAct (rmz 5) 406 RX12 yX12_body wsX12_body (rmz 0) 1 := ⟨_, _, _, _, gX12_whetsAct_X12_body, rfl, by decide +kernel, by decide +kernel⟩
theorem kv_X12_whetsAct_X12_mowerMows : KV RX12 wsX12_whetsAct (rmz 5) 409 RX12 yX12_mowerMows wsX12_mowerMows (rmz 1) 2 := ⟨_, _, _, _, gX12_whetsAct_X12_mowerMows, rfl, by decide +kernel, by decide +kernel⟩
noncomputable def K_X12_whetsAct (l : Launch) (V : Vx) (a1 : Int32) (a2 : Int32) (σ : Sg) (Qk : Int32 → Sg → Prop) : Prop := Ka l V yX12_whetsAct wsX12_whetsAct (rmz 5) 0 0 [.ref 74, .int a1, .int a2] σ (QI V Qk)
theorem e_X12_whetsAct {l : Launch} {V : Vx} {a1 : Int32} {a2 : Int32} {σ : Sg} {Qk : Int32 → Sg → Prop} (h : ∀ M : Mx, mL M = l → mV M = V → mN M = 4 → Cx M cX12_whetsAct (some .int) RX12 wsX12_whetsAct (rmz 5) 0 0 (QI (mV M) Qk) → PS M 0 [(0, .ref 74), (1, .int a1), (2, .int a2)] [] σ (0, 0)) : K_X12_whetsAct l V a1 a2 σ Qk :=
  Ka_of (by decide +kernel) rfl rfl (Nat.le_of_ble_eq_true rfl) (fun M h1 h2 h3 C => h M h1 h2 h3 (by rw [h2]; exact C))
set_option maxRecDepth 100000 in
set_option maxHeartbeats 4000000 in
theorem s_X12_whetsAct_0 {M : Mx} {Qk : Int32 → Sg → Prop} (C : Cx M cX12_whetsAct (some .int) RX12 wsX12_whetsAct (rmz 5) 0 0 (QI (mV M) Qk)) (hN : mN M = 4) {a1 : Int32} {a2 : Int32} {σ : Sg} (h : (vp_in a1 6 ∧ ((¬ (gi σ 103 a1.toNatClampNeg).toInt = 1 ∧ ¬ (gi σ 103 a1.toNatClampNeg).toInt = 4 ∧ ¬ (gi σ 103 a1.toNatClampNeg).toInt = 6 → K_X12_mowerWhets (mL M) (mV M) a1 a2 σ (fun r4 σ3 => Qk r4 σ3)) ∧ ((gi σ 103 a1.toNatClampNeg).toInt = 1 → K_X12_steadyWhets (mL M) (mV M) a1 a2 σ (fun r6 σ5 => Qk r6 σ5)) ∧ ((gi σ 103 a1.toNatClampNeg).toInt = 4 → K_X12_body (mL M) (mV M) (51 : Int32) σ (fun σ7 => K_X12_steadyWhets (mL M) (mV M) a1 (a2 + (1 : Int32)) σ7 (fun r9 σ8 => Qk r9 σ8))) ∧ ((gi σ 103 a1.toNatClampNeg).toInt = 6 → K_X12_body (mL M) (mV M) (70 : Int32) σ (fun σ10 => K_X12_mowerWhets (mL M) (mV M) a1 a2 σ10 (fun r12 σ11 => K_X12_mowerMows (mL M) (mV M) a1 (2 : Int32) σ11 (fun r14 σ13 => Qk (r12 + r14) σ13))))))) : PS M 0 [(0, .ref 74), (1, .int a1), (2, .int a2)] [] σ (0, 0) := by
  refine P_aload_n C dX12_whetsAct_0 0 rfl ?_
  refine P_getS C (e := 103) fa_X12_whetsAct_19 kd_74 (d := 29) rfl (fxl fx_74) rfl dX12_whetsAct_1 ?_
  refine P_iload_n C dX12_whetsAct_4 1 rfl ?_
  obtain ⟨hv1, h⟩ := h
  refine P_iald C kd_103 (fxl fx_103) hv1 dX12_whetsAct_5 ?_
  refine P_lsw C dX12_whetsAct_6 (by decide +kernel) (fun off q2 => ?_)
  by_cases c0 : (gi σ 103 a1.toNatClampNeg).toInt = 1
  · rw [c0] at q2
    obtain rfl : (34 : Int) = off := q2
    refine ⟨?_, by decide +kernel⟩
    show PS M 40 _ _ _ _
    have h := h.2.1 c0
    refine P_aload_n C dX12_whetsAct_40 0 rfl ?_
    refine P_iload_n C dX12_whetsAct_41 1 rfl ?_
    refine P_iload_n C dX12_whetsAct_42 2 rfl ?_
    refine P_ci (R_v (ci := 12) C kv_X12_whetsAct_X12_steadyWhets (As := [.int a1, .int a2]) rfl kd_74 rfl (fxl fx_74) (Nat.le_of_ble_eq_true rfl) dX12_whetsAct_43 ⟨Nat.le_refl _, Nat.le_refl _⟩ h) (fun r16 σ15 h => ?_)
    exact P_iret C dX12_whetsAct_46 h
  by_cases c1 : (gi σ 103 a1.toNatClampNeg).toInt = 4
  · rw [c1] at q2
    obtain rfl : (41 : Int) = off := q2
    refine ⟨?_, by decide +kernel⟩
    show PS M 47 _ _ _ _
    have h := h.2.2.1 c1
    refine P_aload_n C dX12_whetsAct_47 0 rfl ?_
    refine P_bipush C dX12_whetsAct_48 (v := (51 : Int32)) rfl ?_
    refine P_cv (R_v (ci := 12) C kv_X12_whetsAct_X12_body (As := [.int (51 : Int32)]) rfl kd_74 rfl (fxl fx_74) (Nat.le_of_ble_eq_true rfl) dX12_whetsAct_50 ⟨Nat.le_refl _, Nat.le_refl _⟩ h) (fun σ17 h => ?_)
    refine P_aload_n C dX12_whetsAct_53 0 rfl ?_
    refine P_iload_n C dX12_whetsAct_54 1 rfl ?_
    refine P_iload_n C dX12_whetsAct_55 2 rfl ?_
    refine P_iconst C dX12_whetsAct_56 (v := (1 : Int32)) rfl ?_
    refine P_iadd C dX12_whetsAct_57 ?_
    refine P_ci (R_v (ci := 12) C kv_X12_whetsAct_X12_steadyWhets (As := [.int a1, .int (a2 + (1 : Int32))]) rfl kd_74 rfl (fxl fx_74) (Nat.le_of_ble_eq_true rfl) dX12_whetsAct_58 ⟨Nat.le_refl _, Nat.le_refl _⟩ h) (fun r19 σ18 h => ?_)
    exact P_iret C dX12_whetsAct_61 h
  by_cases c2 : (gi σ 103 a1.toNatClampNeg).toInt = 6
  · rw [c2] at q2
    obtain rfl : (56 : Int) = off := q2
    refine ⟨?_, by decide +kernel⟩
    show PS M 62 _ _ _ _
    have h := h.2.2.2 c2
    refine P_aload_n C dX12_whetsAct_62 0 rfl ?_
    refine P_bipush C dX12_whetsAct_63 (v := (70 : Int32)) rfl ?_
    refine P_cv (R_v (ci := 12) C kv_X12_whetsAct_X12_body (As := [.int (70 : Int32)]) rfl kd_74 rfl (fxl fx_74) (Nat.le_of_ble_eq_true rfl) dX12_whetsAct_65 ⟨Nat.le_refl _, Nat.le_refl _⟩ h) (fun σ20 h => ?_)
    refine P_aload_n C dX12_whetsAct_68 0 rfl ?_
    refine P_iload_n C dX12_whetsAct_69 1 rfl ?_
    refine P_iload_n C dX12_whetsAct_70 2 rfl ?_
    refine P_ci (R_v (ci := 12) C kv_X12_whetsAct_X12_mowerWhets (As := [.int a1, .int a2]) rfl kd_74 rfl (fxl fx_74) (Nat.le_of_ble_eq_true rfl) dX12_whetsAct_71 ⟨Nat.le_refl _, Nat.le_refl _⟩ h) (fun r22 σ21 h => ?_)
    refine P_istore_n C dX12_whetsAct_74 (by rw [hN]; decide) rfl ?_
    refine P_iload_n C dX12_whetsAct_75 0 rfl ?_
    refine P_aload_n C dX12_whetsAct_76 1 rfl ?_
    refine P_iload_n C dX12_whetsAct_77 2 rfl ?_
    refine P_iconst C dX12_whetsAct_78 (v := (2 : Int32)) rfl ?_
    refine P_ci (R_v (ci := 12) C kv_X12_whetsAct_X12_mowerMows (As := [.int a1, .int (2 : Int32)]) rfl kd_74 rfl (fxl fx_74) (Nat.le_of_ble_eq_true rfl) dX12_whetsAct_79 ⟨Nat.le_refl _, Nat.le_refl _⟩ h) (fun r24 σ23 h => ?_)
    refine P_iadd C dX12_whetsAct_82 ?_
    exact P_iret C dX12_whetsAct_83 h
  have q2 : (78 : Int) = off := by rw [← q2]; simp [Op.lookupswitch.offset, Ne.symm c0, Ne.symm c1, Ne.symm c2]
  subst q2
  refine ⟨?_, by decide +kernel⟩
  show PS M 84 _ _ _ _
  have h := h.1 ⟨c0, c1, c2⟩
  refine P_aload_n C dX12_whetsAct_84 0 rfl ?_
  refine P_iload_n C dX12_whetsAct_85 1 rfl ?_
  refine P_iload_n C dX12_whetsAct_86 2 rfl ?_
  refine P_ci (R_v (ci := 12) C kv_X12_whetsAct_X12_mowerWhets (As := [.int a1, .int a2]) rfl kd_74 rfl (fxl fx_74) (Nat.le_of_ble_eq_true rfl) dX12_whetsAct_87 ⟨Nat.le_refl _, Nat.le_refl _⟩ h) (fun r4 σ3 h => ?_)
  exact P_iret C dX12_whetsAct_90 h
theorem pa_X12_goesText_53 : PA RX12 wsX12_goesText 53 12 14 "NineMowersModel" .int := by
  show _ ∧ _ ∧ _ ∧ _ ∧ _ ∧ _ ∧ _ ∧ _
  exact ⟨by decide +kernel, fun _ h => List.mem_cons_of_mem _ (List.mem_append_right _ h), List.mem_of_getElem? (i := 1) rfl, rfl, rfl, by decide +kernel, ⟨tyX12, tyX12_ok⟩, nmX12⟩
theorem pa_X12_goesText_83 : PA RX12 wsX12_goesText 83 12 24 "NineMowersModel" .int := by
  show _ ∧ _ ∧ _ ∧ _ ∧ _ ∧ _ ∧ _ ∧ _
  exact ⟨by decide +kernel, fun _ h => List.mem_cons_of_mem _ (List.mem_append_right _ h), List.mem_of_getElem? (i := 2) rfl, rfl, rfl, by decide +kernel, ⟨tyX12, tyX12_ok⟩, nmX12⟩
theorem kv_X12_goesText_X12_takesClause : KV RX12 wsX12_goesText (rmz 6) 291 RX12 yX12_takesClause wsX12_takesClause (rmz 5) 1 := ⟨_, _, _, _, gX12_goesText_X12_takesClause, rfl, by decide +kernel, by decide +kernel⟩
theorem fa_X12_goesText_62 : FA RX12 wsX12_goesText 62 12 17 "NineMowersModel" := by
  show _ ∧ _ ∧ _ ∧ _
  exact ⟨by decide +kernel, fun _ h => List.mem_cons_of_mem _ (List.mem_append_right _ h), List.mem_of_getElem? (i := 3) rfl, Or.inl rfl⟩
theorem fa_X12_goesText_53 : FA RX12 wsX12_goesText 53 12 14 "NineMowersModel" := by
  show _ ∧ _ ∧ _ ∧ _
  exact ⟨by decide +kernel, fun _ h => List.mem_cons_of_mem _ (List.mem_append_right _ h), List.mem_of_getElem? (i := 1) rfl, Or.inl rfl⟩
theorem fa_X12_goesText_50 : FA RX12 wsX12_goesText 50 12 13 "NineMowersModel" := by
  show _ ∧ _ ∧ _ ∧ _
  exact ⟨by decide +kernel, fun _ h => List.mem_cons_of_mem _ (List.mem_append_right _ h), List.mem_of_getElem? (i := 4) rfl, Or.inl rfl⟩
theorem kv_X12_goesText_X12_takes : KV RX12 wsX12_goesText (rmz 6) 255 RX12 yX12_takes wsX12_takes (rmz 1) 1 := ⟨_, _, _, _, gX12_goesText_X12_takes, rfl, by decide +kernel, by decide +kernel⟩
noncomputable def K_X12_goesText (l : Launch) (V : Vx) (a1 : Int32) (σ : Sg) (Qk : Int32 → Sg → Prop) : Prop := Ka l V yX12_goesText wsX12_goesText (rmz 6) 0 0 [.ref 74, .int a1] σ (QI V Qk)
theorem e_X12_goesText {l : Launch} {V : Vx} {a1 : Int32} {σ : Sg} {Qk : Int32 → Sg → Prop} (h : ∀ M : Mx, mL M = l → mV M = V → mN M = 3 → Cx M cX12_goesText (some .boolean) RX12 wsX12_goesText (rmz 6) 0 0 (QI (mV M) Qk) → PS M 0 [(0, .ref 74), (1, .int a1)] [] σ (0, 0)) : K_X12_goesText l V a1 σ Qk :=
  Ka_of (by decide +kernel) rfl rfl (Nat.le_of_ble_eq_true rfl) (fun M h1 h2 h3 C => h M h1 h2 h3 (by rw [h2]; exact C))
set_option maxRecDepth 100000 in
set_option maxHeartbeats 4000000 in
theorem s_X12_goesText_0 {M : Mx} {Qk : Int32 → Sg → Prop} (C : Cx M cX12_goesText (some .boolean) RX12 wsX12_goesText (rmz 6) 0 0 (QI (mV M) Qk)) (hN : mN M = 3) {a1 : Int32} {σ : Sg} (h : (∀ σ1 : Sg, σ1 = si σ 74 14 (0 : Int32) → (∀ σ2 : Sg, σ2 = si σ1 74 24 ((100 : Int32) * a1) → PS M 15 [(0, .ref 74), (1, .int a1), (2, .int (0 : Int32))] [] σ2 (0, 0)))) : PS M 0 [(0, .ref 74), (1, .int a1)] [] σ (0, 0) := by
  refine P_aload_n C dX12_goesText_0 0 rfl ?_
  refine P_iconst C dX12_goesText_1 (v := (0 : Int32)) rfl ?_
  refine P_putI C pa_X12_goesText_53 kd_74 rfl (fxl fx_74) dX12_goesText_2 ?_
  refine P_nm (fun σ1 eσ1 => ?_)
  have h := h σ1 eσ1
  refine P_aload_n C dX12_goesText_5 0 rfl ?_
  refine P_bipush C dX12_goesText_6 (v := (100 : Int32)) rfl ?_
  refine P_iload_n C dX12_goesText_8 1 rfl ?_
  refine P_imul C dX12_goesText_9 ?_
  refine P_putI C pa_X12_goesText_83 kd_74 rfl (fxl fx_74) dX12_goesText_10 ?_
  refine P_nm (fun σ2 eσ2 => ?_)
  have h := h σ2 eσ2
  refine P_iconst C dX12_goesText_13 (v := (0 : Int32)) rfl ?_
  refine P_istore_n C dX12_goesText_14 (by rw [hN]; decide) rfl ?_
  exact P_sub [1, 2, 0] rfl h
set_option maxRecDepth 100000 in
set_option maxHeartbeats 4000000 in
theorem s_X12_goesText_15 {M : Mx} {Qk : Int32 → Sg → Prop} (C : Cx M cX12_goesText (some .boolean) RX12 wsX12_goesText (rmz 6) 0 0 (QI (mV M) Qk)) (hN : mN M = 3) {x1 : Int32} {x2 : Int32} {σ : Sg} (h : K_X12_takesClause (mL M) (mV M) (((10 : Int32) * x1) + x2) σ (fun r2 σ1 => ((¬ r2 = 0 → (∀ v4 : Int32, v4 = x2 + 1 → (vp_in x1 6 ∧ (∀ σ6 : Sg, σ6 = si σ1 117 x1.toNatClampNeg v4 → ((¬ (gi σ6 74 14) = (gi σ6 74 13) → ((v4 = (10 : Int32) → Qk (0 : Int32) σ6) ∧ (¬ v4 = (10 : Int32) → K_X12_takes (mL M) (mV M) (59 : Int32) σ6 (fun r10 σ9 => ((¬ r10 = 0 → PS M 15 [(0, .ref 74), (1, .int x1), (2, .int v4)] [] σ9 (0, 0)) ∧ (r10 = 0 → Qk (0 : Int32) σ9)))))) ∧ ((gi σ6 74 14) = (gi σ6 74 13) → Qk (1 : Int32) σ6)))))) ∧ (r2 = 0 → Qk (0 : Int32) σ1)))) : PS M 15 [(0, .ref 74), (1, .int x1), (2, .int x2)] [] σ (0, 0) := by
  refine P_aload_n C dX12_goesText_15 0 rfl ?_
  refine P_bipush C dX12_goesText_16 (v := (10 : Int32)) rfl ?_
  refine P_iload_n C dX12_goesText_18 1 rfl ?_
  refine P_imul C dX12_goesText_19 ?_
  refine P_iload_n C dX12_goesText_20 2 rfl ?_
  refine P_iadd C dX12_goesText_21 ?_
  refine P_ci (R_v (ci := 12) C kv_X12_goesText_X12_takesClause (As := [.int (((10 : Int32) * x1) + x2)]) rfl kd_74 rfl (fxl fx_74) (Nat.le_of_ble_eq_true rfl) dX12_goesText_22 ⟨Nat.le_refl _, Nat.le_refl _⟩ h) (fun r2 σ1 h => ?_)
  refine P_if_ne C dX12_goesText_25 (tgt := 30) (by decide +kernel) (fun q3 => ?_) (fun q3 => ?_)
  · have h := h.1 q3
    obtain ⟨v4, ev4⟩ : ∃ v : Int32, v = x2 + 1 := ⟨_, rfl⟩
    have h := h v4 ev4
    refine P_iinc (v := v4) C dX12_goesText_30 2 rfl (by rw [ev4]; rfl) (by rw [hN]; decide) rfl ?_
    refine P_aload_n C dX12_goesText_33 1 rfl ?_
    refine P_getS C (e := 117) fa_X12_goesText_62 kd_74 (d := 43) rfl (fxl fx_74) rfl dX12_goesText_34 ?_
    refine P_iload_n C dX12_goesText_37 2 rfl ?_
    refine P_iload_n C dX12_goesText_38 0 rfl ?_
    obtain ⟨hv5, h⟩ := h
    refine P_iast C kd_117 (fxl fx_117) hv5 dX12_goesText_39 ?_
    refine P_nm (fun σ6 eσ6 => ?_)
    have h := h σ6 eσ6
    refine P_aload_n C dX12_goesText_40 1 rfl ?_
    refine P_getI C fa_X12_goesText_53 kd_74 rfl (fxl fx_74) dX12_goesText_41 ?_
    refine P_aload_n C dX12_goesText_44 1 rfl ?_
    refine P_getI C fa_X12_goesText_50 kd_74 rfl (fxl fx_74) dX12_goesText_45 ?_
    refine P_icmp_ne C dX12_goesText_48 (tgt := 53) (by decide +kernel) (fun q7 => ?_) (fun q7 => ?_)
    · have h := h.1 q7
      refine P_iload_n C dX12_goesText_53 0 rfl ?_
      refine P_bipush C dX12_goesText_54 (v := (10 : Int32)) rfl ?_
      refine P_icmp_eq C dX12_goesText_56 (tgt := 68) (by decide +kernel) (fun q8 => ?_) (fun q8 => ?_)
      · have h := h.1 q8
        refine P_iconst C dX12_goesText_68 (v := (0 : Int32)) rfl ?_
        exact P_zret C (by decide +kernel) dX12_goesText_69 h
      · have h := h.2 q8
        refine P_aload_n C dX12_goesText_59 1 rfl ?_
        refine P_bipush C dX12_goesText_60 (v := (59 : Int32)) rfl ?_
        refine P_ci (R_v (ci := 12) C kv_X12_goesText_X12_takes (As := [.int (59 : Int32)]) rfl kd_74 rfl (fxl fx_74) (Nat.le_of_ble_eq_true rfl) dX12_goesText_62 ⟨Nat.le_refl _, Nat.le_refl _⟩ h) (fun r10 σ9 h => ?_)
        refine P_if_ne C dX12_goesText_65 (tgt := 15) (by decide +kernel) (fun q11 => ?_) (fun q11 => ?_)
        · have h := h.1 q11
          exact P_sub [1, 2, 0] rfl h
        · have h := h.2 q11
          refine P_iconst C dX12_goesText_68 (v := (0 : Int32)) rfl ?_
          exact P_zret C (by decide +kernel) dX12_goesText_69 h
    · have h := h.2 q7
      refine P_iconst C dX12_goesText_51 (v := (1 : Int32)) rfl ?_
      exact P_zret C (by decide +kernel) dX12_goesText_52 h
  · have h := h.2 q3
    refine P_iconst C dX12_goesText_28 (v := (0 : Int32)) rfl ?_
    exact P_zret C (by decide +kernel) dX12_goesText_29 h
theorem kv_X12_of_X12_isMower : KV RX12 wsX12_of (rmz 6) 243 RX12 yX12_isMower wsX12_isMower (rmz 1) 1 := ⟨_, _, _, _, gX12_of_X12_isMower, rfl, by decide +kernel, by decide +kernel⟩
theorem fa_X12_of_19 : FA RX12 wsX12_of 19 12 3 "NineMowersModel" := by
  show _ ∧ _ ∧ _ ∧ _
  exact ⟨by decide +kernel, fun _ h => List.mem_cons_of_mem _ (List.mem_append_right _ h), List.mem_of_getElem? (i := 1) rfl, Or.inl rfl⟩
theorem fa_X12_of_23 : FA RX12 wsX12_of 23 12 4 "NineMowersModel" := by
  show _ ∧ _ ∧ _ ∧ _
  exact ⟨by decide +kernel, fun _ h => List.mem_cons_of_mem _ (List.mem_append_right _ h), List.mem_of_getElem? (i := 2) rfl, Or.inl rfl⟩
theorem fa_X12_of_26 : FA RX12 wsX12_of 26 12 5 "NineMowersModel" := by
  show _ ∧ _ ∧ _ ∧ _
  exact ⟨by decide +kernel, fun _ h => List.mem_cons_of_mem _ (List.mem_append_right _ h), List.mem_of_getElem? (i := 3) rfl, Or.inl rfl⟩
theorem fa_X12_of_29 : FA RX12 wsX12_of 29 12 6 "NineMowersModel" := by
  show _ ∧ _ ∧ _ ∧ _
  exact ⟨by decide +kernel, fun _ h => List.mem_cons_of_mem _ (List.mem_append_right _ h), List.mem_of_getElem? (i := 4) rfl, Or.inl rfl⟩
theorem fa_X12_of_32 : FA RX12 wsX12_of 32 12 7 "NineMowersModel" := by
  show _ ∧ _ ∧ _ ∧ _
  exact ⟨by decide +kernel, fun _ h => List.mem_cons_of_mem _ (List.mem_append_right _ h), List.mem_of_getElem? (i := 5) rfl, Or.inl rfl⟩
theorem fa_X12_of_35 : FA RX12 wsX12_of 35 12 8 "NineMowersModel" := by
  show _ ∧ _ ∧ _ ∧ _
  exact ⟨by decide +kernel, fun _ h => List.mem_cons_of_mem _ (List.mem_append_right _ h), List.mem_of_getElem? (i := 6) rfl, Or.inl rfl⟩
theorem kv_X12_of_X12_placeOf : KV RX12 wsX12_of (rmz 6) 247 RX12 yX12_placeOf wsX12_placeOf (rmz 0) 1 := ⟨_, _, _, _, gX12_of_X12_placeOf, rfl, by decide +kernel, by decide +kernel⟩
theorem kv_X12_of_X12_paceAt : KV RX12 wsX12_of (rmz 6) 325 RX12 yX12_paceAt wsX12_paceAt (rmz 2) 1 := ⟨_, _, _, _, gX12_of_X12_paceAt, rfl, by decide +kernel, by decide +kernel⟩
theorem kv_X12_of_X12_strideAt : KV RX12 wsX12_of (rmz 6) 332 RX12 yX12_strideAt wsX12_strideAt (rmz 5) 1 := ⟨_, _, _, _, gX12_of_X12_strideAt, rfl, by decide +kernel, by decide +kernel⟩
noncomputable def K_X12_of (l : Launch) (V : Vx) (a1 : Int32) (a2 : Int32) (σ : Sg) (Qk : Int32 → Sg → Prop) : Prop := Ka l V yX12_of wsX12_of (rmz 6) 0 0 [.ref 74, .int a1, .int a2] σ (QI V Qk)
theorem e_X12_of {l : Launch} {V : Vx} {a1 : Int32} {a2 : Int32} {σ : Sg} {Qk : Int32 → Sg → Prop} (h : ∀ M : Mx, mL M = l → mV M = V → mN M = 3 → Cx M cX12_of (some .int) RX12 wsX12_of (rmz 6) 0 0 (QI (mV M) Qk) → PS M 0 [(0, .ref 74), (1, .int a1), (2, .int a2)] [] σ (0, 0)) : K_X12_of l V a1 a2 σ Qk :=
  Ka_of (by decide +kernel) rfl rfl (Nat.le_of_ble_eq_true rfl) (fun M h1 h2 h3 C => h M h1 h2 h3 (by rw [h2]; exact C))
set_option maxRecDepth 100000 in
set_option maxHeartbeats 4000000 in
theorem s_X12_of_0 {M : Mx} {Qk : Int32 → Sg → Prop} (C : Cx M cX12_of (some .int) RX12 wsX12_of (rmz 6) 0 0 (QI (mV M) Qk)) (hN : mN M = 3) {a1 : Int32} {a2 : Int32} {σ : Sg} (h : K_X12_isMower (mL M) (mV M) a1 σ (fun r2 σ1 => ((¬ r2 = 0 → ((a2.toInt < 0 ∨ 8 < a2.toInt → Qk (-1 : Int32) σ1) ∧ (a2.toInt = 0 → (vp_in a1 6 ∧ Qk (gi σ1 103 a1.toNatClampNeg) σ1)) ∧ (a2.toInt = 1 → (vp_in a1 6 ∧ Qk (gi σ1 104 a1.toNatClampNeg) σ1)) ∧ (a2.toInt = 2 → (vp_in a1 6 ∧ Qk (gi σ1 105 a1.toNatClampNeg) σ1)) ∧ (a2.toInt = 3 → (vp_in a1 6 ∧ Qk (gi σ1 106 a1.toNatClampNeg) σ1)) ∧ (a2.toInt = 4 → (vp_in a1 6 ∧ Qk (gi σ1 107 a1.toNatClampNeg) σ1)) ∧ (a2.toInt = 5 → (vp_in a1 6 ∧ Qk (gi σ1 108 a1.toNatClampNeg) σ1)) ∧ (a2.toInt = 6 → K_X12_placeOf (mL M) (mV M) a1 σ1 (fun r12 σ11 => Qk r12 σ11)) ∧ (a2.toInt = 7 → K_X12_placeOf (mL M) (mV M) a1 σ1 (fun r14 σ13 => K_X12_paceAt (mL M) (mV M) r14 σ13 (fun r16 σ15 => Qk r16 σ15))) ∧ (a2.toInt = 8 → K_X12_placeOf (mL M) (mV M) a1 σ1 (fun r18 σ17 => K_X12_strideAt (mL M) (mV M) r18 σ17 (fun r20 σ19 => Qk r20 σ19))))) ∧ (r2 = 0 → Qk (-1 : Int32) σ1)))) : PS M 0 [(0, .ref 74), (1, .int a1), (2, .int a2)] [] σ (0, 0) := by
  refine P_aload_n C dX12_of_0 0 rfl ?_
  refine P_iload_n C dX12_of_1 1 rfl ?_
  refine P_ci (R_v (ci := 12) C kv_X12_of_X12_isMower (As := [.int a1]) rfl kd_74 rfl (fxl fx_74) (Nat.le_of_ble_eq_true rfl) dX12_of_2 ⟨Nat.le_refl _, Nat.le_refl _⟩ h) (fun r2 σ1 h => ?_)
  refine P_if_ne C dX12_of_5 (tgt := 10) (by decide +kernel) (fun q3 => ?_) (fun q3 => ?_)
  · have h := h.1 q3
    refine P_iload_n C dX12_of_10 2 rfl ?_
    refine P_tsw C dX12_of_11 128 (by decide +kernel) (fun q4 => ?_) (by decide +kernel) (fun i off ho q4 => ?_)
    · have h := h.1 q4
      refine P_iconst C dX12_of_128 (v := (-1 : Int32)) rfl ?_
      exact P_iret C dX12_of_129 h
    · rcases i with _ | _ | _ | _ | _ | _ | _ | _ | _ | i
      · obtain rfl : (49 : Int) = off := Option.some.inj ho
        refine ⟨?_, by decide +kernel⟩
        show PS M 60 _ _ _ _
        have h := h.2.1 (by have q := q4; simp at q; omega)
        refine P_aload_n C dX12_of_60 0 rfl ?_
        refine P_getS C (e := 103) fa_X12_of_19 kd_74 (d := 29) rfl (fxl fx_74) rfl dX12_of_61 ?_
        refine P_iload_n C dX12_of_64 1 rfl ?_
        obtain ⟨hv5, h⟩ := h
        refine P_iald C kd_103 (fxl fx_103) hv5 dX12_of_65 ?_
        exact P_iret C dX12_of_66 h
      · obtain rfl : (56 : Int) = off := Option.some.inj ho
        refine ⟨?_, by decide +kernel⟩
        show PS M 67 _ _ _ _
        have h := h.2.2.1 (by have q := q4; simp at q; omega)
        refine P_aload_n C dX12_of_67 0 rfl ?_
        refine P_getS C (e := 104) fa_X12_of_23 kd_74 (d := 30) rfl (fxl fx_74) rfl dX12_of_68 ?_
        refine P_iload_n C dX12_of_71 1 rfl ?_
        obtain ⟨hv6, h⟩ := h
        refine P_iald C kd_104 (fxl fx_104) hv6 dX12_of_72 ?_
        exact P_iret C dX12_of_73 h
      · obtain rfl : (63 : Int) = off := Option.some.inj ho
        refine ⟨?_, by decide +kernel⟩
        show PS M 74 _ _ _ _
        have h := h.2.2.2.1 (by have q := q4; simp at q; omega)
        refine P_aload_n C dX12_of_74 0 rfl ?_
        refine P_getS C (e := 105) fa_X12_of_26 kd_74 (d := 31) rfl (fxl fx_74) rfl dX12_of_75 ?_
        refine P_iload_n C dX12_of_78 1 rfl ?_
        obtain ⟨hv7, h⟩ := h
        refine P_iald C kd_105 (fxl fx_105) hv7 dX12_of_79 ?_
        exact P_iret C dX12_of_80 h
      · obtain rfl : (70 : Int) = off := Option.some.inj ho
        refine ⟨?_, by decide +kernel⟩
        show PS M 81 _ _ _ _
        have h := h.2.2.2.2.1 (by have q := q4; simp at q; omega)
        refine P_aload_n C dX12_of_81 0 rfl ?_
        refine P_getS C (e := 106) fa_X12_of_29 kd_74 (d := 32) rfl (fxl fx_74) rfl dX12_of_82 ?_
        refine P_iload_n C dX12_of_85 1 rfl ?_
        obtain ⟨hv8, h⟩ := h
        refine P_iald C kd_106 (fxl fx_106) hv8 dX12_of_86 ?_
        exact P_iret C dX12_of_87 h
      · obtain rfl : (77 : Int) = off := Option.some.inj ho
        refine ⟨?_, by decide +kernel⟩
        show PS M 88 _ _ _ _
        have h := h.2.2.2.2.2.1 (by have q := q4; simp at q; omega)
        refine P_aload_n C dX12_of_88 0 rfl ?_
        refine P_getS C (e := 107) fa_X12_of_32 kd_74 (d := 33) rfl (fxl fx_74) rfl dX12_of_89 ?_
        refine P_iload_n C dX12_of_92 1 rfl ?_
        obtain ⟨hv9, h⟩ := h
        refine P_iald C kd_107 (fxl fx_107) hv9 dX12_of_93 ?_
        exact P_iret C dX12_of_94 h
      · obtain rfl : (84 : Int) = off := Option.some.inj ho
        refine ⟨?_, by decide +kernel⟩
        show PS M 95 _ _ _ _
        have h := h.2.2.2.2.2.2.1 (by have q := q4; simp at q; omega)
        refine P_aload_n C dX12_of_95 0 rfl ?_
        refine P_getS C (e := 108) fa_X12_of_35 kd_74 (d := 34) rfl (fxl fx_74) rfl dX12_of_96 ?_
        refine P_iload_n C dX12_of_99 1 rfl ?_
        obtain ⟨hv10, h⟩ := h
        refine P_iald C kd_108 (fxl fx_108) hv10 dX12_of_100 ?_
        exact P_iret C dX12_of_101 h
      · obtain rfl : (91 : Int) = off := Option.some.inj ho
        refine ⟨?_, by decide +kernel⟩
        show PS M 102 _ _ _ _
        have h := h.2.2.2.2.2.2.2.1 (by have q := q4; simp at q; omega)
        refine P_aload_n C dX12_of_102 0 rfl ?_
        refine P_iload_n C dX12_of_103 1 rfl ?_
        refine P_ci (R_v (ci := 12) C kv_X12_of_X12_placeOf (As := [.int a1]) rfl kd_74 rfl (fxl fx_74) (Nat.le_of_ble_eq_true rfl) dX12_of_104 ⟨Nat.le_refl _, Nat.le_refl _⟩ h) (fun r12 σ11 h => ?_)
        exact P_iret C dX12_of_107 h
      · obtain rfl : (97 : Int) = off := Option.some.inj ho
        refine ⟨?_, by decide +kernel⟩
        show PS M 108 _ _ _ _
        have h := h.2.2.2.2.2.2.2.2.1 (by have q := q4; simp at q; omega)
        refine P_aload_n C dX12_of_108 0 rfl ?_
        refine P_aload_n C dX12_of_109 0 rfl ?_
        refine P_iload_n C dX12_of_110 1 rfl ?_
        refine P_ci (R_v (ci := 12) C kv_X12_of_X12_placeOf (As := [.int a1]) rfl kd_74 rfl (fxl fx_74) (Nat.le_of_ble_eq_true rfl) dX12_of_111 ⟨Nat.le_refl _, Nat.le_refl _⟩ h) (fun r14 σ13 h => ?_)
        refine P_ci (R_v (ci := 12) C kv_X12_of_X12_paceAt (As := [.int r14]) rfl kd_74 rfl (fxl fx_74) (Nat.le_of_ble_eq_true rfl) dX12_of_114 ⟨Nat.le_refl _, Nat.le_refl _⟩ h) (fun r16 σ15 h => ?_)
        exact P_iret C dX12_of_117 h
      · obtain rfl : (107 : Int) = off := Option.some.inj ho
        refine ⟨?_, by decide +kernel⟩
        show PS M 118 _ _ _ _
        have h := h.2.2.2.2.2.2.2.2.2 (by have q := q4; simp at q; omega)
        refine P_aload_n C dX12_of_118 0 rfl ?_
        refine P_aload_n C dX12_of_119 0 rfl ?_
        refine P_iload_n C dX12_of_120 1 rfl ?_
        refine P_ci (R_v (ci := 12) C kv_X12_of_X12_placeOf (As := [.int a1]) rfl kd_74 rfl (fxl fx_74) (Nat.le_of_ble_eq_true rfl) dX12_of_121 ⟨Nat.le_refl _, Nat.le_refl _⟩ h) (fun r18 σ17 h => ?_)
        refine P_ci (R_v (ci := 12) C kv_X12_of_X12_strideAt (As := [.int r18]) rfl kd_74 rfl (fxl fx_74) (Nat.le_of_ble_eq_true rfl) dX12_of_124 ⟨Nat.le_refl _, Nat.le_refl _⟩ h) (fun r20 σ19 h => ?_)
        exact P_iret C dX12_of_127 h
      · exact absurd (Array.getElem?_eq_some_iff.mp ho).1 (Nat.not_lt.mpr (by show 9 ≤ _; omega))
  · have h := h.2 q3
    refine P_iconst C dX12_of_8 (v := (-1 : Int32)) rfl ?_
    exact P_iret C dX12_of_9 h
theorem fa_X12_goMinute_16 : FA RX12 wsX12_goMinute 16 12 2 "NineMowersModel" := by
  show _ ∧ _ ∧ _ ∧ _
  exact ⟨by decide +kernel, fun _ h => List.mem_cons_of_mem _ (List.mem_append_right _ h), List.mem_of_getElem? (i := 1) rfl, Or.inl rfl⟩
theorem fa_X12_goMinute_105 : FA RX12 wsX12_goMinute 105 12 31 "NineMowersModel" := by
  show _ ∧ _ ∧ _ ∧ _
  exact ⟨by decide +kernel, fun _ h => List.mem_cons_of_mem _ (List.mem_append_right _ h), List.mem_of_getElem? (i := 2) rfl, Or.inl rfl⟩
theorem kv_X12_goMinute_X12_strideAt : KV RX12 wsX12_goMinute (rmz 6) 332 RX12 yX12_strideAt wsX12_strideAt (rmz 5) 1 := ⟨_, _, _, _, gX12_goMinute_X12_strideAt, rfl, by decide +kernel, by decide +kernel⟩
theorem fa_X12_goMinute_13 : FA RX12 wsX12_goMinute 13 12 1 "NineMowersModel" := by
  show _ ∧ _ ∧ _ ∧ _
  exact ⟨by decide +kernel, fun _ h => List.mem_cons_of_mem _ (List.mem_append_right _ h), List.mem_of_getElem? (i := 5) rfl, Or.inl rfl⟩
theorem pa_X12_goMinute_13 : PA RX12 wsX12_goMinute 13 12 1 "NineMowersModel" .int := by
  show _ ∧ _ ∧ _ ∧ _ ∧ _ ∧ _ ∧ _ ∧ _
  exact ⟨by decide +kernel, fun _ h => List.mem_cons_of_mem _ (List.mem_append_right _ h), List.mem_of_getElem? (i := 5) rfl, rfl, rfl, by decide +kernel, ⟨tyX12, tyX12_ok⟩, nmX12⟩
theorem kv_X12_goMinute_X12_goes : KV RX12 wsX12_goMinute (rmz 6) 341 RX12 yX12_goes wsX12_goes (rmz 3) 1 := ⟨_, _, _, _, gX12_goMinute_X12_goes, rfl, by decide +kernel, by decide +kernel⟩
theorem fa_X12_goMinute_41 : FA RX12 wsX12_goMinute 41 12 10 "NineMowersModel" := by
  show _ ∧ _ ∧ _ ∧ _
  exact ⟨by decide +kernel, fun _ h => List.mem_cons_of_mem _ (List.mem_append_right _ h), List.mem_of_getElem? (i := 3) rfl, Or.inl rfl⟩
theorem fa_X12_goMinute_108 : FA RX12 wsX12_goMinute 108 12 32 "NineMowersModel" := by
  show _ ∧ _ ∧ _ ∧ _
  exact ⟨by decide +kernel, fun _ h => List.mem_cons_of_mem _ (List.mem_append_right _ h), List.mem_of_getElem? (i := 4) rfl, Or.inl rfl⟩
noncomputable def K_X12_goMinute (l : Launch) (V : Vx) (σ : Sg) (Qk : Int32 → Sg → Prop) : Prop := Ka l V yX12_goMinute wsX12_goMinute (rmz 6) 0 0 [.ref 74] σ (QI V Qk)
theorem e_X12_goMinute {l : Launch} {V : Vx} {σ : Sg} {Qk : Int32 → Sg → Prop} (h : ∀ M : Mx, mL M = l → mV M = V → mN M = 3 → Cx M cX12_goMinute (some .int) RX12 wsX12_goMinute (rmz 6) 0 0 (QI (mV M) Qk) → PS M 0 [(0, .ref 74)] [] σ (0, 0)) : K_X12_goMinute l V σ Qk :=
  Ka_of (by decide +kernel) rfl rfl (Nat.le_of_ble_eq_true rfl) (fun M h1 h2 h3 C => h M h1 h2 h3 (by rw [h2]; exact C))
set_option maxRecDepth 100000 in
set_option maxHeartbeats 4000000 in
theorem s_X12_goMinute_0 {M : Mx} {Qk : Int32 → Sg → Prop} (C : Cx M cX12_goMinute (some .int) RX12 wsX12_goMinute (rmz 6) 0 0 (QI (mV M) Qk)) (hN : mN M = 3) {σ : Sg} (h : PS M 2 [(0, .ref 74), (1, .int (0 : Int32))] [] σ (0, 0)) : PS M 0 [(0, .ref 74)] [] σ (0, 0) := by
  refine P_iconst C dX12_goMinute_0 (v := (0 : Int32)) rfl ?_
  refine P_istore_n C dX12_goMinute_1 (by rw [hN]; decide) rfl ?_
  exact P_sub [1, 0] rfl h
set_option maxRecDepth 100000 in
set_option maxHeartbeats 4000000 in
theorem s_X12_goMinute_2 {M : Mx} {Qk : Int32 → Sg → Prop} (C : Cx M cX12_goMinute (some .int) RX12 wsX12_goMinute (rmz 6) 0 0 (QI (mV M) Qk)) (hN : mN M = 3) {x1 : Int32} {σ : Sg} (h : (((gi σ 74 2) ≤ x1 → PS M 31 [(0, .ref 74), (1, .int (0 : Int32)), (2, .int (0 : Int32))] [] σ (0, 0)) ∧ (¬ (gi σ 74 2) ≤ x1 → K_X12_strideAt (mL M) (mV M) x1 σ (fun r3 σ2 => (vp_in x1 6 ∧ (∀ σ5 : Sg, σ5 = si σ2 131 x1.toNatClampNeg r3 → (∀ v6 : Int32, v6 = x1 + 1 → PS M 2 [(0, .ref 74), (1, .int v6)] [] σ5 (0, 0)))))))) : PS M 2 [(0, .ref 74), (1, .int x1)] [] σ (0, 0) := by
  refine P_iload_n C dX12_goMinute_2 1 rfl ?_
  refine P_aload_n C dX12_goMinute_3 0 rfl ?_
  refine P_getI C fa_X12_goMinute_16 kd_74 rfl (fxl fx_74) dX12_goMinute_4 ?_
  refine P_icmp_ge C dX12_goMinute_7 (tgt := 27) (by decide +kernel) (fun q1 => ?_) (fun q1 => ?_)
  · have h := h.1 q1
    refine P_iconst C dX12_goMinute_27 (v := (0 : Int32)) rfl ?_
    refine P_istore_n C dX12_goMinute_28 (by rw [hN]; decide) rfl ?_
    refine P_iconst C dX12_goMinute_29 (v := (0 : Int32)) rfl ?_
    refine P_istore_n C dX12_goMinute_30 (by rw [hN]; decide) rfl ?_
    exact P_sub [2, 1, 0] rfl h
  · have h := h.2 q1
    refine P_aload_n C dX12_goMinute_10 0 rfl ?_
    refine P_getS C (e := 131) fa_X12_goMinute_105 kd_74 (d := 57) rfl (fxl fx_74) rfl dX12_goMinute_11 ?_
    refine P_iload_n C dX12_goMinute_14 1 rfl ?_
    refine P_aload_n C dX12_goMinute_15 0 rfl ?_
    refine P_iload_n C dX12_goMinute_16 1 rfl ?_
    refine P_ci (R_v (ci := 12) C kv_X12_goMinute_X12_strideAt (As := [.int x1]) rfl kd_74 rfl (fxl fx_74) (Nat.le_of_ble_eq_true rfl) dX12_goMinute_17 ⟨Nat.le_refl _, Nat.le_refl _⟩ h) (fun r3 σ2 h => ?_)
    obtain ⟨hv4, h⟩ := h
    refine P_iast C kd_131 (fxl fx_131) hv4 dX12_goMinute_20 ?_
    refine P_nm (fun σ5 eσ5 => ?_)
    have h := h σ5 eσ5
    obtain ⟨v6, ev6⟩ : ∃ v : Int32, v = x1 + 1 := ⟨_, rfl⟩
    have h := h v6 ev6
    refine P_iinc (v := v6) C dX12_goMinute_21 1 rfl (by rw [ev6]; rfl) (by rw [hN]; decide) rfl ?_
    refine P_goto C dX12_goMinute_24 (tgt := 2) (by decide +kernel) ?_
    exact P_sub [1, 0] rfl h
set_option maxRecDepth 100000 in
set_option maxHeartbeats 4000000 in
theorem s_X12_goMinute_31 {M : Mx} {Qk : Int32 → Sg → Prop} (C : Cx M cX12_goMinute (some .int) RX12 wsX12_goMinute (rmz 6) 0 0 (QI (mV M) Qk)) (hN : mN M = 3) {x1 : Int32} {x2 : Int32} {σ : Sg} (h : (((gi σ 74 2) ≤ x2 → (∀ σ2 : Sg, σ2 = si σ 74 1 ((gi σ 74 1) + (1 : Int32)) → Qk x1 σ2)) ∧ (¬ (gi σ 74 2) ≤ x2 → K_X12_goes (mL M) (mV M) x2 σ (fun r4 σ3 => ((¬ r4 = 0 → (vp_in x2 6 ∧ (∀ v7 : Int32, v7 = x1 ||| ((1 : Int32) <<< ((gi σ3 110 x2.toNatClampNeg) &&& 31)) → (vp_in x2 6 ∧ (vp_in (gi σ3 110 x2.toNatClampNeg) 6 ∧ (vp_in (gi σ3 110 x2.toNatClampNeg) 6 ∧ (∀ σ11 : Sg, σ11 = si σ3 132 (gi σ3 110 x2.toNatClampNeg).toNatClampNeg ((gi σ3 132 (gi σ3 110 x2.toNatClampNeg).toNatClampNeg) + (1 : Int32)) → (∀ v12 : Int32, v12 = x2 + 1 → PS M 31 [(0, .ref 74), (1, .int v7), (2, .int v12)] [] σ11 (0, 0))))))))) ∧ (r4 = 0 → (∀ v13 : Int32, v13 = x2 + 1 → PS M 31 [(0, .ref 74), (1, .int x1), (2, .int v13)] [] σ3 (0, 0)))))))) : PS M 31 [(0, .ref 74), (1, .int x1), (2, .int x2)] [] σ (0, 0) := by
  refine P_iload_n C dX12_goMinute_31 2 rfl ?_
  refine P_aload_n C dX12_goMinute_32 0 rfl ?_
  refine P_getI C fa_X12_goMinute_16 kd_74 rfl (fxl fx_74) dX12_goMinute_33 ?_
  refine P_icmp_ge C dX12_goMinute_36 (tgt := 82) (by decide +kernel) (fun q1 => ?_) (fun q1 => ?_)
  · have h := h.1 q1
    refine P_aload_n C dX12_goMinute_82 0 rfl ?_
    refine P_dup C dX12_goMinute_83 rfl ?_
    refine P_getI C fa_X12_goMinute_13 kd_74 rfl (fxl fx_74) dX12_goMinute_84 ?_
    refine P_iconst C dX12_goMinute_87 (v := (1 : Int32)) rfl ?_
    refine P_iadd C dX12_goMinute_88 ?_
    refine P_putI C pa_X12_goMinute_13 kd_74 rfl (fxl fx_74) dX12_goMinute_89 ?_
    refine P_nm (fun σ2 eσ2 => ?_)
    have h := h σ2 eσ2
    refine P_iload_n C dX12_goMinute_92 1 rfl ?_
    exact P_iret C dX12_goMinute_93 h
  · have h := h.2 q1
    refine P_aload_n C dX12_goMinute_39 0 rfl ?_
    refine P_iload_n C dX12_goMinute_40 2 rfl ?_
    refine P_ci (R_v (ci := 12) C kv_X12_goMinute_X12_goes (As := [.int x2]) rfl kd_74 rfl (fxl fx_74) (Nat.le_of_ble_eq_true rfl) dX12_goMinute_41 ⟨Nat.le_refl _, Nat.le_refl _⟩ h) (fun r4 σ3 h => ?_)
    refine P_if_ne C dX12_goMinute_44 (tgt := 50) (by decide +kernel) (fun q5 => ?_) (fun q5 => ?_)
    · have h := h.1 q5
      refine P_iload_n C dX12_goMinute_50 1 rfl ?_
      refine P_iconst C dX12_goMinute_51 (v := (1 : Int32)) rfl ?_
      refine P_aload_n C dX12_goMinute_52 0 rfl ?_
      refine P_getS C (e := 110) fa_X12_goMinute_41 kd_74 (d := 36) rfl (fxl fx_74) rfl dX12_goMinute_53 ?_
      refine P_iload_n C dX12_goMinute_56 2 rfl ?_
      obtain ⟨hv6, h⟩ := h
      refine P_iald C kd_110 (fxl fx_110) hv6 dX12_goMinute_57 ?_
      refine P_ishl C dX12_goMinute_58 ?_
      refine P_ior C dX12_goMinute_59 ?_
      refine P_nmi (fun v7 ev7 => ?_)
      have h := h v7 ev7
      refine P_istore_n C dX12_goMinute_60 (by rw [hN]; decide) rfl ?_
      refine P_aload_n C dX12_goMinute_61 1 rfl ?_
      refine P_getS C (e := 132) fa_X12_goMinute_108 kd_74 (d := 58) rfl (fxl fx_74) rfl dX12_goMinute_62 ?_
      refine P_aload_n C dX12_goMinute_65 1 rfl ?_
      refine P_getS C (e := 110) fa_X12_goMinute_41 kd_74 (d := 36) rfl (fxl fx_74) rfl dX12_goMinute_66 ?_
      refine P_iload_n C dX12_goMinute_69 2 rfl ?_
      obtain ⟨hv8, h⟩ := h
      refine P_iald C kd_110 (fxl fx_110) hv8 dX12_goMinute_70 ?_
      refine P_dup2 C dX12_goMinute_71 rfl rfl ?_
      obtain ⟨hv9, h⟩ := h
      refine P_iald C kd_132 (fxl fx_132) hv9 dX12_goMinute_72 ?_
      refine P_iconst C dX12_goMinute_73 (v := (1 : Int32)) rfl ?_
      refine P_iadd C dX12_goMinute_74 ?_
      obtain ⟨hv10, h⟩ := h
      refine P_iast C kd_132 (fxl fx_132) hv10 dX12_goMinute_75 ?_
      refine P_nm (fun σ11 eσ11 => ?_)
      have h := h σ11 eσ11
      obtain ⟨v12, ev12⟩ : ∃ v : Int32, v = x2 + 1 := ⟨_, rfl⟩
      have h := h v12 ev12
      refine P_iinc (v := v12) C dX12_goMinute_76 2 rfl (by rw [ev12]; rfl) (by rw [hN]; decide) rfl ?_
      refine P_goto C dX12_goMinute_79 (tgt := 31) (by decide +kernel) ?_
      exact P_sub [2, 1, 0] rfl h
    · have h := h.2 q5
      refine P_goto C dX12_goMinute_47 (tgt := 76) (by decide +kernel) ?_
      obtain ⟨v13, ev13⟩ : ∃ v : Int32, v = x2 + 1 := ⟨_, rfl⟩
      have h := h v13 ev13
      refine P_iinc (v := v13) C dX12_goMinute_76 2 rfl (by rw [ev13]; rfl) (by rw [hN]; decide) rfl ?_
      refine P_goto C dX12_goMinute_79 (tgt := 31) (by decide +kernel) ?_
      exact P_sub [1, 2, 0] rfl h
theorem kv_X12_mowerTells_X12_body : KV RX12 wsX12_mowerTells (rmz 6) 406 RX12 yX12_body wsX12_body (rmz 0) 1 := ⟨_, _, _, _, gX12_mowerTells_X12_body, rfl, by decide +kernel, by decide +kernel⟩
theorem kv_X12_mowerTells_X12_whetsAct : KV RX12 wsX12_mowerTells (rmz 6) 421 RX12 yX12_whetsAct wsX12_whetsAct (rmz 5) 2 := ⟨_, _, _, _, gX12_mowerTells_X12_whetsAct, rfl, by decide +kernel, by decide +kernel⟩
noncomputable def K_X12_mowerTells (l : Launch) (V : Vx) (a1 : Int32) (a2 : Int32) (σ : Sg) (Qk : Int32 → Sg → Prop) : Prop := Ka l V yX12_mowerTells wsX12_mowerTells (rmz 6) 0 0 [.ref 74, .int a1, .int a2] σ (QI V Qk)
theorem e_X12_mowerTells {l : Launch} {V : Vx} {a1 : Int32} {a2 : Int32} {σ : Sg} {Qk : Int32 → Sg → Prop} (h : ∀ M : Mx, mL M = l → mV M = V → mN M = 3 → Cx M cX12_mowerTells (some .int) RX12 wsX12_mowerTells (rmz 6) 0 0 (QI (mV M) Qk) → PS M 0 [(0, .ref 74), (1, .int a1), (2, .int a2)] [] σ (0, 0)) : K_X12_mowerTells l V a1 a2 σ Qk :=
  Ka_of (by decide +kernel) rfl rfl (Nat.le_of_ble_eq_true rfl) (fun M h1 h2 h3 C => h M h1 h2 h3 (by rw [h2]; exact C))
set_option maxRecDepth 100000 in
set_option maxHeartbeats 4000000 in
theorem s_X12_mowerTells_0 {M : Mx} {Qk : Int32 → Sg → Prop} (C : Cx M cX12_mowerTells (some .int) RX12 wsX12_mowerTells (rmz 6) 0 0 (QI (mV M) Qk)) (hN : mN M = 3) {a1 : Int32} {a2 : Int32} {σ : Sg} (h : K_X12_body (mL M) (mV M) (12 : Int32) σ (fun σ1 => K_X12_whetsAct (mL M) (mV M) a1 a2 σ1 (fun r3 σ2 => Qk (r3 * (2 : Int32)) σ2))) : PS M 0 [(0, .ref 74), (1, .int a1), (2, .int a2)] [] σ (0, 0) := by
  refine P_aload_n C dX12_mowerTells_0 0 rfl ?_
  refine P_bipush C dX12_mowerTells_1 (v := (12 : Int32)) rfl ?_
  refine P_cv (R_v (ci := 12) C kv_X12_mowerTells_X12_body (As := [.int (12 : Int32)]) rfl kd_74 rfl (fxl fx_74) (Nat.le_of_ble_eq_true rfl) dX12_mowerTells_3 ⟨Nat.le_refl _, Nat.le_refl _⟩ h) (fun σ1 h => ?_)
  refine P_aload_n C dX12_mowerTells_6 0 rfl ?_
  refine P_iload_n C dX12_mowerTells_7 1 rfl ?_
  refine P_iload_n C dX12_mowerTells_8 2 rfl ?_
  refine P_ci (R_v (ci := 12) C kv_X12_mowerTells_X12_whetsAct (As := [.int a1, .int a2]) rfl kd_74 rfl (fxl fx_74) (Nat.le_of_ble_eq_true rfl) dX12_mowerTells_9 ⟨Nat.le_refl _, Nat.le_refl _⟩ h) (fun r3 σ2 h => ?_)
  refine P_iconst C dX12_mowerTells_12 (v := (2 : Int32)) rfl ?_
  refine P_imul C dX12_mowerTells_13 ?_
  exact P_iret C dX12_mowerTells_14 h
theorem fa_X12_field_44 : FA RX12 wsX12_field 44 12 11 "NineMowersModel" := by
  show _ ∧ _ ∧ _ ∧ _
  exact ⟨by decide +kernel, fun _ h => List.mem_cons_of_mem _ (List.mem_append_right _ h), List.mem_of_getElem? (i := 1) rfl, Or.inl rfl⟩
theorem kv_X12_field_X12_goesText : KV RX12 wsX12_field (rmz 7) 294 RX12 yX12_goesText wsX12_goesText (rmz 6) 1 := ⟨_, _, _, _, gX12_field_X12_goesText, rfl, by decide +kernel, by decide +kernel⟩
theorem pa_X12_field_50 : PA RX12 wsX12_field 50 12 13 "NineMowersModel" .int := by
  show _ ∧ _ ∧ _ ∧ _ ∧ _ ∧ _ ∧ _ ∧ _
  exact ⟨by decide +kernel, fun _ h => List.mem_cons_of_mem _ (List.mem_append_right _ h), List.mem_of_getElem? (i := 2) rfl, rfl, rfl, by decide +kernel, ⟨tyX12, tyX12_ok⟩, nmX12⟩
theorem pa_X12_field_47 : PA RX12 wsX12_field 47 12 12 "NineMowersModel" .int := by
  show _ ∧ _ ∧ _ ∧ _ ∧ _ ∧ _ ∧ _ ∧ _
  exact ⟨by decide +kernel, fun _ h => List.mem_cons_of_mem _ (List.mem_append_right _ h), List.mem_of_getElem? (i := 4) rfl, rfl, rfl, by decide +kernel, ⟨tyX12, tyX12_ok⟩, nmX12⟩
theorem pa_X12_field_44 : PA RX12 wsX12_field 44 12 11 "NineMowersModel" .int := by
  show _ ∧ _ ∧ _ ∧ _ ∧ _ ∧ _ ∧ _ ∧ _
  exact ⟨by decide +kernel, fun _ h => List.mem_cons_of_mem _ (List.mem_append_right _ h), List.mem_of_getElem? (i := 1) rfl, rfl, rfl, by decide +kernel, ⟨tyX12, tyX12_ok⟩, nmX12⟩
theorem fa_X12_field_47 : FA RX12 wsX12_field 47 12 12 "NineMowersModel" := by
  show _ ∧ _ ∧ _ ∧ _
  exact ⟨by decide +kernel, fun _ h => List.mem_cons_of_mem _ (List.mem_append_right _ h), List.mem_of_getElem? (i := 4) rfl, Or.inl rfl⟩
theorem fa_X12_field_53 : FA RX12 wsX12_field 53 12 14 "NineMowersModel" := by
  show _ ∧ _ ∧ _ ∧ _
  exact ⟨by decide +kernel, fun _ h => List.mem_cons_of_mem _ (List.mem_append_right _ h), List.mem_of_getElem? (i := 3) rfl, Or.inl rfl⟩
noncomputable def K_X12_field (l : Launch) (V : Vx) (σ : Sg) (Qk : Int32 → Sg → Prop) : Prop := Ka l V yX12_field wsX12_field (rmz 7) 0 0 [.ref 74] σ (QI V Qk)
theorem e_X12_field {l : Launch} {V : Vx} {σ : Sg} {Qk : Int32 → Sg → Prop} (h : ∀ M : Mx, mL M = l → mV M = V → mN M = 2 → Cx M cX12_field (some .int) RX12 wsX12_field (rmz 7) 0 0 (QI (mV M) Qk) → PS M 0 [(0, .ref 74)] [] σ (0, 0)) : K_X12_field l V σ Qk :=
  Ka_of (by decide +kernel) rfl rfl (Nat.le_of_ble_eq_true rfl) (fun M h1 h2 h3 C => h M h1 h2 h3 (by rw [h2]; exact C))
set_option maxRecDepth 100000 in
set_option maxHeartbeats 4000000 in
theorem s_X12_field_0 {M : Mx} {Qk : Int32 → Sg → Prop} (C : Cx M cX12_field (some .int) RX12 wsX12_field (rmz 7) 0 0 (QI (mV M) Qk)) (hN : mN M = 2) {σ : Sg} (h : ((¬ (gi σ 74 11) = (6 : Int32) → K_X12_goesText (mL M) (mV M) (gi σ 74 11) σ (fun r3 σ2 => (∀ σ4 : Sg, σ4 = si σ2 74 13 (0 : Int32) → ((¬ r3 = 0 → (∀ σ6 : Sg, σ6 = si σ4 74 12 (gi σ4 74 11) → (∀ σ7 : Sg, σ7 = si σ6 74 11 ((gi σ6 74 11) + (1 : Int32)) → Qk (gi σ7 74 12) σ7))) ∧ (r3 = 0 → Qk ((-10 : Int32) - (gi σ4 74 14)) σ4))))) ∧ ((gi σ 74 11) = (6 : Int32) → Qk (-4 : Int32) σ))) : PS M 0 [(0, .ref 74)] [] σ (0, 0) := by
  refine P_aload_n C dX12_field_0 0 rfl ?_
  refine P_getI C fa_X12_field_44 kd_74 rfl (fxl fx_74) dX12_field_1 ?_
  refine P_bipush C dX12_field_4 (v := (6 : Int32)) rfl ?_
  refine P_icmp_ne C dX12_field_6 (tgt := 12) (by decide +kernel) (fun q1 => ?_) (fun q1 => ?_)
  · have h := h.1 q1
    refine P_aload_n C dX12_field_12 0 rfl ?_
    refine P_aload_n C dX12_field_13 0 rfl ?_
    refine P_getI C fa_X12_field_44 kd_74 rfl (fxl fx_74) dX12_field_14 ?_
    refine P_ci (R_v (ci := 12) C kv_X12_field_X12_goesText (As := [.int (gi σ 74 11)]) rfl kd_74 rfl (fxl fx_74) (Nat.le_of_ble_eq_true rfl) dX12_field_17 ⟨Nat.le_refl _, Nat.le_refl _⟩ h) (fun r3 σ2 h => ?_)
    refine P_istore_n C dX12_field_20 (by rw [hN]; decide) rfl ?_
    refine P_aload_n C dX12_field_21 1 rfl ?_
    refine P_iconst C dX12_field_22 (v := (0 : Int32)) rfl ?_
    refine P_putI C pa_X12_field_50 kd_74 rfl (fxl fx_74) dX12_field_23 ?_
    refine P_nm (fun σ4 eσ4 => ?_)
    have h := h σ4 eσ4
    refine P_iload_n C dX12_field_26 0 rfl ?_
    refine P_if_ne C dX12_field_27 (tgt := 38) (by decide +kernel) (fun q5 => ?_) (fun q5 => ?_)
    · have h := h.1 q5
      refine P_aload_n C dX12_field_38 1 rfl ?_
      refine P_aload_n C dX12_field_39 1 rfl ?_
      refine P_getI C fa_X12_field_44 kd_74 rfl (fxl fx_74) dX12_field_40 ?_
      refine P_putI C pa_X12_field_47 kd_74 rfl (fxl fx_74) dX12_field_43 ?_
      refine P_nm (fun σ6 eσ6 => ?_)
      have h := h σ6 eσ6
      refine P_aload_n C dX12_field_46 1 rfl ?_
      refine P_dup C dX12_field_47 rfl ?_
      refine P_getI C fa_X12_field_44 kd_74 rfl (fxl fx_74) dX12_field_48 ?_
      refine P_iconst C dX12_field_51 (v := (1 : Int32)) rfl ?_
      refine P_iadd C dX12_field_52 ?_
      refine P_putI C pa_X12_field_44 kd_74 rfl (fxl fx_74) dX12_field_53 ?_
      refine P_nm (fun σ7 eσ7 => ?_)
      have h := h σ7 eσ7
      refine P_aload_n C dX12_field_56 1 rfl ?_
      refine P_getI C fa_X12_field_47 kd_74 rfl (fxl fx_74) dX12_field_57 ?_
      exact P_iret C dX12_field_60 h
    · have h := h.2 q5
      refine P_bipush C dX12_field_30 (v := (-10 : Int32)) rfl ?_
      refine P_aload_n C dX12_field_32 1 rfl ?_
      refine P_getI C fa_X12_field_53 kd_74 rfl (fxl fx_74) dX12_field_33 ?_
      refine P_isub C dX12_field_36 ?_
      exact P_iret C dX12_field_37 h
  · have h := h.2 q1
    refine P_bipush C dX12_field_9 (v := (-4 : Int32)) rfl ?_
    exact P_iret C dX12_field_11 h
theorem kv_X12_goMinutes_X12_goMinute : KV RX12 wsX12_goMinutes (rmz 7) 344 RX12 yX12_goMinute wsX12_goMinute (rmz 6) 0 := ⟨_, _, _, _, gX12_goMinutes_X12_goMinute, rfl, by decide +kernel, by decide +kernel⟩
noncomputable def K_X12_goMinutes (l : Launch) (V : Vx) (a1 : Int32) (σ : Sg) (Qk : Sg → Prop) : Prop := Ka l V yX12_goMinutes wsX12_goMinutes (rmz 7) 0 0 [.ref 74, .int a1] σ (QV V Qk)
theorem e_X12_goMinutes {l : Launch} {V : Vx} {a1 : Int32} {σ : Sg} {Qk : Sg → Prop} (h : ∀ M : Mx, mL M = l → mV M = V → mN M = 4 → Cx M cX12_goMinutes none RX12 wsX12_goMinutes (rmz 7) 0 0 (QV (mV M) Qk) → PS M 0 [(0, .ref 74), (1, .int a1)] [] σ (0, 0)) : K_X12_goMinutes l V a1 σ Qk :=
  Ka_of (by decide +kernel) rfl rfl (Nat.le_of_ble_eq_true rfl) (fun M h1 h2 h3 C => h M h1 h2 h3 (by rw [h2]; exact C))
set_option maxRecDepth 100000 in
set_option maxHeartbeats 4000000 in
theorem s_X12_goMinutes_0 {M : Mx} {Qk : Sg → Prop} (C : Cx M cX12_goMinutes none RX12 wsX12_goMinutes (rmz 7) 0 0 (QV (mV M) Qk)) (hN : mN M = 4) {a1 : Int32} {σ : Sg} (h : PS M 2 [(0, .ref 74), (1, .int a1), (2, .int (0 : Int32))] [] σ (0, 0)) : PS M 0 [(0, .ref 74), (1, .int a1)] [] σ (0, 0) := by
  refine P_iconst C dX12_goMinutes_0 (v := (0 : Int32)) rfl ?_
  refine P_istore_n C dX12_goMinutes_1 (by rw [hN]; decide) rfl ?_
  exact P_sub [1, 2, 0] rfl h
set_option maxRecDepth 100000 in
set_option maxHeartbeats 4000000 in
theorem s_X12_goMinutes_2 {M : Mx} {Qk : Sg → Prop} (C : Cx M cX12_goMinutes none RX12 wsX12_goMinutes (rmz 7) 0 0 (QV (mV M) Qk)) (hN : mN M = 4) {x1 : Int32} {x2 : Int32} {σ : Sg} (h : ((x1 ≤ x2 → Qk σ) ∧ (¬ x1 ≤ x2 → K_X12_goMinute (mL M) (mV M) σ (fun r3 σ2 => (∀ v4 : Int32, v4 = x2 + 1 → PS M 2 [(0, .ref 74), (1, .int x1), (2, .int v4)] [] σ2 (0, 0)))))) : PS M 2 [(0, .ref 74), (1, .int x1), (2, .int x2)] [] σ (0, 0) := by
  refine P_iload_n C dX12_goMinutes_2 2 rfl ?_
  refine P_iload_n C dX12_goMinutes_3 1 rfl ?_
  refine P_icmp_ge C dX12_goMinutes_4 (tgt := 18) (by decide +kernel) (fun q1 => ?_) (fun q1 => ?_)
  · have h := h.1 q1
    exact P_vret C dX12_goMinutes_18 h
  · have h := h.2 q1
    refine P_aload_n C dX12_goMinutes_7 0 rfl ?_
    refine P_ci (R_v (ci := 12) C kv_X12_goMinutes_X12_goMinute (As := []) rfl kd_74 rfl (fxl fx_74) (Nat.le_of_ble_eq_true rfl) dX12_goMinutes_8 ⟨Nat.le_refl _, Nat.le_refl _⟩ h) (fun r3 σ2 h => ?_)
    refine P_istore_n C dX12_goMinutes_11 (by rw [hN]; decide) rfl ?_
    obtain ⟨v4, ev4⟩ : ∃ v : Int32, v = x2 + 1 := ⟨_, rfl⟩
    have h := h v4 ev4
    refine P_iinc (v := v4) C dX12_goMinutes_12 3 rfl (by rw [ev4]; rfl) (by rw [hN]; decide) rfl ?_
    refine P_goto C dX12_goMinutes_15 (tgt := 2) (by decide +kernel) ?_
    exact P_sub [2, 3, 0] rfl h
theorem fa_X12_minute_13 : FA RX12 wsX12_minute 13 12 1 "NineMowersModel" := by
  show _ ∧ _ ∧ _ ∧ _
  exact ⟨by decide +kernel, fun _ h => List.mem_cons_of_mem _ (List.mem_append_right _ h), List.mem_of_getElem? (i := 1) rfl, Or.inl rfl⟩
theorem kv_X12_minute_X12_goMinute : KV RX12 wsX12_minute (rmz 7) 344 RX12 yX12_goMinute wsX12_goMinute (rmz 6) 0 := ⟨_, _, _, _, gX12_minute_X12_goMinute, rfl, by decide +kernel, by decide +kernel⟩
noncomputable def K_X12_minute (l : Launch) (V : Vx) (σ : Sg) (Qk : Int32 → Sg → Prop) : Prop := Ka l V yX12_minute wsX12_minute (rmz 7) 0 0 [.ref 74] σ (QI V Qk)
theorem e_X12_minute {l : Launch} {V : Vx} {σ : Sg} {Qk : Int32 → Sg → Prop} (h : ∀ M : Mx, mL M = l → mV M = V → mN M = 1 → Cx M cX12_minute (some .int) RX12 wsX12_minute (rmz 7) 0 0 (QI (mV M) Qk) → PS M 0 [(0, .ref 74)] [] σ (0, 0)) : K_X12_minute l V σ Qk :=
  Ka_of (by decide +kernel) rfl rfl (Nat.le_of_ble_eq_true rfl) (fun M h1 h2 h3 C => h M h1 h2 h3 (by rw [h2]; exact C))
set_option maxRecDepth 100000 in
set_option maxHeartbeats 4000000 in
theorem s_X12_minute_0 {M : Mx} {Qk : Int32 → Sg → Prop} (C : Cx M cX12_minute (some .int) RX12 wsX12_minute (rmz 7) 0 0 (QI (mV M) Qk)) (hN : mN M = 1) {σ : Sg} (h : ((¬ (gi σ 74 1) = (9999 : Int32) → K_X12_goMinute (mL M) (mV M) σ (fun r3 σ2 => Qk r3 σ2)) ∧ ((gi σ 74 1) = (9999 : Int32) → Qk (-3 : Int32) σ))) : PS M 0 [(0, .ref 74)] [] σ (0, 0) := by
  refine P_aload_n C dX12_minute_0 0 rfl ?_
  refine P_getI C fa_X12_minute_13 kd_74 rfl (fxl fx_74) dX12_minute_1 ?_
  refine P_sipush C dX12_minute_4 (v := (9999 : Int32)) rfl ?_
  refine P_icmp_ne C dX12_minute_7 (tgt := 15) (by decide +kernel) (fun q1 => ?_) (fun q1 => ?_)
  · have h := h.1 q1
    refine P_aload_n C dX12_minute_15 0 rfl ?_
    refine P_ci (R_v (ci := 12) C kv_X12_minute_X12_goMinute (As := []) rfl kd_74 rfl (fxl fx_74) (Nat.le_of_ble_eq_true rfl) dX12_minute_16 ⟨Nat.le_refl _, Nat.le_refl _⟩ h) (fun r3 σ2 h => ?_)
    exact P_iret C dX12_minute_19 h
  · have h := h.2 q1
    refine P_bipush C dX12_minute_10 (v := (-3 : Int32)) rfl ?_
    refine P_goto C dX12_minute_12 (tgt := 19) (by decide +kernel) ?_
    exact P_iret C dX12_minute_19 h
theorem kv_X12_looked_X12_save : KV RX12 wsX12_looked (rmz 7) 353 RX12 yX12_save wsX12_save (rmz 0) 0 := ⟨_, _, _, _, gX12_looked_X12_save, rfl, by decide +kernel, by decide +kernel⟩
theorem kv_X12_looked_X12_goMinute : KV RX12 wsX12_looked (rmz 7) 344 RX12 yX12_goMinute wsX12_goMinute (rmz 6) 0 := ⟨_, _, _, _, gX12_looked_X12_goMinute, rfl, by decide +kernel, by decide +kernel⟩
theorem kv_X12_looked_X12_putBack : KV RX12 wsX12_looked (rmz 7) 362 RX12 yX12_putBack wsX12_putBack (rmz 0) 0 := ⟨_, _, _, _, gX12_looked_X12_putBack, rfl, by decide +kernel, by decide +kernel⟩
theorem fa_X12_looked_150 : FA RX12 wsX12_looked 150 12 46 "NineMowersModel" := by
  show _ ∧ _ ∧ _ ∧ _
  exact ⟨by decide +kernel, fun _ h => List.mem_cons_of_mem _ (List.mem_append_right _ h), List.mem_of_getElem? (i := 1) rfl, Or.inl rfl⟩
theorem fa_X12_looked_156 : FA RX12 wsX12_looked 156 12 48 "NineMowersModel" := by
  show _ ∧ _ ∧ _ ∧ _
  exact ⟨by decide +kernel, fun _ h => List.mem_cons_of_mem _ (List.mem_append_right _ h), List.mem_of_getElem? (i := 2) rfl, Or.inl rfl⟩
theorem kv_X12_looked_X12_has : KV RX12 wsX12_looked (rmz 7) 368 RX12 yX12_has wsX12_has (rmz 0) 2 := ⟨_, _, _, _, gX12_looked_X12_has, rfl, by decide +kernel, by decide +kernel⟩
noncomputable def K_X12_looked (l : Launch) (V : Vx) (σ : Sg) (Qk : Int32 → Sg → Prop) : Prop := Ka l V yX12_looked wsX12_looked (rmz 7) 0 0 [.ref 74] σ (QI V Qk)
theorem e_X12_looked {l : Launch} {V : Vx} {σ : Sg} {Qk : Int32 → Sg → Prop} (h : ∀ M : Mx, mL M = l → mV M = V → mN M = 3 → Cx M cX12_looked (some .int) RX12 wsX12_looked (rmz 7) 0 0 (QI (mV M) Qk) → PS M 0 [(0, .ref 74)] [] σ (0, 0)) : K_X12_looked l V σ Qk :=
  Ka_of (by decide +kernel) rfl rfl (Nat.le_of_ble_eq_true rfl) (fun M h1 h2 h3 C => h M h1 h2 h3 (by rw [h2]; exact C))
set_option maxRecDepth 100000 in
set_option maxHeartbeats 4000000 in
theorem s_X12_looked_0 {M : Mx} {Qk : Int32 → Sg → Prop} (C : Cx M cX12_looked (some .int) RX12 wsX12_looked (rmz 7) 0 0 (QI (mV M) Qk)) (hN : mN M = 3) {σ : Sg} (h : K_X12_save (mL M) (mV M) σ (fun σ1 => K_X12_goMinute (mL M) (mV M) σ1 (fun r3 σ2 => K_X12_putBack (mL M) (mV M) σ2 (fun σ4 => PS M 15 [(0, .ref 74), (1, .int r3), (2, .int (0 : Int32))] [] σ4 (0, 0))))) : PS M 0 [(0, .ref 74)] [] σ (0, 0) := by
  refine P_aload_n C dX12_looked_0 0 rfl ?_
  refine P_cv (R_v (ci := 12) C kv_X12_looked_X12_save (As := []) rfl kd_74 rfl (fxl fx_74) (Nat.le_of_ble_eq_true rfl) dX12_looked_1 ⟨Nat.le_refl _, Nat.le_refl _⟩ h) (fun σ1 h => ?_)
  refine P_aload_n C dX12_looked_4 0 rfl ?_
  refine P_ci (R_v (ci := 12) C kv_X12_looked_X12_goMinute (As := []) rfl kd_74 rfl (fxl fx_74) (Nat.le_of_ble_eq_true rfl) dX12_looked_5 ⟨Nat.le_refl _, Nat.le_refl _⟩ h) (fun r3 σ2 h => ?_)
  refine P_istore_n C dX12_looked_8 (by rw [hN]; decide) rfl ?_
  refine P_aload_n C dX12_looked_9 1 rfl ?_
  refine P_cv (R_v (ci := 12) C kv_X12_looked_X12_putBack (As := []) rfl kd_74 rfl (fxl fx_74) (Nat.le_of_ble_eq_true rfl) dX12_looked_10 ⟨Nat.le_refl _, Nat.le_refl _⟩ h) (fun σ4 h => ?_)
  refine P_iconst C dX12_looked_13 (v := (0 : Int32)) rfl ?_
  refine P_istore_n C dX12_looked_14 (by rw [hN]; decide) rfl ?_
  exact P_sub [2, 1, 0] rfl h
set_option maxRecDepth 100000 in
set_option maxHeartbeats 4000000 in
theorem s_X12_looked_15 {M : Mx} {Qk : Int32 → Sg → Prop} (C : Cx M cX12_looked (some .int) RX12 wsX12_looked (rmz 7) 0 0 (QI (mV M) Qk)) (hN : mN M = 3) {x1 : Int32} {x2 : Int32} {σ : Sg} (h : (((gi σ 74 46) ≤ x2 → Qk (-5 : Int32) σ) ∧ (¬ (gi σ 74 46) ≤ x2 → (vp_in x2 8 ∧ K_X12_has (mL M) (mV M) x1 (gi σ 148 x2.toNatClampNeg) σ (fun r4 σ3 => ((¬ r4 = 0 → (∀ v6 : Int32, v6 = x2 + 1 → PS M 15 [(0, .ref 74), (1, .int x1), (2, .int v6)] [] σ3 (0, 0))) ∧ (r4 = 0 → Qk x2 σ3))))))) : PS M 15 [(0, .ref 74), (1, .int x1), (2, .int x2)] [] σ (0, 0) := by
  refine P_iload_n C dX12_looked_15 2 rfl ?_
  refine P_aload_n C dX12_looked_16 0 rfl ?_
  refine P_getI C fa_X12_looked_150 kd_74 rfl (fxl fx_74) dX12_looked_17 ?_
  refine P_icmp_ge C dX12_looked_20 (tgt := 45) (by decide +kernel) (fun q1 => ?_) (fun q1 => ?_)
  · have h := h.1 q1
    refine P_bipush C dX12_looked_45 (v := (-5 : Int32)) rfl ?_
    exact P_iret C dX12_looked_47 h
  · have h := h.2 q1
    refine P_aload_n C dX12_looked_23 0 rfl ?_
    refine P_iload_n C dX12_looked_24 1 rfl ?_
    refine P_aload_n C dX12_looked_25 0 rfl ?_
    refine P_getS C (e := 148) fa_X12_looked_156 kd_74 (d := 74) rfl (fxl fx_74) rfl dX12_looked_26 ?_
    refine P_iload_n C dX12_looked_29 2 rfl ?_
    obtain ⟨hv2, h⟩ := h
    refine P_iald C kd_148 (fxl fx_148) hv2 dX12_looked_30 ?_
    refine P_ci (R_v (ci := 12) C kv_X12_looked_X12_has (As := [.int x1, .int (gi σ 148 x2.toNatClampNeg)]) rfl kd_74 rfl (fxl fx_74) (Nat.le_of_ble_eq_true rfl) dX12_looked_31 ⟨Nat.le_refl _, Nat.le_refl _⟩ h) (fun r4 σ3 h => ?_)
    refine P_if_ne C dX12_looked_34 (tgt := 39) (by decide +kernel) (fun q5 => ?_) (fun q5 => ?_)
    · have h := h.1 q5
      obtain ⟨v6, ev6⟩ : ∃ v : Int32, v = x2 + 1 := ⟨_, rfl⟩
      have h := h v6 ev6
      refine P_iinc (v := v6) C dX12_looked_39 2 rfl (by rw [ev6]; rfl) (by rw [hN]; decide) rfl ?_
      refine P_goto C dX12_looked_42 (tgt := 15) (by decide +kernel) ?_
      exact P_sub [1, 2, 0] rfl h
    · have h := h.2 q5
      refine P_iload_n C dX12_looked_37 2 rfl ?_
      exact P_iret C dX12_looked_38 h
theorem fa_X12_tellsAct_19 : FA RX12 wsX12_tellsAct 19 12 3 "NineMowersModel" := by
  show _ ∧ _ ∧ _ ∧ _
  exact ⟨by decide +kernel, fun _ h => List.mem_cons_of_mem _ (List.mem_append_right _ h), List.mem_of_getElem? (i := 1) rfl, Or.inl rfl⟩
theorem kv_X12_tellsAct_X12_mowerTells : KV RX12 wsX12_tellsAct (rmz 7) 424 RX12 yX12_mowerTells wsX12_mowerTells (rmz 6) 2 := ⟨_, _, _, _, gX12_tellsAct_X12_mowerTells, rfl, by decide +kernel, by decide +kernel⟩
theorem kv_X12_tellsAct_X12_body : KV RX12 wsX12_tellsAct (rmz 7) 406 RX12 yX12_body wsX12_body (rmz 0) 1 := ⟨_, _, _, _, gX12_tellsAct_X12_body, rfl, by decide +kernel, by decide +kernel⟩
theorem kv_X12_tellsAct_X12_whetsAct : KV RX12 wsX12_tellsAct (rmz 7) 421 RX12 yX12_whetsAct wsX12_whetsAct (rmz 5) 2 := ⟨_, _, _, _, gX12_tellsAct_X12_whetsAct, rfl, by decide +kernel, by decide +kernel⟩
noncomputable def K_X12_tellsAct (l : Launch) (V : Vx) (a1 : Int32) (a2 : Int32) (σ : Sg) (Qk : Int32 → Sg → Prop) : Prop := Ka l V yX12_tellsAct wsX12_tellsAct (rmz 7) 0 0 [.ref 74, .int a1, .int a2] σ (QI V Qk)
theorem e_X12_tellsAct {l : Launch} {V : Vx} {a1 : Int32} {a2 : Int32} {σ : Sg} {Qk : Int32 → Sg → Prop} (h : ∀ M : Mx, mL M = l → mV M = V → mN M = 4 → Cx M cX12_tellsAct (some .int) RX12 wsX12_tellsAct (rmz 7) 0 0 (QI (mV M) Qk) → PS M 0 [(0, .ref 74), (1, .int a1), (2, .int a2)] [] σ (0, 0)) : K_X12_tellsAct l V a1 a2 σ Qk :=
  Ka_of (by decide +kernel) rfl rfl (Nat.le_of_ble_eq_true rfl) (fun M h1 h2 h3 C => h M h1 h2 h3 (by rw [h2]; exact C))
set_option maxRecDepth 100000 in
set_option maxHeartbeats 4000000 in
theorem s_X12_tellsAct_0 {M : Mx} {Qk : Int32 → Sg → Prop} (C : Cx M cX12_tellsAct (some .int) RX12 wsX12_tellsAct (rmz 7) 0 0 (QI (mV M) Qk)) (hN : mN M = 4) {a1 : Int32} {a2 : Int32} {σ : Sg} (h : (vp_in a1 6 ∧ (((gi σ 103 a1.toNatClampNeg).toInt < 3 ∨ 6 < (gi σ 103 a1.toNatClampNeg).toInt → K_X12_mowerTells (mL M) (mV M) a1 a2 σ (fun r3 σ2 => Qk r3 σ2)) ∧ ((gi σ 103 a1.toNatClampNeg).toInt = 3 → PS M 36 [(0, .ref 74), (1, .int a1), (2, .int a2)] [] σ (0, 0)) ∧ ((gi σ 103 a1.toNatClampNeg).toInt = 4 → K_X12_mowerTells (mL M) (mV M) a1 a2 σ (fun r6 σ5 => Qk r6 σ5)) ∧ ((gi σ 103 a1.toNatClampNeg).toInt = 5 → K_X12_body (mL M) (mV M) (60 : Int32) σ (fun σ7 => K_X12_mowerTells (mL M) (mV M) a1 (a2 - a1) σ7 (fun r9 σ8 => Qk r9 σ8))) ∧ ((gi σ 103 a1.toNatClampNeg).toInt = 6 → PS M 36 [(0, .ref 74), (1, .int a1), (2, .int a2)] [] σ (0, 0))))) : PS M 0 [(0, .ref 74), (1, .int a1), (2, .int a2)] [] σ (0, 0) := by
  refine P_aload_n C dX12_tellsAct_0 0 rfl ?_
  refine P_getS C (e := 103) fa_X12_tellsAct_19 kd_74 (d := 29) rfl (fxl fx_74) rfl dX12_tellsAct_1 ?_
  refine P_iload_n C dX12_tellsAct_4 1 rfl ?_
  obtain ⟨hv1, h⟩ := h
  refine P_iald C kd_103 (fxl fx_103) hv1 dX12_tellsAct_5 ?_
  refine P_tsw C dX12_tellsAct_6 73 (by decide +kernel) (fun q4 => ?_) (by decide +kernel) (fun i off ho q4 => ?_)
  · have h := h.1 q4
    refine P_aload_n C dX12_tellsAct_73 0 rfl ?_
    refine P_iload_n C dX12_tellsAct_74 1 rfl ?_
    refine P_iload_n C dX12_tellsAct_75 2 rfl ?_
    refine P_ci (R_v (ci := 12) C kv_X12_tellsAct_X12_mowerTells (As := [.int a1, .int a2]) rfl kd_74 rfl (fxl fx_74) (Nat.le_of_ble_eq_true rfl) dX12_tellsAct_76 ⟨Nat.le_refl _, Nat.le_refl _⟩ h) (fun r3 σ2 h => ?_)
    exact P_iret C dX12_tellsAct_79 h
  · rcases i with _ | _ | _ | _ | i
    · obtain rfl : (30 : Int) = off := Option.some.inj ho
      refine ⟨?_, by decide +kernel⟩
      show PS M 36 _ _ _ _
      have h := h.2.1 (by have q := q4; simp at q; omega)
      exact P_sub [0, 1, 2] rfl h
    · obtain rfl : (67 : Int) = off := Option.some.inj ho
      refine ⟨?_, by decide +kernel⟩
      show PS M 73 _ _ _ _
      have h := h.2.2.1 (by have q := q4; simp at q; omega)
      refine P_aload_n C dX12_tellsAct_73 0 rfl ?_
      refine P_iload_n C dX12_tellsAct_74 1 rfl ?_
      refine P_iload_n C dX12_tellsAct_75 2 rfl ?_
      refine P_ci (R_v (ci := 12) C kv_X12_tellsAct_X12_mowerTells (As := [.int a1, .int a2]) rfl kd_74 rfl (fxl fx_74) (Nat.le_of_ble_eq_true rfl) dX12_tellsAct_76 ⟨Nat.le_refl _, Nat.le_refl _⟩ h) (fun r6 σ5 h => ?_)
      exact P_iret C dX12_tellsAct_79 h
    · obtain rfl : (52 : Int) = off := Option.some.inj ho
      refine ⟨?_, by decide +kernel⟩
      show PS M 58 _ _ _ _
      have h := h.2.2.2.1 (by have q := q4; simp at q; omega)
      refine P_aload_n C dX12_tellsAct_58 0 rfl ?_
      refine P_bipush C dX12_tellsAct_59 (v := (60 : Int32)) rfl ?_
      refine P_cv (R_v (ci := 12) C kv_X12_tellsAct_X12_body (As := [.int (60 : Int32)]) rfl kd_74 rfl (fxl fx_74) (Nat.le_of_ble_eq_true rfl) dX12_tellsAct_61 ⟨Nat.le_refl _, Nat.le_refl _⟩ h) (fun σ7 h => ?_)
      refine P_aload_n C dX12_tellsAct_64 0 rfl ?_
      refine P_iload_n C dX12_tellsAct_65 1 rfl ?_
      refine P_iload_n C dX12_tellsAct_66 2 rfl ?_
      refine P_iload_n C dX12_tellsAct_67 1 rfl ?_
      refine P_isub C dX12_tellsAct_68 ?_
      refine P_ci (R_v (ci := 12) C kv_X12_tellsAct_X12_mowerTells (As := [.int a1, .int (a2 - a1)]) rfl kd_74 rfl (fxl fx_74) (Nat.le_of_ble_eq_true rfl) dX12_tellsAct_69 ⟨Nat.le_refl _, Nat.le_refl _⟩ h) (fun r9 σ8 h => ?_)
      exact P_iret C dX12_tellsAct_72 h
    · obtain rfl : (30 : Int) = off := Option.some.inj ho
      refine ⟨?_, by decide +kernel⟩
      show PS M 36 _ _ _ _
      have h := h.2.2.2.2 (by have q := q4; simp at q; omega)
      exact P_sub [0, 1, 2] rfl h
    · exact absurd (Array.getElem?_eq_some_iff.mp ho).1 (Nat.not_lt.mpr (by show 4 ≤ _; omega))
set_option maxRecDepth 100000 in
set_option maxHeartbeats 4000000 in
theorem s_X12_tellsAct_36 {M : Mx} {Qk : Int32 → Sg → Prop} (C : Cx M cX12_tellsAct (some .int) RX12 wsX12_tellsAct (rmz 7) 0 0 (QI (mV M) Qk)) (hN : mN M = 4) {x1 : Int32} {x2 : Int32} {σ : Sg} (h : K_X12_body (mL M) (mV M) (40 : Int32) σ (fun σ1 => K_X12_mowerTells (mL M) (mV M) x1 x2 σ1 (fun r3 σ2 => K_X12_whetsAct (mL M) (mV M) x1 (1 : Int32) σ2 (fun r5 σ4 => Qk (r3 + r5) σ4)))) : PS M 36 [(0, .ref 74), (1, .int x1), (2, .int x2)] [] σ (0, 0) := by
  refine P_aload_n C dX12_tellsAct_36 0 rfl ?_
  refine P_bipush C dX12_tellsAct_37 (v := (40 : Int32)) rfl ?_
  refine P_cv (R_v (ci := 12) C kv_X12_tellsAct_X12_body (As := [.int (40 : Int32)]) rfl kd_74 rfl (fxl fx_74) (Nat.le_of_ble_eq_true rfl) dX12_tellsAct_39 ⟨Nat.le_refl _, Nat.le_refl _⟩ h) (fun σ1 h => ?_)
  refine P_aload_n C dX12_tellsAct_42 0 rfl ?_
  refine P_iload_n C dX12_tellsAct_43 1 rfl ?_
  refine P_iload_n C dX12_tellsAct_44 2 rfl ?_
  refine P_ci (R_v (ci := 12) C kv_X12_tellsAct_X12_mowerTells (As := [.int x1, .int x2]) rfl kd_74 rfl (fxl fx_74) (Nat.le_of_ble_eq_true rfl) dX12_tellsAct_45 ⟨Nat.le_refl _, Nat.le_refl _⟩ h) (fun r3 σ2 h => ?_)
  refine P_istore_n C dX12_tellsAct_48 (by rw [hN]; decide) rfl ?_
  refine P_iload_n C dX12_tellsAct_49 0 rfl ?_
  refine P_aload_n C dX12_tellsAct_50 1 rfl ?_
  refine P_iload_n C dX12_tellsAct_51 2 rfl ?_
  refine P_iconst C dX12_tellsAct_52 (v := (1 : Int32)) rfl ?_
  refine P_ci (R_v (ci := 12) C kv_X12_tellsAct_X12_whetsAct (As := [.int x1, .int (1 : Int32)]) rfl kd_74 rfl (fxl fx_74) (Nat.le_of_ble_eq_true rfl) dX12_tellsAct_53 ⟨Nat.le_refl _, Nat.le_refl _⟩ h) (fun r5 σ4 h => ?_)
  refine P_iadd C dX12_tellsAct_56 ?_
  exact P_iret C dX12_tellsAct_57 h
theorem kv_X12_allBehind_X12_save : KV RX12 wsX12_allBehind (rmz 8) 353 RX12 yX12_save wsX12_save (rmz 0) 0 := ⟨_, _, _, _, gX12_allBehind_X12_save, rfl, by decide +kernel, by decide +kernel⟩
theorem kv_X12_allBehind_X12_goMinutes : KV RX12 wsX12_allBehind (rmz 8) 356 RX12 yX12_goMinutes wsX12_goMinutes (rmz 7) 1 := ⟨_, _, _, _, gX12_allBehind_X12_goMinutes, rfl, by decide +kernel, by decide +kernel⟩
theorem kv_X12_allBehind_X12_all : KV RX12 wsX12_allBehind (rmz 8) 359 RX12 yX12_all wsX12_all (rmz 0) 0 := ⟨_, _, _, _, gX12_allBehind_X12_all, rfl, by decide +kernel, by decide +kernel⟩
theorem kv_X12_allBehind_X12_putBack : KV RX12 wsX12_allBehind (rmz 8) 362 RX12 yX12_putBack wsX12_putBack (rmz 0) 0 := ⟨_, _, _, _, gX12_allBehind_X12_putBack, rfl, by decide +kernel, by decide +kernel⟩
noncomputable def K_X12_allBehind (l : Launch) (V : Vx) (a1 : Int32) (σ : Sg) (Qk : Int32 → Sg → Prop) : Prop := Ka l V yX12_allBehind wsX12_allBehind (rmz 8) 0 0 [.ref 74, .int a1] σ (QI V Qk)
theorem e_X12_allBehind {l : Launch} {V : Vx} {a1 : Int32} {σ : Sg} {Qk : Int32 → Sg → Prop} (h : ∀ M : Mx, mL M = l → mV M = V → mN M = 3 → Cx M cX12_allBehind (some .int) RX12 wsX12_allBehind (rmz 8) 0 0 (QI (mV M) Qk) → PS M 0 [(0, .ref 74), (1, .int a1)] [] σ (0, 0)) : K_X12_allBehind l V a1 σ Qk :=
  Ka_of (by decide +kernel) rfl rfl (Nat.le_of_ble_eq_true rfl) (fun M h1 h2 h3 C => h M h1 h2 h3 (by rw [h2]; exact C))
set_option maxRecDepth 100000 in
set_option maxHeartbeats 4000000 in
theorem s_X12_allBehind_0 {M : Mx} {Qk : Int32 → Sg → Prop} (C : Cx M cX12_allBehind (some .int) RX12 wsX12_allBehind (rmz 8) 0 0 (QI (mV M) Qk)) (hN : mN M = 3) {a1 : Int32} {σ : Sg} (h : K_X12_save (mL M) (mV M) σ (fun σ1 => K_X12_goMinutes (mL M) (mV M) a1 σ1 (fun σ2 => K_X12_all (mL M) (mV M) σ2 (fun r4 σ3 => K_X12_putBack (mL M) (mV M) σ3 (fun σ5 => Qk r4 σ5))))) : PS M 0 [(0, .ref 74), (1, .int a1)] [] σ (0, 0) := by
  refine P_aload_n C dX12_allBehind_0 0 rfl ?_
  refine P_cv (R_v (ci := 12) C kv_X12_allBehind_X12_save (As := []) rfl kd_74 rfl (fxl fx_74) (Nat.le_of_ble_eq_true rfl) dX12_allBehind_1 ⟨Nat.le_refl _, Nat.le_refl _⟩ h) (fun σ1 h => ?_)
  refine P_aload_n C dX12_allBehind_4 0 rfl ?_
  refine P_iload_n C dX12_allBehind_5 1 rfl ?_
  refine P_cv (R_v (ci := 12) C kv_X12_allBehind_X12_goMinutes (As := [.int a1]) rfl kd_74 rfl (fxl fx_74) (Nat.le_of_ble_eq_true rfl) dX12_allBehind_6 ⟨Nat.le_refl _, Nat.le_refl _⟩ h) (fun σ2 h => ?_)
  refine P_aload_n C dX12_allBehind_9 0 rfl ?_
  refine P_ci (R_v (ci := 12) C kv_X12_allBehind_X12_all (As := []) rfl kd_74 rfl (fxl fx_74) (Nat.le_of_ble_eq_true rfl) dX12_allBehind_10 ⟨Nat.le_refl _, Nat.le_refl _⟩ h) (fun r4 σ3 h => ?_)
  refine P_istore_n C dX12_allBehind_13 (by rw [hN]; decide) rfl ?_
  refine P_aload_n C dX12_allBehind_14 1 rfl ?_
  refine P_cv (R_v (ci := 12) C kv_X12_allBehind_X12_putBack (As := []) rfl kd_74 rfl (fxl fx_74) (Nat.le_of_ble_eq_true rfl) dX12_allBehind_15 ⟨Nat.le_refl _, Nat.le_refl _⟩ h) (fun σ5 h => ?_)
  refine P_iload_n C dX12_allBehind_18 0 rfl ?_
  exact P_iret C dX12_allBehind_19 h
theorem fa_X12_on_7 : FA RX12 wsX12_on 7 12 0 "NineMowersModel" := by
  show _ ∧ _ ∧ _ ∧ _
  exact ⟨by decide +kernel, fun _ h => List.mem_cons_of_mem _ (List.mem_append_right _ h), List.mem_of_getElem? (i := 1) rfl, Or.inl rfl⟩
theorem kv_X12_on_X12_in : KV RX12 wsX12_on (rmz 8) 239 RX12 yX12_in wsX12_in (rmz 0) 3 := ⟨_, _, _, _, gX12_on_X12_in, rfl, by decide +kernel, by decide +kernel⟩
theorem kv_X12_on_X12_save : KV RX12 wsX12_on (rmz 8) 353 RX12 yX12_save wsX12_save (rmz 0) 0 := ⟨_, _, _, _, gX12_on_X12_save, rfl, by decide +kernel, by decide +kernel⟩
theorem kv_X12_on_X12_goMinutes : KV RX12 wsX12_on (rmz 8) 356 RX12 yX12_goMinutes wsX12_goMinutes (rmz 7) 1 := ⟨_, _, _, _, gX12_on_X12_goMinutes, rfl, by decide +kernel, by decide +kernel⟩
theorem fa_X12_on_108 : FA RX12 wsX12_on 108 12 32 "NineMowersModel" := by
  show _ ∧ _ ∧ _ ∧ _
  exact ⟨by decide +kernel, fun _ h => List.mem_cons_of_mem _ (List.mem_append_right _ h), List.mem_of_getElem? (i := 3) rfl, Or.inl rfl⟩
theorem kv_X12_on_X12_putBack : KV RX12 wsX12_on (rmz 8) 362 RX12 yX12_putBack wsX12_putBack (rmz 0) 0 := ⟨_, _, _, _, gX12_on_X12_putBack, rfl, by decide +kernel, by decide +kernel⟩
theorem fa_X12_on_26 : FA RX12 wsX12_on 26 12 5 "NineMowersModel" := by
  show _ ∧ _ ∧ _ ∧ _
  exact ⟨by decide +kernel, fun _ h => List.mem_cons_of_mem _ (List.mem_append_right _ h), List.mem_of_getElem? (i := 2) rfl, Or.inl rfl⟩
theorem kv_X12_on_X12_all : KV RX12 wsX12_on (rmz 8) 359 RX12 yX12_all wsX12_all (rmz 0) 0 := ⟨_, _, _, _, gX12_on_X12_all, rfl, by decide +kernel, by decide +kernel⟩
noncomputable def K_X12_on (l : Launch) (V : Vx) (a1 : Int32) (a2 : Int32) (σ : Sg) (Qk : Int32 → Sg → Prop) : Prop := Ka l V yX12_on wsX12_on (rmz 8) 0 0 [.ref 74, .int a1, .int a2] σ (QI V Qk)
theorem e_X12_on {l : Launch} {V : Vx} {a1 : Int32} {a2 : Int32} {σ : Sg} {Qk : Int32 → Sg → Prop} (h : ∀ M : Mx, mL M = l → mV M = V → mN M = 4 → Cx M cX12_on (some .int) RX12 wsX12_on (rmz 8) 0 0 (QI (mV M) Qk) → PS M 0 [(0, .ref 74), (1, .int a1), (2, .int a2)] [] σ (0, 0)) : K_X12_on l V a1 a2 σ Qk :=
  Ka_of (by decide +kernel) rfl rfl (Nat.le_of_ble_eq_true rfl) (fun M h1 h2 h3 C => h M h1 h2 h3 (by rw [h2]; exact C))
set_option maxRecDepth 100000 in
set_option maxHeartbeats 4000000 in
theorem s_X12_on_0 {M : Mx} {Qk : Int32 → Sg → Prop} (C : Cx M cX12_on (some .int) RX12 wsX12_on (rmz 8) 0 0 (QI (mV M) Qk)) (hN : mN M = 4) {a1 : Int32} {a2 : Int32} {σ : Sg} (h : ((a2 = 0 → PS M 40 [(0, .ref 74), (1, .int a1), (2, .int a2)] [] σ (0, 0)) ∧ (¬ a2 = 0 → K_X12_in (mL M) (mV M) a2 (10 : Int32) ((9 : Int32) + (gi σ 74 0)) σ (fun r3 σ2 => ((¬ r3 = 0 → PS M 40 [(0, .ref 74), (1, .int a1), (2, .int a2)] [] σ2 (0, 0)) ∧ (r3 = 0 → K_X12_in (mL M) (mV M) a2 (20 : Int32) ((19 : Int32) + (gi σ2 74 0)) σ2 (fun r6 σ5 => ((¬ r6 = 0 → PS M 40 [(0, .ref 74), (1, .int a1), (2, .int a2)] [] σ5 (0, 0)) ∧ (r6 = 0 → Qk (-1 : Int32) σ5))))))))) : PS M 0 [(0, .ref 74), (1, .int a1), (2, .int a2)] [] σ (0, 0) := by
  refine P_iload_n C dX12_on_0 2 rfl ?_
  refine P_if_eq C dX12_on_1 (tgt := 40) (by decide +kernel) (fun q1 => ?_) (fun q1 => ?_)
  · have h := h.1 q1
    exact P_sub [0, 1, 2] rfl h
  · have h := h.2 q1
    refine P_aload_n C dX12_on_4 0 rfl ?_
    refine P_iload_n C dX12_on_5 2 rfl ?_
    refine P_bipush C dX12_on_6 (v := (10 : Int32)) rfl ?_
    refine P_bipush C dX12_on_8 (v := (9 : Int32)) rfl ?_
    refine P_aload_n C dX12_on_10 0 rfl ?_
    refine P_getI C fa_X12_on_7 kd_74 rfl (fxl fx_74) dX12_on_11 ?_
    refine P_iadd C dX12_on_14 ?_
    refine P_ci (R_v (ci := 12) C kv_X12_on_X12_in (As := [.int a2, .int (10 : Int32), .int ((9 : Int32) + (gi σ 74 0))]) rfl kd_74 rfl (fxl fx_74) (Nat.le_of_ble_eq_true rfl) dX12_on_15 ⟨Nat.le_refl _, Nat.le_refl _⟩ h) (fun r3 σ2 h => ?_)
    refine P_if_ne C dX12_on_18 (tgt := 40) (by decide +kernel) (fun q4 => ?_) (fun q4 => ?_)
    · have h := h.1 q4
      exact P_sub [0, 1, 2] rfl h
    · have h := h.2 q4
      refine P_aload_n C dX12_on_21 0 rfl ?_
      refine P_iload_n C dX12_on_22 2 rfl ?_
      refine P_bipush C dX12_on_23 (v := (20 : Int32)) rfl ?_
      refine P_bipush C dX12_on_25 (v := (19 : Int32)) rfl ?_
      refine P_aload_n C dX12_on_27 0 rfl ?_
      refine P_getI C fa_X12_on_7 kd_74 rfl (fxl fx_74) dX12_on_28 ?_
      refine P_iadd C dX12_on_31 ?_
      refine P_ci (R_v (ci := 12) C kv_X12_on_X12_in (As := [.int a2, .int (20 : Int32), .int ((19 : Int32) + (gi σ2 74 0))]) rfl kd_74 rfl (fxl fx_74) (Nat.le_of_ble_eq_true rfl) dX12_on_32 ⟨Nat.le_refl _, Nat.le_refl _⟩ h) (fun r6 σ5 h => ?_)
      refine P_if_ne C dX12_on_35 (tgt := 40) (by decide +kernel) (fun q7 => ?_) (fun q7 => ?_)
      · have h := h.1 q7
        exact P_sub [0, 1, 2] rfl h
      · have h := h.2 q7
        refine P_iconst C dX12_on_38 (v := (-1 : Int32)) rfl ?_
        exact P_iret C dX12_on_39 h
set_option maxRecDepth 100000 in
set_option maxHeartbeats 4000000 in
theorem s_X12_on_40 {M : Mx} {Qk : Int32 → Sg → Prop} (C : Cx M cX12_on (some .int) RX12 wsX12_on (rmz 8) 0 0 (QI (mV M) Qk)) (hN : mN M = 4) {x1 : Int32} {x2 : Int32} {σ : Sg} (h : K_X12_in (mL M) (mV M) x1 (0 : Int32) (60 : Int32) σ (fun r2 σ1 => ((¬ r2 = 0 → K_X12_save (mL M) (mV M) σ1 (fun σ4 => K_X12_goMinutes (mL M) (mV M) x1 σ4 (fun σ5 => ((¬ x2 = 0 → (((20 : Int32) ≤ x2 → (vp_in (x2 - (20 : Int32)) 6 ∧ (∀ v9 : Int32, v9 = gi σ5 132 (x2 - (20 : Int32)).toNatClampNeg → K_X12_putBack (mL M) (mV M) σ5 (fun σ10 => Qk v9 σ10)))) ∧ (¬ (20 : Int32) ≤ x2 → (vp_in (x2 - (10 : Int32)) 6 ∧ (∀ v12 : Int32, v12 = gi σ5 105 (x2 - (10 : Int32)).toNatClampNeg → K_X12_putBack (mL M) (mV M) σ5 (fun σ13 => Qk v12 σ13)))))) ∧ (x2 = 0 → K_X12_all (mL M) (mV M) σ5 (fun r15 σ14 => K_X12_putBack (mL M) (mV M) σ14 (fun σ16 => Qk r15 σ16))))))) ∧ (r2 = 0 → Qk (-2 : Int32) σ1)))) : PS M 40 [(0, .ref 74), (1, .int x1), (2, .int x2)] [] σ (0, 0) := by
  refine P_aload_n C dX12_on_40 0 rfl ?_
  refine P_iload_n C dX12_on_41 1 rfl ?_
  refine P_iconst C dX12_on_42 (v := (0 : Int32)) rfl ?_
  refine P_bipush C dX12_on_43 (v := (60 : Int32)) rfl ?_
  refine P_ci (R_v (ci := 12) C kv_X12_on_X12_in (As := [.int x1, .int (0 : Int32), .int (60 : Int32)]) rfl kd_74 rfl (fxl fx_74) (Nat.le_of_ble_eq_true rfl) dX12_on_45 ⟨Nat.le_refl _, Nat.le_refl _⟩ h) (fun r2 σ1 h => ?_)
  refine P_if_ne C dX12_on_48 (tgt := 54) (by decide +kernel) (fun q3 => ?_) (fun q3 => ?_)
  · have h := h.1 q3
    refine P_aload_n C dX12_on_54 0 rfl ?_
    refine P_cv (R_v (ci := 12) C kv_X12_on_X12_save (As := []) rfl kd_74 rfl (fxl fx_74) (Nat.le_of_ble_eq_true rfl) dX12_on_55 ⟨Nat.le_refl _, Nat.le_refl _⟩ h) (fun σ4 h => ?_)
    refine P_aload_n C dX12_on_58 0 rfl ?_
    refine P_iload_n C dX12_on_59 1 rfl ?_
    refine P_cv (R_v (ci := 12) C kv_X12_on_X12_goMinutes (As := [.int x1]) rfl kd_74 rfl (fxl fx_74) (Nat.le_of_ble_eq_true rfl) dX12_on_60 ⟨Nat.le_refl _, Nat.le_refl _⟩ h) (fun σ5 h => ?_)
    refine P_iload_n C dX12_on_63 2 rfl ?_
    refine P_if_ne C dX12_on_64 (tgt := 74) (by decide +kernel) (fun q6 => ?_) (fun q6 => ?_)
    · have h := h.1 q6
      refine P_iload_n C dX12_on_74 2 rfl ?_
      refine P_bipush C dX12_on_75 (v := (20 : Int32)) rfl ?_
      refine P_icmp_ge C dX12_on_77 (tgt := 92) (by decide +kernel) (fun q7 => ?_) (fun q7 => ?_)
      · have h := h.1 q7
        refine P_aload_n C dX12_on_92 0 rfl ?_
        refine P_getS C (e := 132) fa_X12_on_108 kd_74 (d := 58) rfl (fxl fx_74) rfl dX12_on_93 ?_
        refine P_iload_n C dX12_on_96 2 rfl ?_
        refine P_bipush C dX12_on_97 (v := (20 : Int32)) rfl ?_
        refine P_isub C dX12_on_99 ?_
        obtain ⟨hv8, h⟩ := h
        refine P_iald C kd_132 (fxl fx_132) hv8 dX12_on_100 ?_
        refine P_nmi (fun v9 ev9 => ?_)
        have h := h v9 ev9
        refine P_istore_n C dX12_on_101 (by rw [hN]; decide) rfl ?_
        refine P_aload_n C dX12_on_102 1 rfl ?_
        refine P_cv (R_v (ci := 12) C kv_X12_on_X12_putBack (As := []) rfl kd_74 rfl (fxl fx_74) (Nat.le_of_ble_eq_true rfl) dX12_on_103 ⟨Nat.le_refl _, Nat.le_refl _⟩ h) (fun σ10 h => ?_)
        refine P_iload_n C dX12_on_106 0 rfl ?_
        exact P_iret C dX12_on_107 h
      · have h := h.2 q7
        refine P_aload_n C dX12_on_80 0 rfl ?_
        refine P_getS C (e := 105) fa_X12_on_26 kd_74 (d := 31) rfl (fxl fx_74) rfl dX12_on_81 ?_
        refine P_iload_n C dX12_on_84 2 rfl ?_
        refine P_bipush C dX12_on_85 (v := (10 : Int32)) rfl ?_
        refine P_isub C dX12_on_87 ?_
        obtain ⟨hv11, h⟩ := h
        refine P_iald C kd_105 (fxl fx_105) hv11 dX12_on_88 ?_
        refine P_goto C dX12_on_89 (tgt := 101) (by decide +kernel) ?_
        refine P_nmi (fun v12 ev12 => ?_)
        have h := h v12 ev12
        refine P_istore_n C dX12_on_101 (by rw [hN]; decide) rfl ?_
        refine P_aload_n C dX12_on_102 1 rfl ?_
        refine P_cv (R_v (ci := 12) C kv_X12_on_X12_putBack (As := []) rfl kd_74 rfl (fxl fx_74) (Nat.le_of_ble_eq_true rfl) dX12_on_103 ⟨Nat.le_refl _, Nat.le_refl _⟩ h) (fun σ13 h => ?_)
        refine P_iload_n C dX12_on_106 0 rfl ?_
        exact P_iret C dX12_on_107 h
    · have h := h.2 q6
      refine P_aload_n C dX12_on_67 0 rfl ?_
      refine P_ci (R_v (ci := 12) C kv_X12_on_X12_all (As := []) rfl kd_74 rfl (fxl fx_74) (Nat.le_of_ble_eq_true rfl) dX12_on_68 ⟨Nat.le_refl _, Nat.le_refl _⟩ h) (fun r15 σ14 h => ?_)
      refine P_goto C dX12_on_71 (tgt := 101) (by decide +kernel) ?_
      refine P_istore_n C dX12_on_101 (by rw [hN]; decide) rfl ?_
      refine P_aload_n C dX12_on_102 1 rfl ?_
      refine P_cv (R_v (ci := 12) C kv_X12_on_X12_putBack (As := []) rfl kd_74 rfl (fxl fx_74) (Nat.le_of_ble_eq_true rfl) dX12_on_103 ⟨Nat.le_refl _, Nat.le_refl _⟩ h) (fun σ16 h => ?_)
      refine P_iload_n C dX12_on_106 0 rfl ?_
      exact P_iret C dX12_on_107 h
  · have h := h.2 q3
    refine P_bipush C dX12_on_51 (v := (-2 : Int32)) rfl ?_
    exact P_iret C dX12_on_53 h
theorem kv_X12_done_X12_save : KV RX12 wsX12_done (rmz 8) 353 RX12 yX12_save wsX12_save (rmz 0) 0 := ⟨_, _, _, _, gX12_done_X12_save, rfl, by decide +kernel, by decide +kernel⟩
theorem kv_X12_done_X12_isDone : KV RX12 wsX12_done (rmz 8) 365 RX12 yX12_isDone wsX12_isDone (rmz 3) 0 := ⟨_, _, _, _, gX12_done_X12_isDone, rfl, by decide +kernel, by decide +kernel⟩
theorem kv_X12_done_X12_goMinutes : KV RX12 wsX12_done (rmz 8) 356 RX12 yX12_goMinutes wsX12_goMinutes (rmz 7) 1 := ⟨_, _, _, _, gX12_done_X12_goMinutes, rfl, by decide +kernel, by decide +kernel⟩
theorem kv_X12_done_X12_putBack : KV RX12 wsX12_done (rmz 8) 362 RX12 yX12_putBack wsX12_putBack (rmz 0) 0 := ⟨_, _, _, _, gX12_done_X12_putBack, rfl, by decide +kernel, by decide +kernel⟩
noncomputable def K_X12_done (l : Launch) (V : Vx) (σ : Sg) (Qk : Int32 → Sg → Prop) : Prop := Ka l V yX12_done wsX12_done (rmz 8) 0 0 [.ref 74] σ (QI V Qk)
theorem e_X12_done {l : Launch} {V : Vx} {σ : Sg} {Qk : Int32 → Sg → Prop} (h : ∀ M : Mx, mL M = l → mV M = V → mN M = 2 → Cx M cX12_done (some .int) RX12 wsX12_done (rmz 8) 0 0 (QI (mV M) Qk) → PS M 0 [(0, .ref 74)] [] σ (0, 0)) : K_X12_done l V σ Qk :=
  Ka_of (by decide +kernel) rfl rfl (Nat.le_of_ble_eq_true rfl) (fun M h1 h2 h3 C => h M h1 h2 h3 (by rw [h2]; exact C))
set_option maxRecDepth 100000 in
set_option maxHeartbeats 4000000 in
theorem s_X12_done_0 {M : Mx} {Qk : Int32 → Sg → Prop} (C : Cx M cX12_done (some .int) RX12 wsX12_done (rmz 8) 0 0 (QI (mV M) Qk)) (hN : mN M = 2) {σ : Sg} (h : K_X12_save (mL M) (mV M) σ (fun σ1 => PS M 6 [(0, .ref 74), (1, .int (0 : Int32))] [] σ1 (0, 0))) : PS M 0 [(0, .ref 74)] [] σ (0, 0) := by
  refine P_aload_n C dX12_done_0 0 rfl ?_
  refine P_cv (R_v (ci := 12) C kv_X12_done_X12_save (As := []) rfl kd_74 rfl (fxl fx_74) (Nat.le_of_ble_eq_true rfl) dX12_done_1 ⟨Nat.le_refl _, Nat.le_refl _⟩ h) (fun σ1 h => ?_)
  refine P_iconst C dX12_done_4 (v := (0 : Int32)) rfl ?_
  refine P_istore_n C dX12_done_5 (by rw [hN]; decide) rfl ?_
  exact P_sub [1, 0] rfl h
set_option maxRecDepth 100000 in
set_option maxHeartbeats 4000000 in
theorem s_X12_done_6 {M : Mx} {Qk : Int32 → Sg → Prop} (C : Cx M cX12_done (some .int) RX12 wsX12_done (rmz 8) 0 0 (QI (mV M) Qk)) (hN : mN M = 2) {x1 : Int32} {σ : Sg} (h : (((120 : Int32) < x1 → PS M 30 [(0, .ref 74), (1, .int x1)] [] σ (0, 0)) ∧ (¬ (120 : Int32) < x1 → K_X12_isDone (mL M) (mV M) σ (fun r3 σ2 => ((¬ r3 = 0 → PS M 30 [(0, .ref 74), (1, .int x1)] [] σ2 (0, 0)) ∧ (r3 = 0 → K_X12_goMinutes (mL M) (mV M) (1 : Int32) σ2 (fun σ5 => (∀ v6 : Int32, v6 = x1 + 1 → PS M 6 [(0, .ref 74), (1, .int v6)] [] σ5 (0, 0))))))))) : PS M 6 [(0, .ref 74), (1, .int x1)] [] σ (0, 0) := by
  refine P_iload_n C dX12_done_6 1 rfl ?_
  refine P_bipush C dX12_done_7 (v := (120 : Int32)) rfl ?_
  refine P_icmp_gt C dX12_done_9 (tgt := 30) (by decide +kernel) (fun q1 => ?_) (fun q1 => ?_)
  · have h := h.1 q1
    exact P_sub [0, 1] rfl h
  · have h := h.2 q1
    refine P_aload_n C dX12_done_12 0 rfl ?_
    refine P_ci (R_v (ci := 12) C kv_X12_done_X12_isDone (As := []) rfl kd_74 rfl (fxl fx_74) (Nat.le_of_ble_eq_true rfl) dX12_done_13 ⟨Nat.le_refl _, Nat.le_refl _⟩ h) (fun r3 σ2 h => ?_)
    refine P_if_ne C dX12_done_16 (tgt := 30) (by decide +kernel) (fun q4 => ?_) (fun q4 => ?_)
    · have h := h.1 q4
      exact P_sub [0, 1] rfl h
    · have h := h.2 q4
      refine P_aload_n C dX12_done_19 0 rfl ?_
      refine P_iconst C dX12_done_20 (v := (1 : Int32)) rfl ?_
      refine P_cv (R_v (ci := 12) C kv_X12_done_X12_goMinutes (As := [.int (1 : Int32)]) rfl kd_74 rfl (fxl fx_74) (Nat.le_of_ble_eq_true rfl) dX12_done_21 ⟨Nat.le_refl _, Nat.le_refl _⟩ h) (fun σ5 h => ?_)
      obtain ⟨v6, ev6⟩ : ∃ v : Int32, v = x1 + 1 := ⟨_, rfl⟩
      have h := h v6 ev6
      refine P_iinc (v := v6) C dX12_done_24 1 rfl (by rw [ev6]; rfl) (by rw [hN]; decide) rfl ?_
      refine P_goto C dX12_done_27 (tgt := 6) (by decide +kernel) ?_
      exact P_sub [1, 0] rfl h
set_option maxRecDepth 100000 in
set_option maxHeartbeats 4000000 in
theorem s_X12_done_30 {M : Mx} {Qk : Int32 → Sg → Prop} (C : Cx M cX12_done (some .int) RX12 wsX12_done (rmz 8) 0 0 (QI (mV M) Qk)) (hN : mN M = 2) {x1 : Int32} {σ : Sg} (h : K_X12_putBack (mL M) (mV M) σ (fun σ1 => (((120 : Int32) < x1 → Qk (-5 : Int32) σ1) ∧ (¬ (120 : Int32) < x1 → Qk x1 σ1)))) : PS M 30 [(0, .ref 74), (1, .int x1)] [] σ (0, 0) := by
  refine P_aload_n C dX12_done_30 0 rfl ?_
  refine P_cv (R_v (ci := 12) C kv_X12_done_X12_putBack (As := []) rfl kd_74 rfl (fxl fx_74) (Nat.le_of_ble_eq_true rfl) dX12_done_31 ⟨Nat.le_refl _, Nat.le_refl _⟩ h) (fun σ1 h => ?_)
  refine P_iload_n C dX12_done_34 1 rfl ?_
  refine P_bipush C dX12_done_35 (v := (120 : Int32)) rfl ?_
  refine P_icmp_gt C dX12_done_37 (tgt := 44) (by decide +kernel) (fun q2 => ?_) (fun q2 => ?_)
  · have h := h.1 q2
    refine P_bipush C dX12_done_44 (v := (-5 : Int32)) rfl ?_
    exact P_iret C dX12_done_46 h
  · have h := h.2 q2
    refine P_iload_n C dX12_done_40 1 rfl ?_
    refine P_goto C dX12_done_41 (tgt := 46) (by decide +kernel) ?_
    exact P_iret C dX12_done_46 h
theorem kv_X12_fromTheStart_X12_save : KV RX12 wsX12_fromTheStart (rmz 8) 353 RX12 yX12_save wsX12_save (rmz 0) 0 := ⟨_, _, _, _, gX12_fromTheStart_X12_save, rfl, by decide +kernel, by decide +kernel⟩
theorem fa_X12_fromTheStart_7 : FA RX12 wsX12_fromTheStart 7 12 0 "NineMowersModel" := by
  show _ ∧ _ ∧ _ ∧ _
  exact ⟨by decide +kernel, fun _ h => List.mem_cons_of_mem _ (List.mem_append_right _ h), List.mem_of_getElem? (i := 1) rfl, Or.inl rfl⟩
theorem kv_X12_fromTheStart_X12_goMinutes : KV RX12 wsX12_fromTheStart (rmz 8) 356 RX12 yX12_goMinutes wsX12_goMinutes (rmz 7) 1 := ⟨_, _, _, _, gX12_fromTheStart_X12_goMinutes, rfl, by decide +kernel, by decide +kernel⟩
theorem kv_X12_fromTheStart_X12_all : KV RX12 wsX12_fromTheStart (rmz 8) 359 RX12 yX12_all wsX12_all (rmz 0) 0 := ⟨_, _, _, _, gX12_fromTheStart_X12_all, rfl, by decide +kernel, by decide +kernel⟩
theorem kv_X12_fromTheStart_X12_putBack : KV RX12 wsX12_fromTheStart (rmz 8) 362 RX12 yX12_putBack wsX12_putBack (rmz 0) 0 := ⟨_, _, _, _, gX12_fromTheStart_X12_putBack, rfl, by decide +kernel, by decide +kernel⟩
theorem fa_X12_fromTheStart_26 : FA RX12 wsX12_fromTheStart 26 12 5 "NineMowersModel" := by
  show _ ∧ _ ∧ _ ∧ _
  exact ⟨by decide +kernel, fun _ h => List.mem_cons_of_mem _ (List.mem_append_right _ h), List.mem_of_getElem? (i := 2) rfl, Or.inl rfl⟩
noncomputable def K_X12_fromTheStart (l : Launch) (V : Vx) (a1 : Int32) (σ : Sg) (Qk : Int32 → Sg → Prop) : Prop := Ka l V yX12_fromTheStart wsX12_fromTheStart (rmz 8) 0 0 [.ref 74, .int a1] σ (QI V Qk)
theorem e_X12_fromTheStart {l : Launch} {V : Vx} {a1 : Int32} {σ : Sg} {Qk : Int32 → Sg → Prop} (h : ∀ M : Mx, mL M = l → mV M = V → mN M = 3 → Cx M cX12_fromTheStart (some .int) RX12 wsX12_fromTheStart (rmz 8) 0 0 (QI (mV M) Qk) → PS M 0 [(0, .ref 74), (1, .int a1)] [] σ (0, 0)) : K_X12_fromTheStart l V a1 σ Qk :=
  Ka_of (by decide +kernel) rfl rfl (Nat.le_of_ble_eq_true rfl) (fun M h1 h2 h3 C => h M h1 h2 h3 (by rw [h2]; exact C))
set_option maxRecDepth 100000 in
set_option maxHeartbeats 4000000 in
theorem s_X12_fromTheStart_0 {M : Mx} {Qk : Int32 → Sg → Prop} (C : Cx M cX12_fromTheStart (some .int) RX12 wsX12_fromTheStart (rmz 8) 0 0 (QI (mV M) Qk)) (hN : mN M = 3) {a1 : Int32} {σ : Sg} (h : K_X12_save (mL M) (mV M) σ (fun σ1 => PS M 6 [(0, .ref 74), (1, .int a1), (2, .int (0 : Int32))] [] σ1 (0, 0))) : PS M 0 [(0, .ref 74), (1, .int a1)] [] σ (0, 0) := by
  refine P_aload_n C dX12_fromTheStart_0 0 rfl ?_
  refine P_cv (R_v (ci := 12) C kv_X12_fromTheStart_X12_save (As := []) rfl kd_74 rfl (fxl fx_74) (Nat.le_of_ble_eq_true rfl) dX12_fromTheStart_1 ⟨Nat.le_refl _, Nat.le_refl _⟩ h) (fun σ1 h => ?_)
  refine P_iconst C dX12_fromTheStart_4 (v := (0 : Int32)) rfl ?_
  refine P_istore_n C dX12_fromTheStart_5 (by rw [hN]; decide) rfl ?_
  exact P_sub [1, 2, 0] rfl h
set_option maxRecDepth 100000 in
set_option maxHeartbeats 4000000 in
theorem s_X12_fromTheStart_6 {M : Mx} {Qk : Int32 → Sg → Prop} (C : Cx M cX12_fromTheStart (some .int) RX12 wsX12_fromTheStart (rmz 8) 0 0 (QI (mV M) Qk)) (hN : mN M = 3) {x1 : Int32} {x2 : Int32} {σ : Sg} (h : (((gi σ 74 0) ≤ x2 → K_X12_goMinutes (mL M) (mV M) x1 σ (fun σ2 => K_X12_all (mL M) (mV M) σ2 (fun r4 σ3 => K_X12_putBack (mL M) (mV M) σ3 (fun σ5 => Qk r4 σ5)))) ∧ (¬ (gi σ 74 0) ≤ x2 → (vp_in x2 6 ∧ (∀ σ7 : Sg, σ7 = si σ 105 x2.toNatClampNeg (0 : Int32) → (∀ v8 : Int32, v8 = x2 + 1 → PS M 6 [(0, .ref 74), (1, .int x1), (2, .int v8)] [] σ7 (0, 0))))))) : PS M 6 [(0, .ref 74), (1, .int x1), (2, .int x2)] [] σ (0, 0) := by
  refine P_iload_n C dX12_fromTheStart_6 2 rfl ?_
  refine P_aload_n C dX12_fromTheStart_7 0 rfl ?_
  refine P_getI C fa_X12_fromTheStart_7 kd_74 rfl (fxl fx_74) dX12_fromTheStart_8 ?_
  refine P_icmp_ge C dX12_fromTheStart_11 (tgt := 27) (by decide +kernel) (fun q1 => ?_) (fun q1 => ?_)
  · have h := h.1 q1
    refine P_aload_n C dX12_fromTheStart_27 0 rfl ?_
    refine P_iload_n C dX12_fromTheStart_28 1 rfl ?_
    refine P_cv (R_v (ci := 12) C kv_X12_fromTheStart_X12_goMinutes (As := [.int x1]) rfl kd_74 rfl (fxl fx_74) (Nat.le_of_ble_eq_true rfl) dX12_fromTheStart_29 ⟨Nat.le_refl _, Nat.le_refl _⟩ h) (fun σ2 h => ?_)
    refine P_aload_n C dX12_fromTheStart_32 0 rfl ?_
    refine P_ci (R_v (ci := 12) C kv_X12_fromTheStart_X12_all (As := []) rfl kd_74 rfl (fxl fx_74) (Nat.le_of_ble_eq_true rfl) dX12_fromTheStart_33 ⟨Nat.le_refl _, Nat.le_refl _⟩ h) (fun r4 σ3 h => ?_)
    refine P_istore_n C dX12_fromTheStart_36 (by rw [hN]; decide) rfl ?_
    refine P_aload_n C dX12_fromTheStart_37 1 rfl ?_
    refine P_cv (R_v (ci := 12) C kv_X12_fromTheStart_X12_putBack (As := []) rfl kd_74 rfl (fxl fx_74) (Nat.le_of_ble_eq_true rfl) dX12_fromTheStart_38 ⟨Nat.le_refl _, Nat.le_refl _⟩ h) (fun σ5 h => ?_)
    refine P_iload_n C dX12_fromTheStart_41 0 rfl ?_
    exact P_iret C dX12_fromTheStart_42 h
  · have h := h.2 q1
    refine P_aload_n C dX12_fromTheStart_14 0 rfl ?_
    refine P_getS C (e := 105) fa_X12_fromTheStart_26 kd_74 (d := 31) rfl (fxl fx_74) rfl dX12_fromTheStart_15 ?_
    refine P_iload_n C dX12_fromTheStart_18 2 rfl ?_
    refine P_iconst C dX12_fromTheStart_19 (v := (0 : Int32)) rfl ?_
    obtain ⟨hv6, h⟩ := h
    refine P_iast C kd_105 (fxl fx_105) hv6 dX12_fromTheStart_20 ?_
    refine P_nm (fun σ7 eσ7 => ?_)
    have h := h σ7 eσ7
    obtain ⟨v8, ev8⟩ : ∃ v : Int32, v = x2 + 1 := ⟨_, rfl⟩
    have h := h v8 ev8
    refine P_iinc (v := v8) C dX12_fromTheStart_21 2 rfl (by rw [ev8]; rfl) (by rw [hN]; decide) rfl ?_
    refine P_goto C dX12_fromTheStart_24 (tgt := 6) (by decide +kernel) ?_
    exact P_sub [1, 2, 0] rfl h
theorem kv_X12_whetted_X12_save : KV RX12 wsX12_whetted (rmz 8) 353 RX12 yX12_save wsX12_save (rmz 0) 0 := ⟨_, _, _, _, gX12_whetted_X12_save, rfl, by decide +kernel, by decide +kernel⟩
theorem kv_X12_whetted_X12_all : KV RX12 wsX12_whetted (rmz 8) 359 RX12 yX12_all wsX12_all (rmz 0) 0 := ⟨_, _, _, _, gX12_whetted_X12_all, rfl, by decide +kernel, by decide +kernel⟩
theorem kv_X12_whetted_X12_putBack : KV RX12 wsX12_whetted (rmz 8) 362 RX12 yX12_putBack wsX12_putBack (rmz 0) 0 := ⟨_, _, _, _, gX12_whetted_X12_putBack, rfl, by decide +kernel, by decide +kernel⟩
theorem kv_X12_whetted_X12_goMinutes : KV RX12 wsX12_whetted (rmz 8) 356 RX12 yX12_goMinutes wsX12_goMinutes (rmz 7) 1 := ⟨_, _, _, _, gX12_whetted_X12_goMinutes, rfl, by decide +kernel, by decide +kernel⟩
theorem kv_X12_whetted_X12_goWhet : KV RX12 wsX12_whetted (rmz 8) 347 RX12 yX12_goWhet wsX12_goWhet (rmz 1) 0 := ⟨_, _, _, _, gX12_whetted_X12_goWhet, rfl, by decide +kernel, by decide +kernel⟩
noncomputable def K_X12_whetted (l : Launch) (V : Vx) (a1 : Int32) (a2 : Int32) (σ : Sg) (Qk : Int32 → Sg → Prop) : Prop := Ka l V yX12_whetted wsX12_whetted (rmz 8) 0 0 [.ref 74, .int a1, .int a2] σ (QI V Qk)
theorem e_X12_whetted {l : Launch} {V : Vx} {a1 : Int32} {a2 : Int32} {σ : Sg} {Qk : Int32 → Sg → Prop} (h : ∀ M : Mx, mL M = l → mV M = V → mN M = 4 → Cx M cX12_whetted (some .int) RX12 wsX12_whetted (rmz 8) 0 0 (QI (mV M) Qk) → PS M 0 [(0, .ref 74), (1, .int a1), (2, .int a2)] [] σ (0, 0)) : K_X12_whetted l V a1 a2 σ Qk :=
  Ka_of (by decide +kernel) rfl rfl (Nat.le_of_ble_eq_true rfl) (fun M h1 h2 h3 C => h M h1 h2 h3 (by rw [h2]; exact C))
set_option maxRecDepth 100000 in
set_option maxHeartbeats 4000000 in
theorem s_X12_whetted_0 {M : Mx} {Qk : Int32 → Sg → Prop} (C : Cx M cX12_whetted (some .int) RX12 wsX12_whetted (rmz 8) 0 0 (QI (mV M) Qk)) (hN : mN M = 4) {a1 : Int32} {a2 : Int32} {σ : Sg} (h : K_X12_save (mL M) (mV M) σ (fun σ1 => PS M 6 [(0, .ref 74), (1, .int a1), (2, .int a2), (3, .int (1 : Int32))] [] σ1 (0, 0))) : PS M 0 [(0, .ref 74), (1, .int a1), (2, .int a2)] [] σ (0, 0) := by
  refine P_aload_n C dX12_whetted_0 0 rfl ?_
  refine P_cv (R_v (ci := 12) C kv_X12_whetted_X12_save (As := []) rfl kd_74 rfl (fxl fx_74) (Nat.le_of_ble_eq_true rfl) dX12_whetted_1 ⟨Nat.le_refl _, Nat.le_refl _⟩ h) (fun σ1 h => ?_)
  refine P_iconst C dX12_whetted_4 (v := (1 : Int32)) rfl ?_
  refine P_istore_n C dX12_whetted_5 (by rw [hN]; decide) rfl ?_
  exact P_sub [1, 2, 3, 0] rfl h
set_option maxRecDepth 100000 in
set_option maxHeartbeats 4000000 in
theorem s_X12_whetted_6 {M : Mx} {Qk : Int32 → Sg → Prop} (C : Cx M cX12_whetted (some .int) RX12 wsX12_whetted (rmz 8) 0 0 (QI (mV M) Qk)) (hN : mN M = 4) {x1 : Int32} {x2 : Int32} {x3 : Int32} {σ : Sg} (h : ((x1 < x3 → K_X12_all (mL M) (mV M) σ (fun r3 σ2 => K_X12_putBack (mL M) (mV M) σ2 (fun σ4 => Qk r3 σ4))) ∧ (¬ x1 < x3 → (((16 : Int32) ≤ x2 → K_X12_goMinutes (mL M) (mV M) (1 : Int32) σ (fun σ6 => (∀ v7 : Int32, v7 = x3 + 1 → PS M 6 [(0, .ref 74), (1, .int x1), (2, .int x2), (3, .int v7)] [] σ6 (0, 0)))) ∧ (¬ (16 : Int32) ≤ x2 → (¬ x2 = 0 ∧ ((¬ (x3 - x3 / x2 * x2) = 0 → K_X12_goMinutes (mL M) (mV M) (1 : Int32) σ (fun σ10 => (∀ v11 : Int32, v11 = x3 + 1 → PS M 6 [(0, .ref 74), (1, .int x1), (2, .int x2), (3, .int v11)] [] σ10 (0, 0)))) ∧ ((x3 - x3 / x2 * x2) = 0 → K_X12_goWhet (mL M) (mV M) σ (fun σ12 => (∀ v13 : Int32, v13 = x3 + 1 → PS M 6 [(0, .ref 74), (1, .int x1), (2, .int x2), (3, .int v13)] [] σ12 (0, 0))))))))))) : PS M 6 [(0, .ref 74), (1, .int x1), (2, .int x2), (3, .int x3)] [] σ (0, 0) := by
  refine P_iload_n C dX12_whetted_6 3 rfl ?_
  refine P_iload_n C dX12_whetted_7 1 rfl ?_
  refine P_icmp_gt C dX12_whetted_8 (tgt := 41) (by decide +kernel) (fun q1 => ?_) (fun q1 => ?_)
  · have h := h.1 q1
    refine P_aload_n C dX12_whetted_41 0 rfl ?_
    refine P_ci (R_v (ci := 12) C kv_X12_whetted_X12_all (As := []) rfl kd_74 rfl (fxl fx_74) (Nat.le_of_ble_eq_true rfl) dX12_whetted_42 ⟨Nat.le_refl _, Nat.le_refl _⟩ h) (fun r3 σ2 h => ?_)
    refine P_istore_n C dX12_whetted_45 (by rw [hN]; decide) rfl ?_
    refine P_aload_n C dX12_whetted_46 1 rfl ?_
    refine P_cv (R_v (ci := 12) C kv_X12_whetted_X12_putBack (As := []) rfl kd_74 rfl (fxl fx_74) (Nat.le_of_ble_eq_true rfl) dX12_whetted_47 ⟨Nat.le_refl _, Nat.le_refl _⟩ h) (fun σ4 h => ?_)
    refine P_iload_n C dX12_whetted_50 0 rfl ?_
    exact P_iret C dX12_whetted_51 h
  · have h := h.2 q1
    refine P_iload_n C dX12_whetted_11 2 rfl ?_
    refine P_bipush C dX12_whetted_12 (v := (16 : Int32)) rfl ?_
    refine P_icmp_ge C dX12_whetted_14 (tgt := 30) (by decide +kernel) (fun q5 => ?_) (fun q5 => ?_)
    · have h := h.1 q5
      refine P_aload_n C dX12_whetted_30 0 rfl ?_
      refine P_iconst C dX12_whetted_31 (v := (1 : Int32)) rfl ?_
      refine P_cv (R_v (ci := 12) C kv_X12_whetted_X12_goMinutes (As := [.int (1 : Int32)]) rfl kd_74 rfl (fxl fx_74) (Nat.le_of_ble_eq_true rfl) dX12_whetted_32 ⟨Nat.le_refl _, Nat.le_refl _⟩ h) (fun σ6 h => ?_)
      obtain ⟨v7, ev7⟩ : ∃ v : Int32, v = x3 + 1 := ⟨_, rfl⟩
      have h := h v7 ev7
      refine P_iinc (v := v7) C dX12_whetted_35 3 rfl (by rw [ev7]; rfl) (by rw [hN]; decide) rfl ?_
      refine P_goto C dX12_whetted_38 (tgt := 6) (by decide +kernel) ?_
      exact P_sub [1, 2, 3, 0] rfl h
    · have h := h.2 q5
      refine P_iload_n C dX12_whetted_17 3 rfl ?_
      refine P_iload_n C dX12_whetted_18 2 rfl ?_
      obtain ⟨hz8, h⟩ := h
      refine P_irem C dX12_whetted_19 hz8 ?_
      refine P_if_ne C dX12_whetted_20 (tgt := 30) (by decide +kernel) (fun q9 => ?_) (fun q9 => ?_)
      · have h := h.1 q9
        refine P_aload_n C dX12_whetted_30 0 rfl ?_
        refine P_iconst C dX12_whetted_31 (v := (1 : Int32)) rfl ?_
        refine P_cv (R_v (ci := 12) C kv_X12_whetted_X12_goMinutes (As := [.int (1 : Int32)]) rfl kd_74 rfl (fxl fx_74) (Nat.le_of_ble_eq_true rfl) dX12_whetted_32 ⟨Nat.le_refl _, Nat.le_refl _⟩ h) (fun σ10 h => ?_)
        obtain ⟨v11, ev11⟩ : ∃ v : Int32, v = x3 + 1 := ⟨_, rfl⟩
        have h := h v11 ev11
        refine P_iinc (v := v11) C dX12_whetted_35 3 rfl (by rw [ev11]; rfl) (by rw [hN]; decide) rfl ?_
        refine P_goto C dX12_whetted_38 (tgt := 6) (by decide +kernel) ?_
        exact P_sub [1, 2, 3, 0] rfl h
      · have h := h.2 q9
        refine P_aload_n C dX12_whetted_23 0 rfl ?_
        refine P_cv (R_v (ci := 12) C kv_X12_whetted_X12_goWhet (As := []) rfl kd_74 rfl (fxl fx_74) (Nat.le_of_ble_eq_true rfl) dX12_whetted_24 ⟨Nat.le_refl _, Nat.le_refl _⟩ h) (fun σ12 h => ?_)
        refine P_goto C dX12_whetted_27 (tgt := 35) (by decide +kernel) ?_
        obtain ⟨v13, ev13⟩ : ∃ v : Int32, v = x3 + 1 := ⟨_, rfl⟩
        have h := h v13 ev13
        refine P_iinc (v := v13) C dX12_whetted_35 3 rfl (by rw [ev13]; rfl) (by rw [hN]; decide) rfl ?_
        refine P_goto C dX12_whetted_38 (tgt := 6) (by decide +kernel) ?_
        exact P_sub [1, 2, 3, 0] rfl h
theorem kv_X12_stop_X12_isMower : KV RX12 wsX12_stop (rmz 8) 243 RX12 yX12_isMower wsX12_isMower (rmz 1) 1 := ⟨_, _, _, _, gX12_stop_X12_isMower, rfl, by decide +kernel, by decide +kernel⟩
theorem kv_X12_stop_X12_in : KV RX12 wsX12_stop (rmz 8) 239 RX12 yX12_in wsX12_in (rmz 0) 3 := ⟨_, _, _, _, gX12_stop_X12_in, rfl, by decide +kernel, by decide +kernel⟩
theorem kv_X12_stop_X12_save : KV RX12 wsX12_stop (rmz 8) 353 RX12 yX12_save wsX12_save (rmz 0) 0 := ⟨_, _, _, _, gX12_stop_X12_save, rfl, by decide +kernel, by decide +kernel⟩
theorem kv_X12_stop_X12_goMinutes : KV RX12 wsX12_stop (rmz 8) 356 RX12 yX12_goMinutes wsX12_goMinutes (rmz 7) 1 := ⟨_, _, _, _, gX12_stop_X12_goMinutes, rfl, by decide +kernel, by decide +kernel⟩
theorem kv_X12_stop_X12_all : KV RX12 wsX12_stop (rmz 8) 359 RX12 yX12_all wsX12_all (rmz 0) 0 := ⟨_, _, _, _, gX12_stop_X12_all, rfl, by decide +kernel, by decide +kernel⟩
theorem kv_X12_stop_X12_putBack : KV RX12 wsX12_stop (rmz 8) 362 RX12 yX12_putBack wsX12_putBack (rmz 0) 0 := ⟨_, _, _, _, gX12_stop_X12_putBack, rfl, by decide +kernel, by decide +kernel⟩
theorem fa_X12_stop_35 : FA RX12 wsX12_stop 35 12 8 "NineMowersModel" := by
  show _ ∧ _ ∧ _ ∧ _
  exact ⟨by decide +kernel, fun _ h => List.mem_cons_of_mem _ (List.mem_append_right _ h), List.mem_of_getElem? (i := 5) rfl, Or.inl rfl⟩
theorem fa_X12_stop_132 : FA RX12 wsX12_stop 132 12 40 "NineMowersModel" := by
  show _ ∧ _ ∧ _ ∧ _
  exact ⟨by decide +kernel, fun _ h => List.mem_cons_of_mem _ (List.mem_append_right _ h), List.mem_of_getElem? (i := 3) rfl, Or.inl rfl⟩
theorem fa_X12_stop_26 : FA RX12 wsX12_stop 26 12 5 "NineMowersModel" := by
  show _ ∧ _ ∧ _ ∧ _
  exact ⟨by decide +kernel, fun _ h => List.mem_cons_of_mem _ (List.mem_append_right _ h), List.mem_of_getElem? (i := 4) rfl, Or.inl rfl⟩
theorem fa_X12_stop_7 : FA RX12 wsX12_stop 7 12 0 "NineMowersModel" := by
  show _ ∧ _ ∧ _ ∧ _
  exact ⟨by decide +kernel, fun _ h => List.mem_cons_of_mem _ (List.mem_append_right _ h), List.mem_of_getElem? (i := 6) rfl, Or.inl rfl⟩
noncomputable def K_X12_stop (l : Launch) (V : Vx) (a1 : Int32) (a2 : Int32) (a3 : Int32) (a4 : Int32) (σ : Sg) (Qk : Int32 → Sg → Prop) : Prop := Ka l V yX12_stop wsX12_stop (rmz 8) 0 0 [.ref 74, .int a1, .int a2, .int a3, .int a4] σ (QI V Qk)
theorem e_X12_stop {l : Launch} {V : Vx} {a1 : Int32} {a2 : Int32} {a3 : Int32} {a4 : Int32} {σ : Sg} {Qk : Int32 → Sg → Prop} (h : ∀ M : Mx, mL M = l → mV M = V → mN M = 8 → Cx M cX12_stop (some .int) RX12 wsX12_stop (rmz 8) 0 0 (QI (mV M) Qk) → PS M 0 [(0, .ref 74), (1, .int a1), (2, .int a2), (3, .int a3), (4, .int a4)] [] σ (0, 0)) : K_X12_stop l V a1 a2 a3 a4 σ Qk :=
  Ka_of (by decide +kernel) rfl rfl (Nat.le_of_ble_eq_true rfl) (fun M h1 h2 h3 C => h M h1 h2 h3 (by rw [h2]; exact C))
set_option maxRecDepth 100000 in
set_option maxHeartbeats 4000000 in
theorem s_X12_stop_0 {M : Mx} {Qk : Int32 → Sg → Prop} (C : Cx M cX12_stop (some .int) RX12 wsX12_stop (rmz 8) 0 0 (QI (mV M) Qk)) (hN : mN M = 8) {a1 : Int32} {a2 : Int32} {a3 : Int32} {a4 : Int32} {σ : Sg} (h : K_X12_isMower (mL M) (mV M) a1 σ (fun r2 σ1 => ((r2 = 0 → Qk (-100001 : Int32) σ1) ∧ (¬ r2 = 0 → K_X12_in (mL M) (mV M) a4 (0 : Int32) (1 : Int32) σ1 (fun r5 σ4 => ((¬ r5 = 0 → K_X12_in (mL M) (mV M) a2 (1 : Int32) (20 : Int32) σ4 (fun r8 σ7 => ((r8 = 0 → Qk (-100002 : Int32) σ7) ∧ (¬ r8 = 0 → K_X12_in (mL M) (mV M) a3 (1 : Int32) (60 : Int32) σ7 (fun r11 σ10 => ((¬ r11 = 0 → K_X12_save (mL M) (mV M) σ10 (fun σ13 => K_X12_goMinutes (mL M) (mV M) a3 σ13 (fun σ14 => PS M 61 [(0, .ref 74), (1, .int a1), (2, .int a2), (3, .int a3), (4, .int a4), (5, .int (0 : Int32))] [] σ14 (0, 0)))) ∧ (r11 = 0 → Qk (-100002 : Int32) σ10))))))) ∧ (r5 = 0 → Qk (-100001 : Int32) σ4))))))) : PS M 0 [(0, .ref 74), (1, .int a1), (2, .int a2), (3, .int a3), (4, .int a4)] [] σ (0, 0) := by
  refine P_aload_n C dX12_stop_0 0 rfl ?_
  refine P_iload_n C dX12_stop_1 1 rfl ?_
  refine P_ci (R_v (ci := 12) C kv_X12_stop_X12_isMower (As := [.int a1]) rfl kd_74 rfl (fxl fx_74) (Nat.le_of_ble_eq_true rfl) dX12_stop_2 ⟨Nat.le_refl _, Nat.le_refl _⟩ h) (fun r2 σ1 h => ?_)
  refine P_if_eq C dX12_stop_5 (tgt := 19) (by decide +kernel) (fun q3 => ?_) (fun q3 => ?_)
  · have h := h.1 q3
    refine P_ldcw C (v := (-100001 : Int32)) (List.mem_of_getElem? (i := 1) rfl) dX12_stop_19 ?_
    exact P_iret C dX12_stop_22 h
  · have h := h.2 q3
    refine P_aload_n C dX12_stop_8 0 rfl ?_
    refine P_iload C dX12_stop_9 4 rfl ?_
    refine P_iconst C dX12_stop_11 (v := (0 : Int32)) rfl ?_
    refine P_iconst C dX12_stop_12 (v := (1 : Int32)) rfl ?_
    refine P_ci (R_v (ci := 12) C kv_X12_stop_X12_in (As := [.int a4, .int (0 : Int32), .int (1 : Int32)]) rfl kd_74 rfl (fxl fx_74) (Nat.le_of_ble_eq_true rfl) dX12_stop_13 ⟨Nat.le_refl _, Nat.le_refl _⟩ h) (fun r5 σ4 h => ?_)
    refine P_if_ne C dX12_stop_16 (tgt := 23) (by decide +kernel) (fun q6 => ?_) (fun q6 => ?_)
    · have h := h.1 q6
      refine P_aload_n C dX12_stop_23 0 rfl ?_
      refine P_iload_n C dX12_stop_24 2 rfl ?_
      refine P_iconst C dX12_stop_25 (v := (1 : Int32)) rfl ?_
      refine P_bipush C dX12_stop_26 (v := (20 : Int32)) rfl ?_
      refine P_ci (R_v (ci := 12) C kv_X12_stop_X12_in (As := [.int a2, .int (1 : Int32), .int (20 : Int32)]) rfl kd_74 rfl (fxl fx_74) (Nat.le_of_ble_eq_true rfl) dX12_stop_28 ⟨Nat.le_refl _, Nat.le_refl _⟩ h) (fun r8 σ7 h => ?_)
      refine P_if_eq C dX12_stop_31 (tgt := 45) (by decide +kernel) (fun q9 => ?_) (fun q9 => ?_)
      · have h := h.1 q9
        refine P_ldcw C (v := (-100002 : Int32)) (List.mem_of_getElem? (i := 2) rfl) dX12_stop_45 ?_
        exact P_iret C dX12_stop_48 h
      · have h := h.2 q9
        refine P_aload_n C dX12_stop_34 0 rfl ?_
        refine P_iload_n C dX12_stop_35 3 rfl ?_
        refine P_iconst C dX12_stop_36 (v := (1 : Int32)) rfl ?_
        refine P_bipush C dX12_stop_37 (v := (60 : Int32)) rfl ?_
        refine P_ci (R_v (ci := 12) C kv_X12_stop_X12_in (As := [.int a3, .int (1 : Int32), .int (60 : Int32)]) rfl kd_74 rfl (fxl fx_74) (Nat.le_of_ble_eq_true rfl) dX12_stop_39 ⟨Nat.le_refl _, Nat.le_refl _⟩ h) (fun r11 σ10 h => ?_)
        refine P_if_ne C dX12_stop_42 (tgt := 49) (by decide +kernel) (fun q12 => ?_) (fun q12 => ?_)
        · have h := h.1 q12
          refine P_aload_n C dX12_stop_49 0 rfl ?_
          refine P_cv (R_v (ci := 12) C kv_X12_stop_X12_save (As := []) rfl kd_74 rfl (fxl fx_74) (Nat.le_of_ble_eq_true rfl) dX12_stop_50 ⟨Nat.le_refl _, Nat.le_refl _⟩ h) (fun σ13 h => ?_)
          refine P_aload_n C dX12_stop_53 0 rfl ?_
          refine P_iload_n C dX12_stop_54 3 rfl ?_
          refine P_cv (R_v (ci := 12) C kv_X12_stop_X12_goMinutes (As := [.int a3]) rfl kd_74 rfl (fxl fx_74) (Nat.le_of_ble_eq_true rfl) dX12_stop_55 ⟨Nat.le_refl _, Nat.le_refl _⟩ h) (fun σ14 h => ?_)
          refine P_iconst C dX12_stop_58 (v := (0 : Int32)) rfl ?_
          refine P_istore C dX12_stop_59 (by rw [hN]; decide) rfl ?_
          exact P_sub [1, 2, 3, 4, 5, 0] rfl h
        · have h := h.2 q12
          refine P_ldcw C (v := (-100002 : Int32)) (List.mem_of_getElem? (i := 2) rfl) dX12_stop_45 ?_
          exact P_iret C dX12_stop_48 h
    · have h := h.2 q6
      refine P_ldcw C (v := (-100001 : Int32)) (List.mem_of_getElem? (i := 1) rfl) dX12_stop_19 ?_
      exact P_iret C dX12_stop_22 h
set_option maxRecDepth 100000 in
set_option maxHeartbeats 4000000 in
theorem s_X12_stop_61 {M : Mx} {Qk : Int32 → Sg → Prop} (C : Cx M cX12_stop (some .int) RX12 wsX12_stop (rmz 8) 0 0 (QI (mV M) Qk)) (hN : mN M = 8) {x1 : Int32} {x2 : Int32} {x3 : Int32} {x4 : Int32} {x5 : Int32} {σ : Sg} (h : (((6 : Int32) ≤ x5 → K_X12_all (mL M) (mV M) σ (fun r3 σ2 => K_X12_putBack (mL M) (mV M) σ2 (fun σ4 => K_X12_save (mL M) (mV M) σ4 (fun σ5 => (vp_in x1 6 ∧ (vp_in x1 6 ∧ (∀ σ8 : Sg, σ8 = si σ5 108 x1.toNatClampNeg ((gi σ5 108 x1.toNatClampNeg) + x2) → K_X12_goMinutes (mL M) (mV M) x3 σ8 (fun σ9 => PS M 123 [(0, .ref 74), (1, .int x1), (4, .int x4), (5, .int r3), (6, .int (0 : Int32)), (7, .int (0 : Int32))] [] σ9 (0, 0))))))))) ∧ (¬ (6 : Int32) ≤ x5 → (vp_in x5 6 ∧ (vp_in x5 6 ∧ (∀ σ12 : Sg, σ12 = si σ 140 x5.toNatClampNeg (gi σ 105 x5.toNatClampNeg) → (∀ v13 : Int32, v13 = x5 + 1 → PS M 61 [(0, .ref 74), (1, .int x1), (2, .int x2), (3, .int x3), (4, .int x4), (5, .int v13)] [] σ12 (0, 0)))))))) : PS M 61 [(0, .ref 74), (1, .int x1), (2, .int x2), (3, .int x3), (4, .int x4), (5, .int x5)] [] σ (0, 0) := by
  refine P_iload C dX12_stop_61 5 rfl ?_
  refine P_bipush C dX12_stop_63 (v := (6 : Int32)) rfl ?_
  refine P_icmp_ge C dX12_stop_65 (tgt := 88) (by decide +kernel) (fun q1 => ?_) (fun q1 => ?_)
  · have h := h.1 q1
    refine P_aload_n C dX12_stop_88 0 rfl ?_
    refine P_ci (R_v (ci := 12) C kv_X12_stop_X12_all (As := []) rfl kd_74 rfl (fxl fx_74) (Nat.le_of_ble_eq_true rfl) dX12_stop_89 ⟨Nat.le_refl _, Nat.le_refl _⟩ h) (fun r3 σ2 h => ?_)
    refine P_istore C dX12_stop_92 (by rw [hN]; decide) rfl ?_
    refine P_aload_n C dX12_stop_94 1 rfl ?_
    refine P_cv (R_v (ci := 12) C kv_X12_stop_X12_putBack (As := []) rfl kd_74 rfl (fxl fx_74) (Nat.le_of_ble_eq_true rfl) dX12_stop_95 ⟨Nat.le_refl _, Nat.le_refl _⟩ h) (fun σ4 h => ?_)
    refine P_aload_n C dX12_stop_98 1 rfl ?_
    refine P_cv (R_v (ci := 12) C kv_X12_stop_X12_save (As := []) rfl kd_74 rfl (fxl fx_74) (Nat.le_of_ble_eq_true rfl) dX12_stop_99 ⟨Nat.le_refl _, Nat.le_refl _⟩ h) (fun σ5 h => ?_)
    refine P_aload_n C dX12_stop_102 1 rfl ?_
    refine P_getS C (e := 108) fa_X12_stop_35 kd_74 (d := 34) rfl (fxl fx_74) rfl dX12_stop_103 ?_
    refine P_iload_n C dX12_stop_106 2 rfl ?_
    refine P_dup2 C dX12_stop_107 rfl rfl ?_
    obtain ⟨hv6, h⟩ := h
    refine P_iald C kd_108 (fxl fx_108) hv6 dX12_stop_108 ?_
    refine P_iload_n C dX12_stop_109 3 rfl ?_
    refine P_iadd C dX12_stop_110 ?_
    obtain ⟨hv7, h⟩ := h
    refine P_iast C kd_108 (fxl fx_108) hv7 dX12_stop_111 ?_
    refine P_nm (fun σ8 eσ8 => ?_)
    have h := h σ8 eσ8
    refine P_aload_n C dX12_stop_112 1 rfl ?_
    refine P_iload_n C dX12_stop_113 4 rfl ?_
    refine P_cv (R_v (ci := 12) C kv_X12_stop_X12_goMinutes (As := [.int x3]) rfl kd_74 rfl (fxl fx_74) (Nat.le_of_ble_eq_true rfl) dX12_stop_114 ⟨Nat.le_refl _, Nat.le_refl _⟩ h) (fun σ9 h => ?_)
    refine P_iconst C dX12_stop_117 (v := (0 : Int32)) rfl ?_
    refine P_istore C dX12_stop_118 (by rw [hN]; decide) rfl ?_
    refine P_iconst C dX12_stop_120 (v := (0 : Int32)) rfl ?_
    refine P_istore C dX12_stop_121 (by rw [hN]; decide) rfl ?_
    exact P_sub [3, 4, 7, 2, 1, 0] rfl h
  · have h := h.2 q1
    refine P_aload_n C dX12_stop_68 0 rfl ?_
    refine P_getS C (e := 140) fa_X12_stop_132 kd_74 (d := 66) rfl (fxl fx_74) rfl dX12_stop_69 ?_
    refine P_iload C dX12_stop_72 5 rfl ?_
    refine P_aload_n C dX12_stop_74 0 rfl ?_
    refine P_getS C (e := 105) fa_X12_stop_26 kd_74 (d := 31) rfl (fxl fx_74) rfl dX12_stop_75 ?_
    refine P_iload C dX12_stop_78 5 rfl ?_
    obtain ⟨hv10, h⟩ := h
    refine P_iald C kd_105 (fxl fx_105) hv10 dX12_stop_80 ?_
    obtain ⟨hv11, h⟩ := h
    refine P_iast C kd_140 (fxl fx_140) hv11 dX12_stop_81 ?_
    refine P_nm (fun σ12 eσ12 => ?_)
    have h := h σ12 eσ12
    obtain ⟨v13, ev13⟩ : ∃ v : Int32, v = x5 + 1 := ⟨_, rfl⟩
    have h := h v13 ev13
    refine P_iinc (v := v13) C dX12_stop_82 5 rfl (by rw [ev13]; rfl) (by rw [hN]; decide) rfl ?_
    refine P_goto C dX12_stop_85 (tgt := 61) (by decide +kernel) ?_
    exact P_sub [1, 2, 3, 4, 5, 0] rfl h
set_option maxRecDepth 100000 in
set_option maxHeartbeats 4000000 in
theorem s_X12_stop_123 {M : Mx} {Qk : Int32 → Sg → Prop} (C : Cx M cX12_stop (some .int) RX12 wsX12_stop (rmz 8) 0 0 (QI (mV M) Qk)) (hN : mN M = 8) {x1 : Int32} {x4 : Int32} {x5 : Int32} {x6 : Int32} {x7 : Int32} {σ : Sg} (h : (((gi σ 74 0) ≤ x7 → K_X12_all (mL M) (mV M) σ (fun r3 σ2 => K_X12_putBack (mL M) (mV M) σ2 (fun σ4 => ((¬ x4 = 0 → Qk x6 σ4) ∧ (x4 = 0 → Qk (x5 - r3) σ4))))) ∧ (¬ (gi σ 74 0) ≤ x7 → ((x7 = x1 → (∀ v7 : Int32, v7 = x6 ||| (0 : Int32) → (∀ v8 : Int32, v8 = x7 + 1 → PS M 123 [(0, .ref 74), (1, .int x1), (4, .int x4), (5, .int x5), (6, .int v7), (7, .int v8)] [] σ (0, 0)))) ∧ (¬ x7 = x1 → (vp_in x7 6 ∧ (vp_in x7 6 ∧ (((gi σ 140 x7.toNatClampNeg) ≤ (gi σ 105 x7.toNatClampNeg) → (∀ v12 : Int32, v12 = x6 ||| (0 : Int32) → (∀ v13 : Int32, v13 = x7 + 1 → PS M 123 [(0, .ref 74), (1, .int x1), (4, .int x4), (5, .int x5), (6, .int v12), (7, .int v13)] [] σ (0, 0)))) ∧ (¬ (gi σ 140 x7.toNatClampNeg) ≤ (gi σ 105 x7.toNatClampNeg) → (∀ v14 : Int32, v14 = x6 ||| ((1 : Int32) <<< (x7 &&& 31)) → (∀ v15 : Int32, v15 = x7 + 1 → PS M 123 [(0, .ref 74), (1, .int x1), (4, .int x4), (5, .int x5), (6, .int v14), (7, .int v15)] [] σ (0, 0)))))))))))) : PS M 123 [(0, .ref 74), (1, .int x1), (4, .int x4), (5, .int x5), (6, .int x6), (7, .int x7)] [] σ (0, 0) := by
  refine P_iload C dX12_stop_123 5 rfl ?_
  refine P_aload_n C dX12_stop_125 0 rfl ?_
  refine P_getI C fa_X12_stop_7 kd_74 rfl (fxl fx_74) dX12_stop_126 ?_
  refine P_icmp_ge C dX12_stop_129 (tgt := 174) (by decide +kernel) (fun q1 => ?_) (fun q1 => ?_)
  · have h := h.1 q1
    refine P_aload_n C dX12_stop_174 0 rfl ?_
    refine P_ci (R_v (ci := 12) C kv_X12_stop_X12_all (As := []) rfl kd_74 rfl (fxl fx_74) (Nat.le_of_ble_eq_true rfl) dX12_stop_175 ⟨Nat.le_refl _, Nat.le_refl _⟩ h) (fun r3 σ2 h => ?_)
    refine P_istore C dX12_stop_178 (by rw [hN]; decide) rfl ?_
    refine P_aload_n C dX12_stop_180 1 rfl ?_
    refine P_cv (R_v (ci := 12) C kv_X12_stop_X12_putBack (As := []) rfl kd_74 rfl (fxl fx_74) (Nat.le_of_ble_eq_true rfl) dX12_stop_181 ⟨Nat.le_refl _, Nat.le_refl _⟩ h) (fun σ4 h => ?_)
    refine P_iload C dX12_stop_184 3 rfl ?_
    refine P_if_ne C dX12_stop_186 (tgt := 197) (by decide +kernel) (fun q5 => ?_) (fun q5 => ?_)
    · have h := h.1 q5
      refine P_iload C dX12_stop_197 5 rfl ?_
      exact P_iret C dX12_stop_199 h
    · have h := h.2 q5
      refine P_iload C dX12_stop_189 4 rfl ?_
      refine P_iload C dX12_stop_191 0 rfl ?_
      refine P_isub C dX12_stop_193 ?_
      refine P_goto C dX12_stop_194 (tgt := 199) (by decide +kernel) ?_
      exact P_iret C dX12_stop_199 h
  · have h := h.2 q1
    refine P_iload C dX12_stop_132 4 rfl ?_
    refine P_iload C dX12_stop_134 5 rfl ?_
    refine P_iload_n C dX12_stop_136 1 rfl ?_
    refine P_icmp_eq C dX12_stop_137 (tgt := 164) (by decide +kernel) (fun q6 => ?_) (fun q6 => ?_)
    · have h := h.1 q6
      refine P_iconst C dX12_stop_164 (v := (0 : Int32)) rfl ?_
      refine P_ior C dX12_stop_165 ?_
      refine P_nmi (fun v7 ev7 => ?_)
      have h := h v7 ev7
      refine P_istore C dX12_stop_166 (by rw [hN]; decide) rfl ?_
      obtain ⟨v8, ev8⟩ : ∃ v : Int32, v = x7 + 1 := ⟨_, rfl⟩
      have h := h v8 ev8
      refine P_iinc (v := v8) C dX12_stop_168 5 rfl (by rw [ev8]; rfl) (by rw [hN]; decide) rfl ?_
      refine P_goto C dX12_stop_171 (tgt := 123) (by decide +kernel) ?_
      exact P_sub [2, 3, 4, 5, 1, 0] rfl h
    · have h := h.2 q6
      refine P_aload_n C dX12_stop_140 0 rfl ?_
      refine P_getS C (e := 105) fa_X12_stop_26 kd_74 (d := 31) rfl (fxl fx_74) rfl dX12_stop_141 ?_
      refine P_iload C dX12_stop_144 5 rfl ?_
      obtain ⟨hv9, h⟩ := h
      refine P_iald C kd_105 (fxl fx_105) hv9 dX12_stop_146 ?_
      refine P_aload_n C dX12_stop_147 0 rfl ?_
      refine P_getS C (e := 140) fa_X12_stop_132 kd_74 (d := 66) rfl (fxl fx_74) rfl dX12_stop_148 ?_
      refine P_iload C dX12_stop_151 5 rfl ?_
      obtain ⟨hv10, h⟩ := h
      refine P_iald C kd_140 (fxl fx_140) hv10 dX12_stop_153 ?_
      refine P_icmp_ge C dX12_stop_154 (tgt := 164) (by decide +kernel) (fun q11 => ?_) (fun q11 => ?_)
      · have h := h.1 q11
        refine P_iconst C dX12_stop_164 (v := (0 : Int32)) rfl ?_
        refine P_ior C dX12_stop_165 ?_
        refine P_nmi (fun v12 ev12 => ?_)
        have h := h v12 ev12
        refine P_istore C dX12_stop_166 (by rw [hN]; decide) rfl ?_
        obtain ⟨v13, ev13⟩ : ∃ v : Int32, v = x7 + 1 := ⟨_, rfl⟩
        have h := h v13 ev13
        refine P_iinc (v := v13) C dX12_stop_168 5 rfl (by rw [ev13]; rfl) (by rw [hN]; decide) rfl ?_
        refine P_goto C dX12_stop_171 (tgt := 123) (by decide +kernel) ?_
        exact P_sub [2, 3, 4, 5, 1, 0] rfl h
      · have h := h.2 q11
        refine P_iconst C dX12_stop_157 (v := (1 : Int32)) rfl ?_
        refine P_iload C dX12_stop_158 5 rfl ?_
        refine P_ishl C dX12_stop_160 ?_
        refine P_goto C dX12_stop_161 (tgt := 165) (by decide +kernel) ?_
        refine P_ior C dX12_stop_165 ?_
        refine P_nmi (fun v14 ev14 => ?_)
        have h := h v14 ev14
        refine P_istore C dX12_stop_166 (by rw [hN]; decide) rfl ?_
        obtain ⟨v15, ev15⟩ : ∃ v : Int32, v = x7 + 1 := ⟨_, rfl⟩
        have h := h v15 ev15
        refine P_iinc (v := v15) C dX12_stop_168 5 rfl (by rw [ev15]; rfl) (by rw [hN]; decide) rfl ?_
        refine P_goto C dX12_stop_171 (tgt := 123) (by decide +kernel) ?_
        exact P_sub [2, 3, 4, 5, 1, 0] rfl h
theorem kv_X12_aloneBehind_X12_save : KV RX12 wsX12_aloneBehind (rmz 8) 353 RX12 yX12_save wsX12_save (rmz 0) 0 := ⟨_, _, _, _, gX12_aloneBehind_X12_save, rfl, by decide +kernel, by decide +kernel⟩
theorem fa_X12_aloneBehind_41 : FA RX12 wsX12_aloneBehind 41 12 10 "NineMowersModel" := by
  show _ ∧ _ ∧ _ ∧ _
  exact ⟨by decide +kernel, fun _ h => List.mem_cons_of_mem _ (List.mem_append_right _ h), List.mem_of_getElem? (i := 2) rfl, Or.inl rfl⟩
theorem pa_X12_aloneBehind_16 : PA RX12 wsX12_aloneBehind 16 12 2 "NineMowersModel" .int := by
  show _ ∧ _ ∧ _ ∧ _ ∧ _ ∧ _ ∧ _ ∧ _
  exact ⟨by decide +kernel, fun _ h => List.mem_cons_of_mem _ (List.mem_append_right _ h), List.mem_of_getElem? (i := 3) rfl, rfl, rfl, by decide +kernel, ⟨tyX12, tyX12_ok⟩, nmX12⟩
theorem kv_X12_aloneBehind_X12_goMinutes : KV RX12 wsX12_aloneBehind (rmz 8) 356 RX12 yX12_goMinutes wsX12_goMinutes (rmz 7) 1 := ⟨_, _, _, _, gX12_aloneBehind_X12_goMinutes, rfl, by decide +kernel, by decide +kernel⟩
theorem fa_X12_aloneBehind_26 : FA RX12 wsX12_aloneBehind 26 12 5 "NineMowersModel" := by
  show _ ∧ _ ∧ _ ∧ _
  exact ⟨by decide +kernel, fun _ h => List.mem_cons_of_mem _ (List.mem_append_right _ h), List.mem_of_getElem? (i := 4) rfl, Or.inl rfl⟩
theorem fa_X12_aloneBehind_126 : FA RX12 wsX12_aloneBehind 126 12 38 "NineMowersModel" := by
  show _ ∧ _ ∧ _ ∧ _
  exact ⟨by decide +kernel, fun _ h => List.mem_cons_of_mem _ (List.mem_append_right _ h), List.mem_of_getElem? (i := 1) rfl, Or.inl rfl⟩
theorem fa_X12_aloneBehind_7 : FA RX12 wsX12_aloneBehind 7 12 0 "NineMowersModel" := by
  show _ ∧ _ ∧ _ ∧ _
  exact ⟨by decide +kernel, fun _ h => List.mem_cons_of_mem _ (List.mem_append_right _ h), List.mem_of_getElem? (i := 5) rfl, Or.inl rfl⟩
theorem kv_X12_aloneBehind_X12_putBack : KV RX12 wsX12_aloneBehind (rmz 8) 362 RX12 yX12_putBack wsX12_putBack (rmz 0) 0 := ⟨_, _, _, _, gX12_aloneBehind_X12_putBack, rfl, by decide +kernel, by decide +kernel⟩
noncomputable def K_X12_aloneBehind (l : Launch) (V : Vx) (a1 : Int32) (a2 : Int32) (σ : Sg) (Qk : Int32 → Sg → Prop) : Prop := Ka l V yX12_aloneBehind wsX12_aloneBehind (rmz 8) 0 0 [.ref 74, .int a1, .int a2] σ (QI V Qk)
theorem e_X12_aloneBehind {l : Launch} {V : Vx} {a1 : Int32} {a2 : Int32} {σ : Sg} {Qk : Int32 → Sg → Prop} (h : ∀ M : Mx, mL M = l → mV M = V → mN M = 5 → Cx M cX12_aloneBehind (some .int) RX12 wsX12_aloneBehind (rmz 8) 0 0 (QI (mV M) Qk) → PS M 0 [(0, .ref 74), (1, .int a1), (2, .int a2)] [] σ (0, 0)) : K_X12_aloneBehind l V a1 a2 σ Qk :=
  Ka_of (by decide +kernel) rfl rfl (Nat.le_of_ble_eq_true rfl) (fun M h1 h2 h3 C => h M h1 h2 h3 (by rw [h2]; exact C))
set_option maxRecDepth 100000 in
set_option maxHeartbeats 4000000 in
theorem s_X12_aloneBehind_0 {M : Mx} {Qk : Int32 → Sg → Prop} (C : Cx M cX12_aloneBehind (some .int) RX12 wsX12_aloneBehind (rmz 8) 0 0 (QI (mV M) Qk)) (hN : mN M = 5) {a1 : Int32} {a2 : Int32} {σ : Sg} (h : K_X12_save (mL M) (mV M) σ (fun σ1 => PS M 6 [(0, .ref 74), (1, .int a1), (2, .int a2), (3, .int (0 : Int32))] [] σ1 (0, 0))) : PS M 0 [(0, .ref 74), (1, .int a1), (2, .int a2)] [] σ (0, 0) := by
  refine P_aload_n C dX12_aloneBehind_0 0 rfl ?_
  refine P_cv (R_v (ci := 12) C kv_X12_aloneBehind_X12_save (As := []) rfl kd_74 rfl (fxl fx_74) (Nat.le_of_ble_eq_true rfl) dX12_aloneBehind_1 ⟨Nat.le_refl _, Nat.le_refl _⟩ h) (fun σ1 h => ?_)
  refine P_iconst C dX12_aloneBehind_4 (v := (0 : Int32)) rfl ?_
  refine P_istore_n C dX12_aloneBehind_5 (by rw [hN]; decide) rfl ?_
  exact P_sub [1, 2, 3, 0] rfl h
set_option maxRecDepth 100000 in
set_option maxHeartbeats 4000000 in
theorem s_X12_aloneBehind_6 {M : Mx} {Qk : Int32 → Sg → Prop} (C : Cx M cX12_aloneBehind (some .int) RX12 wsX12_aloneBehind (rmz 8) 0 0 (QI (mV M) Qk)) (hN : mN M = 5) {x1 : Int32} {x2 : Int32} {x3 : Int32} {σ : Sg} (h : (((6 : Int32) ≤ x3 → (vp_in (0 : Int32) 6 ∧ (∀ σ3 : Sg, σ3 = si σ 110 (0 : Int32).toNatClampNeg x1 → (∀ σ4 : Sg, σ4 = si σ3 74 2 (1 : Int32) → K_X12_goMinutes (mL M) (mV M) x2 σ4 (fun σ5 => (vp_in x1 6 ∧ (∀ v7 : Int32, v7 = gi σ5 105 x1.toNatClampNeg → PS M 57 [(0, .ref 74), (3, .int v7), (4, .int (0 : Int32))] [] σ5 (0, 0)))))))) ∧ (¬ (6 : Int32) ≤ x3 → (vp_in x3 6 ∧ (vp_in x3 6 ∧ (∀ σ10 : Sg, σ10 = si σ 138 x3.toNatClampNeg (gi σ 110 x3.toNatClampNeg) → (∀ v11 : Int32, v11 = x3 + 1 → PS M 6 [(0, .ref 74), (1, .int x1), (2, .int x2), (3, .int v11)] [] σ10 (0, 0)))))))) : PS M 6 [(0, .ref 74), (1, .int x1), (2, .int x2), (3, .int x3)] [] σ (0, 0) := by
  refine P_iload_n C dX12_aloneBehind_6 3 rfl ?_
  refine P_bipush C dX12_aloneBehind_7 (v := (6 : Int32)) rfl ?_
  refine P_icmp_ge C dX12_aloneBehind_9 (tgt := 30) (by decide +kernel) (fun q1 => ?_) (fun q1 => ?_)
  · have h := h.1 q1
    refine P_aload_n C dX12_aloneBehind_30 0 rfl ?_
    refine P_getS C (e := 110) fa_X12_aloneBehind_41 kd_74 (d := 36) rfl (fxl fx_74) rfl dX12_aloneBehind_31 ?_
    refine P_iconst C dX12_aloneBehind_34 (v := (0 : Int32)) rfl ?_
    refine P_iload_n C dX12_aloneBehind_35 1 rfl ?_
    obtain ⟨hv2, h⟩ := h
    refine P_iast C kd_110 (fxl fx_110) hv2 dX12_aloneBehind_36 ?_
    refine P_nm (fun σ3 eσ3 => ?_)
    have h := h σ3 eσ3
    refine P_aload_n C dX12_aloneBehind_37 0 rfl ?_
    refine P_iconst C dX12_aloneBehind_38 (v := (1 : Int32)) rfl ?_
    refine P_putI C pa_X12_aloneBehind_16 kd_74 rfl (fxl fx_74) dX12_aloneBehind_39 ?_
    refine P_nm (fun σ4 eσ4 => ?_)
    have h := h σ4 eσ4
    refine P_aload_n C dX12_aloneBehind_42 0 rfl ?_
    refine P_iload_n C dX12_aloneBehind_43 2 rfl ?_
    refine P_cv (R_v (ci := 12) C kv_X12_aloneBehind_X12_goMinutes (As := [.int x2]) rfl kd_74 rfl (fxl fx_74) (Nat.le_of_ble_eq_true rfl) dX12_aloneBehind_44 ⟨Nat.le_refl _, Nat.le_refl _⟩ h) (fun σ5 h => ?_)
    refine P_aload_n C dX12_aloneBehind_47 0 rfl ?_
    refine P_getS C (e := 105) fa_X12_aloneBehind_26 kd_74 (d := 31) rfl (fxl fx_74) rfl dX12_aloneBehind_48 ?_
    refine P_iload_n C dX12_aloneBehind_51 1 rfl ?_
    obtain ⟨hv6, h⟩ := h
    refine P_iald C kd_105 (fxl fx_105) hv6 dX12_aloneBehind_52 ?_
    refine P_nmi (fun v7 ev7 => ?_)
    have h := h v7 ev7
    refine P_istore_n C dX12_aloneBehind_53 (by rw [hN]; decide) rfl ?_
    refine P_iconst C dX12_aloneBehind_54 (v := (0 : Int32)) rfl ?_
    refine P_istore C dX12_aloneBehind_55 (by rw [hN]; decide) rfl ?_
    exact P_sub [2, 1, 0] rfl h
  · have h := h.2 q1
    refine P_aload_n C dX12_aloneBehind_12 0 rfl ?_
    refine P_getS C (e := 138) fa_X12_aloneBehind_126 kd_74 (d := 64) rfl (fxl fx_74) rfl dX12_aloneBehind_13 ?_
    refine P_iload_n C dX12_aloneBehind_16 3 rfl ?_
    refine P_aload_n C dX12_aloneBehind_17 0 rfl ?_
    refine P_getS C (e := 110) fa_X12_aloneBehind_41 kd_74 (d := 36) rfl (fxl fx_74) rfl dX12_aloneBehind_18 ?_
    refine P_iload_n C dX12_aloneBehind_21 3 rfl ?_
    obtain ⟨hv8, h⟩ := h
    refine P_iald C kd_110 (fxl fx_110) hv8 dX12_aloneBehind_22 ?_
    obtain ⟨hv9, h⟩ := h
    refine P_iast C kd_138 (fxl fx_138) hv9 dX12_aloneBehind_23 ?_
    refine P_nm (fun σ10 eσ10 => ?_)
    have h := h σ10 eσ10
    obtain ⟨v11, ev11⟩ : ∃ v : Int32, v = x3 + 1 := ⟨_, rfl⟩
    have h := h v11 ev11
    refine P_iinc (v := v11) C dX12_aloneBehind_24 3 rfl (by rw [ev11]; rfl) (by rw [hN]; decide) rfl ?_
    refine P_goto C dX12_aloneBehind_27 (tgt := 6) (by decide +kernel) ?_
    exact P_sub [1, 2, 3, 0] rfl h
set_option maxRecDepth 100000 in
set_option maxHeartbeats 4000000 in
theorem s_X12_aloneBehind_57 {M : Mx} {Qk : Int32 → Sg → Prop} (C : Cx M cX12_aloneBehind (some .int) RX12 wsX12_aloneBehind (rmz 8) 0 0 (QI (mV M) Qk)) (hN : mN M = 5) {x3 : Int32} {x4 : Int32} {σ : Sg} (h : (((6 : Int32) ≤ x4 → (∀ σ2 : Sg, σ2 = si σ 74 2 (gi σ 74 0) → K_X12_putBack (mL M) (mV M) σ2 (fun σ3 => Qk x3 σ3))) ∧ (¬ (6 : Int32) ≤ x4 → (vp_in x4 6 ∧ (vp_in x4 6 ∧ (∀ σ6 : Sg, σ6 = si σ 110 x4.toNatClampNeg (gi σ 138 x4.toNatClampNeg) → (∀ v7 : Int32, v7 = x4 + 1 → PS M 57 [(0, .ref 74), (3, .int x3), (4, .int v7)] [] σ6 (0, 0)))))))) : PS M 57 [(0, .ref 74), (3, .int x3), (4, .int x4)] [] σ (0, 0) := by
  refine P_iload C dX12_aloneBehind_57 2 rfl ?_
  refine P_bipush C dX12_aloneBehind_59 (v := (6 : Int32)) rfl ?_
  refine P_icmp_ge C dX12_aloneBehind_61 (tgt := 84) (by decide +kernel) (fun q1 => ?_) (fun q1 => ?_)
  · have h := h.1 q1
    refine P_aload_n C dX12_aloneBehind_84 0 rfl ?_
    refine P_aload_n C dX12_aloneBehind_85 0 rfl ?_
    refine P_getI C fa_X12_aloneBehind_7 kd_74 rfl (fxl fx_74) dX12_aloneBehind_86 ?_
    refine P_putI C pa_X12_aloneBehind_16 kd_74 rfl (fxl fx_74) dX12_aloneBehind_89 ?_
    refine P_nm (fun σ2 eσ2 => ?_)
    have h := h σ2 eσ2
    refine P_aload_n C dX12_aloneBehind_92 0 rfl ?_
    refine P_cv (R_v (ci := 12) C kv_X12_aloneBehind_X12_putBack (As := []) rfl kd_74 rfl (fxl fx_74) (Nat.le_of_ble_eq_true rfl) dX12_aloneBehind_93 ⟨Nat.le_refl _, Nat.le_refl _⟩ h) (fun σ3 h => ?_)
    refine P_iload_n C dX12_aloneBehind_96 1 rfl ?_
    exact P_iret C dX12_aloneBehind_97 h
  · have h := h.2 q1
    refine P_aload_n C dX12_aloneBehind_64 0 rfl ?_
    refine P_getS C (e := 110) fa_X12_aloneBehind_41 kd_74 (d := 36) rfl (fxl fx_74) rfl dX12_aloneBehind_65 ?_
    refine P_iload C dX12_aloneBehind_68 2 rfl ?_
    refine P_aload_n C dX12_aloneBehind_70 0 rfl ?_
    refine P_getS C (e := 138) fa_X12_aloneBehind_126 kd_74 (d := 64) rfl (fxl fx_74) rfl dX12_aloneBehind_71 ?_
    refine P_iload C dX12_aloneBehind_74 2 rfl ?_
    obtain ⟨hv4, h⟩ := h
    refine P_iald C kd_138 (fxl fx_138) hv4 dX12_aloneBehind_76 ?_
    obtain ⟨hv5, h⟩ := h
    refine P_iast C kd_110 (fxl fx_110) hv5 dX12_aloneBehind_77 ?_
    refine P_nm (fun σ6 eσ6 => ?_)
    have h := h σ6 eσ6
    obtain ⟨v7, ev7⟩ : ∃ v : Int32, v = x4 + 1 := ⟨_, rfl⟩
    have h := h v7 ev7
    refine P_iinc (v := v7) C dX12_aloneBehind_78 2 rfl (by rw [ev7]; rfl) (by rw [hN]; decide) rfl ?_
    refine P_goto C dX12_aloneBehind_81 (tgt := 57) (by decide +kernel) ?_
    exact P_sub [1, 2, 0] rfl h
theorem kv_X12_allStopped_X12_save : KV RX12 wsX12_allStopped (rmz 8) 353 RX12 yX12_save wsX12_save (rmz 0) 0 := ⟨_, _, _, _, gX12_allStopped_X12_save, rfl, by decide +kernel, by decide +kernel⟩
theorem fa_X12_allStopped_35 : FA RX12 wsX12_allStopped 35 12 8 "NineMowersModel" := by
  show _ ∧ _ ∧ _ ∧ _
  exact ⟨by decide +kernel, fun _ h => List.mem_cons_of_mem _ (List.mem_append_right _ h), List.mem_of_getElem? (i := 1) rfl, Or.inl rfl⟩
theorem kv_X12_allStopped_X12_goMinutes : KV RX12 wsX12_allStopped (rmz 8) 356 RX12 yX12_goMinutes wsX12_goMinutes (rmz 7) 1 := ⟨_, _, _, _, gX12_allStopped_X12_goMinutes, rfl, by decide +kernel, by decide +kernel⟩
theorem kv_X12_allStopped_X12_all : KV RX12 wsX12_allStopped (rmz 8) 359 RX12 yX12_all wsX12_all (rmz 0) 0 := ⟨_, _, _, _, gX12_allStopped_X12_all, rfl, by decide +kernel, by decide +kernel⟩
theorem kv_X12_allStopped_X12_putBack : KV RX12 wsX12_allStopped (rmz 8) 362 RX12 yX12_putBack wsX12_putBack (rmz 0) 0 := ⟨_, _, _, _, gX12_allStopped_X12_putBack, rfl, by decide +kernel, by decide +kernel⟩
noncomputable def K_X12_allStopped (l : Launch) (V : Vx) (a1 : Int32) (a2 : Int32) (a3 : Int32) (σ : Sg) (Qk : Int32 → Sg → Prop) : Prop := Ka l V yX12_allStopped wsX12_allStopped (rmz 8) 0 0 [.ref 74, .int a1, .int a2, .int a3] σ (QI V Qk)
theorem e_X12_allStopped {l : Launch} {V : Vx} {a1 : Int32} {a2 : Int32} {a3 : Int32} {σ : Sg} {Qk : Int32 → Sg → Prop} (h : ∀ M : Mx, mL M = l → mV M = V → mN M = 5 → Cx M cX12_allStopped (some .int) RX12 wsX12_allStopped (rmz 8) 0 0 (QI (mV M) Qk) → PS M 0 [(0, .ref 74), (1, .int a1), (2, .int a2), (3, .int a3)] [] σ (0, 0)) : K_X12_allStopped l V a1 a2 a3 σ Qk :=
  Ka_of (by decide +kernel) rfl rfl (Nat.le_of_ble_eq_true rfl) (fun M h1 h2 h3 C => h M h1 h2 h3 (by rw [h2]; exact C))
set_option maxRecDepth 100000 in
set_option maxHeartbeats 4000000 in
theorem s_X12_allStopped_0 {M : Mx} {Qk : Int32 → Sg → Prop} (C : Cx M cX12_allStopped (some .int) RX12 wsX12_allStopped (rmz 8) 0 0 (QI (mV M) Qk)) (hN : mN M = 5) {a1 : Int32} {a2 : Int32} {a3 : Int32} {σ : Sg} (h : K_X12_save (mL M) (mV M) σ (fun σ1 => (vp_in a1 6 ∧ (vp_in a1 6 ∧ (∀ σ4 : Sg, σ4 = si σ1 108 a1.toNatClampNeg ((gi σ1 108 a1.toNatClampNeg) + a2) → K_X12_goMinutes (mL M) (mV M) a3 σ4 (fun σ5 => K_X12_all (mL M) (mV M) σ5 (fun r7 σ6 => K_X12_putBack (mL M) (mV M) σ6 (fun σ8 => Qk r7 σ8)))))))) : PS M 0 [(0, .ref 74), (1, .int a1), (2, .int a2), (3, .int a3)] [] σ (0, 0) := by
  refine P_aload_n C dX12_allStopped_0 0 rfl ?_
  refine P_cv (R_v (ci := 12) C kv_X12_allStopped_X12_save (As := []) rfl kd_74 rfl (fxl fx_74) (Nat.le_of_ble_eq_true rfl) dX12_allStopped_1 ⟨Nat.le_refl _, Nat.le_refl _⟩ h) (fun σ1 h => ?_)
  refine P_aload_n C dX12_allStopped_4 0 rfl ?_
  refine P_getS C (e := 108) fa_X12_allStopped_35 kd_74 (d := 34) rfl (fxl fx_74) rfl dX12_allStopped_5 ?_
  refine P_iload_n C dX12_allStopped_8 1 rfl ?_
  refine P_dup2 C dX12_allStopped_9 rfl rfl ?_
  obtain ⟨hv2, h⟩ := h
  refine P_iald C kd_108 (fxl fx_108) hv2 dX12_allStopped_10 ?_
  refine P_iload_n C dX12_allStopped_11 2 rfl ?_
  refine P_iadd C dX12_allStopped_12 ?_
  obtain ⟨hv3, h⟩ := h
  refine P_iast C kd_108 (fxl fx_108) hv3 dX12_allStopped_13 ?_
  refine P_nm (fun σ4 eσ4 => ?_)
  have h := h σ4 eσ4
  refine P_aload_n C dX12_allStopped_14 0 rfl ?_
  refine P_iload_n C dX12_allStopped_15 3 rfl ?_
  refine P_cv (R_v (ci := 12) C kv_X12_allStopped_X12_goMinutes (As := [.int a3]) rfl kd_74 rfl (fxl fx_74) (Nat.le_of_ble_eq_true rfl) dX12_allStopped_16 ⟨Nat.le_refl _, Nat.le_refl _⟩ h) (fun σ5 h => ?_)
  refine P_aload_n C dX12_allStopped_19 0 rfl ?_
  refine P_ci (R_v (ci := 12) C kv_X12_allStopped_X12_all (As := []) rfl kd_74 rfl (fxl fx_74) (Nat.le_of_ble_eq_true rfl) dX12_allStopped_20 ⟨Nat.le_refl _, Nat.le_refl _⟩ h) (fun r7 σ6 h => ?_)
  refine P_istore C dX12_allStopped_23 (by rw [hN]; decide) rfl ?_
  refine P_aload_n C dX12_allStopped_25 1 rfl ?_
  refine P_cv (R_v (ci := 12) C kv_X12_allStopped_X12_putBack (As := []) rfl kd_74 rfl (fxl fx_74) (Nat.le_of_ble_eq_true rfl) dX12_allStopped_26 ⟨Nat.le_refl _, Nat.le_refl _⟩ h) (fun σ8 h => ?_)
  refine P_iload C dX12_allStopped_29 0 rfl ?_
  exact P_iret C dX12_allStopped_31 h
theorem kv_X12_paused_X12_in : KV RX12 wsX12_paused (rmz 8) 239 RX12 yX12_in wsX12_in (rmz 0) 3 := ⟨_, _, _, _, gX12_paused_X12_in, rfl, by decide +kernel, by decide +kernel⟩
theorem kv_X12_paused_X12_save : KV RX12 wsX12_paused (rmz 8) 353 RX12 yX12_save wsX12_save (rmz 0) 0 := ⟨_, _, _, _, gX12_paused_X12_save, rfl, by decide +kernel, by decide +kernel⟩
theorem kv_X12_paused_X12_goMinutes : KV RX12 wsX12_paused (rmz 8) 356 RX12 yX12_goMinutes wsX12_goMinutes (rmz 7) 1 := ⟨_, _, _, _, gX12_paused_X12_goMinutes, rfl, by decide +kernel, by decide +kernel⟩
theorem kv_X12_paused_X12_goPause : KV RX12 wsX12_paused (rmz 8) 350 RX12 yX12_goPause wsX12_goPause (rmz 1) 1 := ⟨_, _, _, _, gX12_paused_X12_goPause, rfl, by decide +kernel, by decide +kernel⟩
theorem kv_X12_paused_X12_all : KV RX12 wsX12_paused (rmz 8) 359 RX12 yX12_all wsX12_all (rmz 0) 0 := ⟨_, _, _, _, gX12_paused_X12_all, rfl, by decide +kernel, by decide +kernel⟩
theorem kv_X12_paused_X12_putBack : KV RX12 wsX12_paused (rmz 8) 362 RX12 yX12_putBack wsX12_putBack (rmz 0) 0 := ⟨_, _, _, _, gX12_paused_X12_putBack, rfl, by decide +kernel, by decide +kernel⟩
noncomputable def K_X12_paused (l : Launch) (V : Vx) (a1 : Int32) (a2 : Int32) (σ : Sg) (Qk : Int32 → Sg → Prop) : Prop := Ka l V yX12_paused wsX12_paused (rmz 8) 0 0 [.ref 74, .int a1, .int a2] σ (QI V Qk)
theorem e_X12_paused {l : Launch} {V : Vx} {a1 : Int32} {a2 : Int32} {σ : Sg} {Qk : Int32 → Sg → Prop} (h : ∀ M : Mx, mL M = l → mV M = V → mN M = 7 → Cx M cX12_paused (some .int) RX12 wsX12_paused (rmz 8) 0 0 (QI (mV M) Qk) → PS M 0 [(0, .ref 74), (1, .int a1), (2, .int a2)] [] σ (0, 0)) : K_X12_paused l V a1 a2 σ Qk :=
  Ka_of (by decide +kernel) rfl rfl (Nat.le_of_ble_eq_true rfl) (fun M h1 h2 h3 C => h M h1 h2 h3 (by rw [h2]; exact C))
set_option maxRecDepth 100000 in
set_option maxHeartbeats 4000000 in
theorem s_X12_paused_0 {M : Mx} {Qk : Int32 → Sg → Prop} (C : Cx M cX12_paused (some .int) RX12 wsX12_paused (rmz 8) 0 0 (QI (mV M) Qk)) (hN : mN M = 7) {a1 : Int32} {a2 : Int32} {σ : Sg} (h : K_X12_in (mL M) (mV M) a2 (0 : Int32) (1 : Int32) σ (fun r2 σ1 => ((¬ r2 = 0 → K_X12_in (mL M) (mV M) a1 (1 : Int32) (30 : Int32) σ1 (fun r5 σ4 => ((¬ r5 = 0 → PS M 34 [(0, .ref 74), (1, .int a1), (2, .int a2), (3, .int (0 : Int32)), (4, .int (-1 : Int32)), (5, .int (0 : Int32))] [] σ4 (0, 0)) ∧ (r5 = 0 → Qk (-2 : Int32) σ4)))) ∧ (r2 = 0 → Qk (-1 : Int32) σ1)))) : PS M 0 [(0, .ref 74), (1, .int a1), (2, .int a2)] [] σ (0, 0) := by
  refine P_aload_n C dX12_paused_0 0 rfl ?_
  refine P_iload_n C dX12_paused_1 2 rfl ?_
  refine P_iconst C dX12_paused_2 (v := (0 : Int32)) rfl ?_
  refine P_iconst C dX12_paused_3 (v := (1 : Int32)) rfl ?_
  refine P_ci (R_v (ci := 12) C kv_X12_paused_X12_in (As := [.int a2, .int (0 : Int32), .int (1 : Int32)]) rfl kd_74 rfl (fxl fx_74) (Nat.le_of_ble_eq_true rfl) dX12_paused_4 ⟨Nat.le_refl _, Nat.le_refl _⟩ h) (fun r2 σ1 h => ?_)
  refine P_if_ne C dX12_paused_7 (tgt := 12) (by decide +kernel) (fun q3 => ?_) (fun q3 => ?_)
  · have h := h.1 q3
    refine P_aload_n C dX12_paused_12 0 rfl ?_
    refine P_iload_n C dX12_paused_13 1 rfl ?_
    refine P_iconst C dX12_paused_14 (v := (1 : Int32)) rfl ?_
    refine P_bipush C dX12_paused_15 (v := (30 : Int32)) rfl ?_
    refine P_ci (R_v (ci := 12) C kv_X12_paused_X12_in (As := [.int a1, .int (1 : Int32), .int (30 : Int32)]) rfl kd_74 rfl (fxl fx_74) (Nat.le_of_ble_eq_true rfl) dX12_paused_17 ⟨Nat.le_refl _, Nat.le_refl _⟩ h) (fun r5 σ4 h => ?_)
    refine P_if_ne C dX12_paused_20 (tgt := 26) (by decide +kernel) (fun q6 => ?_) (fun q6 => ?_)
    · have h := h.1 q6
      refine P_iconst C dX12_paused_26 (v := (0 : Int32)) rfl ?_
      refine P_istore_n C dX12_paused_27 (by rw [hN]; decide) rfl ?_
      refine P_iconst C dX12_paused_28 (v := (-1 : Int32)) rfl ?_
      refine P_istore C dX12_paused_29 (by rw [hN]; decide) rfl ?_
      refine P_iconst C dX12_paused_31 (v := (0 : Int32)) rfl ?_
      refine P_istore C dX12_paused_32 (by rw [hN]; decide) rfl ?_
      exact P_sub [3, 4, 5, 2, 1, 0] rfl h
    · have h := h.2 q6
      refine P_bipush C dX12_paused_23 (v := (-2 : Int32)) rfl ?_
      exact P_iret C dX12_paused_25 h
  · have h := h.2 q3
    refine P_iconst C dX12_paused_10 (v := (-1 : Int32)) rfl ?_
    exact P_iret C dX12_paused_11 h
set_option maxRecDepth 100000 in
set_option maxHeartbeats 4000000 in
theorem s_X12_paused_34 {M : Mx} {Qk : Int32 → Sg → Prop} (C : Cx M cX12_paused (some .int) RX12 wsX12_paused (rmz 8) 0 0 (QI (mV M) Qk)) (hN : mN M = 7) {x1 : Int32} {x2 : Int32} {x3 : Int32} {x4 : Int32} {x5 : Int32} {σ : Sg} (h : ((x1 < x5 → ((¬ x2 = 0 → Qk x4 σ) ∧ (x2 = 0 → Qk x3 σ))) ∧ (¬ x1 < x5 → K_X12_save (mL M) (mV M) σ (fun σ3 => K_X12_goMinutes (mL M) (mV M) x5 σ3 (fun σ4 => K_X12_goPause (mL M) (mV M) (5 : Int32) σ4 (fun σ5 => K_X12_goMinutes (mL M) (mV M) (x1 - x5) σ5 (fun σ6 => K_X12_all (mL M) (mV M) σ6 (fun r8 σ7 => K_X12_putBack (mL M) (mV M) σ7 (fun σ9 => ((x4 < r8 → (∀ v11 : Int32, v11 = x5 + 1 → PS M 34 [(0, .ref 74), (1, .int x1), (2, .int x2), (3, .int x5), (4, .int r8), (5, .int v11)] [] σ9 (0, 0))) ∧ (¬ x4 < r8 → (∀ v12 : Int32, v12 = x5 + 1 → PS M 34 [(0, .ref 74), (1, .int x1), (2, .int x2), (3, .int x3), (4, .int x4), (5, .int v12)] [] σ9 (0, 0))))))))))))) : PS M 34 [(0, .ref 74), (1, .int x1), (2, .int x2), (3, .int x3), (4, .int x4), (5, .int x5)] [] σ (0, 0) := by
  refine P_iload C dX12_paused_34 5 rfl ?_
  refine P_iload_n C dX12_paused_36 1 rfl ?_
  refine P_icmp_gt C dX12_paused_37 (tgt := 96) (by decide +kernel) (fun q1 => ?_) (fun q1 => ?_)
  · have h := h.1 q1
    refine P_iload_n C dX12_paused_96 2 rfl ?_
    refine P_if_ne C dX12_paused_97 (tgt := 104) (by decide +kernel) (fun q2 => ?_) (fun q2 => ?_)
    · have h := h.1 q2
      refine P_iload C dX12_paused_104 4 rfl ?_
      exact P_iret C dX12_paused_106 h
    · have h := h.2 q2
      refine P_iload_n C dX12_paused_100 3 rfl ?_
      refine P_goto C dX12_paused_101 (tgt := 106) (by decide +kernel) ?_
      exact P_iret C dX12_paused_106 h
  · have h := h.2 q1
    refine P_aload_n C dX12_paused_40 0 rfl ?_
    refine P_cv (R_v (ci := 12) C kv_X12_paused_X12_save (As := []) rfl kd_74 rfl (fxl fx_74) (Nat.le_of_ble_eq_true rfl) dX12_paused_41 ⟨Nat.le_refl _, Nat.le_refl _⟩ h) (fun σ3 h => ?_)
    refine P_aload_n C dX12_paused_44 0 rfl ?_
    refine P_iload C dX12_paused_45 5 rfl ?_
    refine P_cv (R_v (ci := 12) C kv_X12_paused_X12_goMinutes (As := [.int x5]) rfl kd_74 rfl (fxl fx_74) (Nat.le_of_ble_eq_true rfl) dX12_paused_47 ⟨Nat.le_refl _, Nat.le_refl _⟩ h) (fun σ4 h => ?_)
    refine P_aload_n C dX12_paused_50 0 rfl ?_
    refine P_iconst C dX12_paused_51 (v := (5 : Int32)) rfl ?_
    refine P_cv (R_v (ci := 12) C kv_X12_paused_X12_goPause (As := [.int (5 : Int32)]) rfl kd_74 rfl (fxl fx_74) (Nat.le_of_ble_eq_true rfl) dX12_paused_52 ⟨Nat.le_refl _, Nat.le_refl _⟩ h) (fun σ5 h => ?_)
    refine P_aload_n C dX12_paused_55 0 rfl ?_
    refine P_iload_n C dX12_paused_56 1 rfl ?_
    refine P_iload C dX12_paused_57 5 rfl ?_
    refine P_isub C dX12_paused_59 ?_
    refine P_cv (R_v (ci := 12) C kv_X12_paused_X12_goMinutes (As := [.int (x1 - x5)]) rfl kd_74 rfl (fxl fx_74) (Nat.le_of_ble_eq_true rfl) dX12_paused_60 ⟨Nat.le_refl _, Nat.le_refl _⟩ h) (fun σ6 h => ?_)
    refine P_aload_n C dX12_paused_63 0 rfl ?_
    refine P_ci (R_v (ci := 12) C kv_X12_paused_X12_all (As := []) rfl kd_74 rfl (fxl fx_74) (Nat.le_of_ble_eq_true rfl) dX12_paused_64 ⟨Nat.le_refl _, Nat.le_refl _⟩ h) (fun r8 σ7 h => ?_)
    refine P_istore C dX12_paused_67 (by rw [hN]; decide) rfl ?_
    refine P_aload_n C dX12_paused_69 1 rfl ?_
    refine P_cv (R_v (ci := 12) C kv_X12_paused_X12_putBack (As := []) rfl kd_74 rfl (fxl fx_74) (Nat.le_of_ble_eq_true rfl) dX12_paused_70 ⟨Nat.le_refl _, Nat.le_refl _⟩ h) (fun σ9 h => ?_)
    refine P_iload C dX12_paused_73 0 rfl ?_
    refine P_iload C dX12_paused_75 5 rfl ?_
    refine P_icmp_gt C dX12_paused_77 (tgt := 83) (by decide +kernel) (fun q10 => ?_) (fun q10 => ?_)
    · have h := h.1 q10
      refine P_iload C dX12_paused_83 6 rfl ?_
      refine P_istore_n C dX12_paused_85 (by rw [hN]; decide) rfl ?_
      refine P_iload C dX12_paused_86 1 rfl ?_
      refine P_istore C dX12_paused_88 (by rw [hN]; decide) rfl ?_
      obtain ⟨v11, ev11⟩ : ∃ v : Int32, v = x5 + 1 := ⟨_, rfl⟩
      have h := h v11 ev11
      refine P_iinc (v := v11) C dX12_paused_90 6 rfl (by rw [ev11]; rfl) (by rw [hN]; decide) rfl ?_
      refine P_goto C dX12_paused_93 (tgt := 34) (by decide +kernel) ?_
      exact P_sub [4, 5, 6, 2, 1, 0] rfl h
    · have h := h.2 q10
      refine P_goto C dX12_paused_80 (tgt := 90) (by decide +kernel) ?_
      obtain ⟨v12, ev12⟩ : ∃ v : Int32, v = x5 + 1 := ⟨_, rfl⟩
      have h := h v12 ev12
      refine P_iinc (v := v12) C dX12_paused_90 6 rfl (by rw [ev12]; rfl) (by rw [hN]; decide) rfl ?_
      refine P_goto C dX12_paused_93 (tgt := 34) (by decide +kernel) ?_
      exact P_sub [2, 3, 4, 5, 6, 0] rfl h
theorem kv_X12_isSeen_X12_save : KV RX12 wsX12_isSeen (rmz 8) 353 RX12 yX12_save wsX12_save (rmz 0) 0 := ⟨_, _, _, _, gX12_isSeen_X12_save, rfl, by decide +kernel, by decide +kernel⟩
theorem fa_X12_isSeen_35 : FA RX12 wsX12_isSeen 35 12 8 "NineMowersModel" := by
  show _ ∧ _ ∧ _ ∧ _
  exact ⟨by decide +kernel, fun _ h => List.mem_cons_of_mem _ (List.mem_append_right _ h), List.mem_of_getElem? (i := 1) rfl, Or.inl rfl⟩
theorem fa_X12_isSeen_141 : FA RX12 wsX12_isSeen 141 12 43 "NineMowersModel" := by
  show _ ∧ _ ∧ _ ∧ _
  exact ⟨by decide +kernel, fun _ h => List.mem_cons_of_mem _ (List.mem_append_right _ h), List.mem_of_getElem? (i := 2) rfl, Or.inl rfl⟩
theorem kv_X12_isSeen_X12_goMinutes : KV RX12 wsX12_isSeen (rmz 8) 356 RX12 yX12_goMinutes wsX12_goMinutes (rmz 7) 1 := ⟨_, _, _, _, gX12_isSeen_X12_goMinutes, rfl, by decide +kernel, by decide +kernel⟩
theorem fa_X12_isSeen_26 : FA RX12 wsX12_isSeen 26 12 5 "NineMowersModel" := by
  show _ ∧ _ ∧ _ ∧ _
  exact ⟨by decide +kernel, fun _ h => List.mem_cons_of_mem _ (List.mem_append_right _ h), List.mem_of_getElem? (i := 3) rfl, Or.inl rfl⟩
theorem fa_X12_isSeen_138 : FA RX12 wsX12_isSeen 138 12 42 "NineMowersModel" := by
  show _ ∧ _ ∧ _ ∧ _
  exact ⟨by decide +kernel, fun _ h => List.mem_cons_of_mem _ (List.mem_append_right _ h), List.mem_of_getElem? (i := 4) rfl, Or.inl rfl⟩
theorem fa_X12_isSeen_144 : FA RX12 wsX12_isSeen 144 12 44 "NineMowersModel" := by
  show _ ∧ _ ∧ _ ∧ _
  exact ⟨by decide +kernel, fun _ h => List.mem_cons_of_mem _ (List.mem_append_right _ h), List.mem_of_getElem? (i := 5) rfl, Or.inl rfl⟩
theorem kv_X12_isSeen_X12_putBack : KV RX12 wsX12_isSeen (rmz 8) 362 RX12 yX12_putBack wsX12_putBack (rmz 0) 0 := ⟨_, _, _, _, gX12_isSeen_X12_putBack, rfl, by decide +kernel, by decide +kernel⟩
noncomputable def K_X12_isSeen (l : Launch) (V : Vx) (a1 : Int32) (a2 : Int32) (σ : Sg) (Qk : Int32 → Sg → Prop) : Prop := Ka l V yX12_isSeen wsX12_isSeen (rmz 8) 0 0 [.ref 74, .int a1, .int a2] σ (QI V Qk)
theorem e_X12_isSeen {l : Launch} {V : Vx} {a1 : Int32} {a2 : Int32} {σ : Sg} {Qk : Int32 → Sg → Prop} (h : ∀ M : Mx, mL M = l → mV M = V → mN M = 4 → Cx M cX12_isSeen (some .boolean) RX12 wsX12_isSeen (rmz 8) 0 0 (QI (mV M) Qk) → PS M 0 [(0, .ref 74), (1, .int a1), (2, .int a2)] [] σ (0, 0)) : K_X12_isSeen l V a1 a2 σ Qk :=
  Ka_of (by decide +kernel) rfl rfl (Nat.le_of_ble_eq_true rfl) (fun M h1 h2 h3 C => h M h1 h2 h3 (by rw [h2]; exact C))
set_option maxRecDepth 100000 in
set_option maxHeartbeats 4000000 in
theorem s_X12_isSeen_0 {M : Mx} {Qk : Int32 → Sg → Prop} (C : Cx M cX12_isSeen (some .boolean) RX12 wsX12_isSeen (rmz 8) 0 0 (QI (mV M) Qk)) (hN : mN M = 4) {a1 : Int32} {a2 : Int32} {σ : Sg} (h : K_X12_save (mL M) (mV M) σ (fun σ1 => (vp_in a1 6 ∧ (vp_in a1 6 ∧ (∀ σ4 : Sg, σ4 = si σ1 108 a1.toNatClampNeg ((gi σ1 108 a1.toNatClampNeg) + (3 : Int32)) → (vp_in a2 6 ∧ K_X12_goMinutes (mL M) (mV M) (gi σ4 143 a2.toNatClampNeg) σ4 (fun σ6 => (vp_in a2 6 ∧ (vp_in (gi σ6 142 a2.toNatClampNeg) 6 ∧ (vp_in a2 6 ∧ ((¬ (gi σ6 105 (gi σ6 142 a2.toNatClampNeg).toNatClampNeg) = (gi σ6 144 a2.toNatClampNeg) → K_X12_putBack (mL M) (mV M) σ6 (fun σ11 => Qk (0 : Int32) σ11)) ∧ ((gi σ6 105 (gi σ6 142 a2.toNatClampNeg).toNatClampNeg) = (gi σ6 144 a2.toNatClampNeg) → K_X12_putBack (mL M) (mV M) σ6 (fun σ12 => Qk (1 : Int32) σ12))))))))))))) : PS M 0 [(0, .ref 74), (1, .int a1), (2, .int a2)] [] σ (0, 0) := by
  refine P_aload_n C dX12_isSeen_0 0 rfl ?_
  refine P_cv (R_v (ci := 12) C kv_X12_isSeen_X12_save (As := []) rfl kd_74 rfl (fxl fx_74) (Nat.le_of_ble_eq_true rfl) dX12_isSeen_1 ⟨Nat.le_refl _, Nat.le_refl _⟩ h) (fun σ1 h => ?_)
  refine P_aload_n C dX12_isSeen_4 0 rfl ?_
  refine P_getS C (e := 108) fa_X12_isSeen_35 kd_74 (d := 34) rfl (fxl fx_74) rfl dX12_isSeen_5 ?_
  refine P_iload_n C dX12_isSeen_8 1 rfl ?_
  refine P_dup2 C dX12_isSeen_9 rfl rfl ?_
  obtain ⟨hv2, h⟩ := h
  refine P_iald C kd_108 (fxl fx_108) hv2 dX12_isSeen_10 ?_
  refine P_iconst C dX12_isSeen_11 (v := (3 : Int32)) rfl ?_
  refine P_iadd C dX12_isSeen_12 ?_
  obtain ⟨hv3, h⟩ := h
  refine P_iast C kd_108 (fxl fx_108) hv3 dX12_isSeen_13 ?_
  refine P_nm (fun σ4 eσ4 => ?_)
  have h := h σ4 eσ4
  refine P_aload_n C dX12_isSeen_14 0 rfl ?_
  refine P_aload_n C dX12_isSeen_15 0 rfl ?_
  refine P_getS C (e := 143) fa_X12_isSeen_141 kd_74 (d := 69) rfl (fxl fx_74) rfl dX12_isSeen_16 ?_
  refine P_iload_n C dX12_isSeen_19 2 rfl ?_
  obtain ⟨hv5, h⟩ := h
  refine P_iald C kd_143 (fxl fx_143) hv5 dX12_isSeen_20 ?_
  refine P_cv (R_v (ci := 12) C kv_X12_isSeen_X12_goMinutes (As := [.int (gi σ4 143 a2.toNatClampNeg)]) rfl kd_74 rfl (fxl fx_74) (Nat.le_of_ble_eq_true rfl) dX12_isSeen_21 ⟨Nat.le_refl _, Nat.le_refl _⟩ h) (fun σ6 h => ?_)
  refine P_aload_n C dX12_isSeen_24 0 rfl ?_
  refine P_getS C (e := 105) fa_X12_isSeen_26 kd_74 (d := 31) rfl (fxl fx_74) rfl dX12_isSeen_25 ?_
  refine P_aload_n C dX12_isSeen_28 0 rfl ?_
  refine P_getS C (e := 142) fa_X12_isSeen_138 kd_74 (d := 68) rfl (fxl fx_74) rfl dX12_isSeen_29 ?_
  refine P_iload_n C dX12_isSeen_32 2 rfl ?_
  obtain ⟨hv7, h⟩ := h
  refine P_iald C kd_142 (fxl fx_142) hv7 dX12_isSeen_33 ?_
  obtain ⟨hv8, h⟩ := h
  refine P_iald C kd_105 (fxl fx_105) hv8 dX12_isSeen_34 ?_
  refine P_aload_n C dX12_isSeen_35 0 rfl ?_
  refine P_getS C (e := 144) fa_X12_isSeen_144 kd_74 (d := 70) rfl (fxl fx_74) rfl dX12_isSeen_36 ?_
  refine P_iload_n C dX12_isSeen_39 2 rfl ?_
  obtain ⟨hv9, h⟩ := h
  refine P_iald C kd_144 (fxl fx_144) hv9 dX12_isSeen_40 ?_
  refine P_icmp_ne C dX12_isSeen_41 (tgt := 48) (by decide +kernel) (fun q10 => ?_) (fun q10 => ?_)
  · have h := h.1 q10
    refine P_iconst C dX12_isSeen_48 (v := (0 : Int32)) rfl ?_
    refine P_istore_n C dX12_isSeen_49 (by rw [hN]; decide) rfl ?_
    refine P_aload_n C dX12_isSeen_50 1 rfl ?_
    refine P_cv (R_v (ci := 12) C kv_X12_isSeen_X12_putBack (As := []) rfl kd_74 rfl (fxl fx_74) (Nat.le_of_ble_eq_true rfl) dX12_isSeen_51 ⟨Nat.le_refl _, Nat.le_refl _⟩ h) (fun σ11 h => ?_)
    refine P_iload_n C dX12_isSeen_54 0 rfl ?_
    exact P_zret C (by decide +kernel) dX12_isSeen_55 h
  · have h := h.2 q10
    refine P_iconst C dX12_isSeen_44 (v := (1 : Int32)) rfl ?_
    refine P_goto C dX12_isSeen_45 (tgt := 49) (by decide +kernel) ?_
    refine P_istore_n C dX12_isSeen_49 (by rw [hN]; decide) rfl ?_
    refine P_aload_n C dX12_isSeen_50 1 rfl ?_
    refine P_cv (R_v (ci := 12) C kv_X12_isSeen_X12_putBack (As := []) rfl kd_74 rfl (fxl fx_74) (Nat.le_of_ble_eq_true rfl) dX12_isSeen_51 ⟨Nat.le_refl _, Nat.le_refl _⟩ h) (fun σ12 h => ?_)
    refine P_iload_n C dX12_isSeen_54 0 rfl ?_
    exact P_zret C (by decide +kernel) dX12_isSeen_55 h
theorem kv_X12_odds_X12_isMower : KV RX12 wsX12_odds (rmz 8) 243 RX12 yX12_isMower wsX12_isMower (rmz 1) 1 := ⟨_, _, _, _, gX12_odds_X12_isMower, rfl, by decide +kernel, by decide +kernel⟩
theorem kv_X12_odds_X12_in : KV RX12 wsX12_odds (rmz 8) 239 RX12 yX12_in wsX12_in (rmz 0) 3 := ⟨_, _, _, _, gX12_odds_X12_in, rfl, by decide +kernel, by decide +kernel⟩
theorem fa_X12_odds_7 : FA RX12 wsX12_odds 7 12 0 "NineMowersModel" := by
  show _ ∧ _ ∧ _ ∧ _
  exact ⟨by decide +kernel, fun _ h => List.mem_cons_of_mem _ (List.mem_append_right _ h), List.mem_of_getElem? (i := 2) rfl, Or.inl rfl⟩
theorem kv_X12_odds_X12_lowest : KV RX12 wsX12_odds (rmz 8) 399 RX12 yX12_lowest wsX12_lowest (rmz 1) 3 := ⟨_, _, _, _, gX12_odds_X12_lowest, rfl, by decide +kernel, by decide +kernel⟩
theorem kv_X12_odds_X12_save : KV RX12 wsX12_odds (rmz 8) 353 RX12 yX12_save wsX12_save (rmz 0) 0 := ⟨_, _, _, _, gX12_odds_X12_save, rfl, by decide +kernel, by decide +kernel⟩
theorem fa_X12_odds_35 : FA RX12 wsX12_odds 35 12 8 "NineMowersModel" := by
  show _ ∧ _ ∧ _ ∧ _
  exact ⟨by decide +kernel, fun _ h => List.mem_cons_of_mem _ (List.mem_append_right _ h), List.mem_of_getElem? (i := 3) rfl, Or.inl rfl⟩
theorem kv_X12_odds_X12_goMinutes : KV RX12 wsX12_odds (rmz 8) 356 RX12 yX12_goMinutes wsX12_goMinutes (rmz 7) 1 := ⟨_, _, _, _, gX12_odds_X12_goMinutes, rfl, by decide +kernel, by decide +kernel⟩
theorem fa_X12_odds_108 : FA RX12 wsX12_odds 108 12 32 "NineMowersModel" := by
  show _ ∧ _ ∧ _ ∧ _
  exact ⟨by decide +kernel, fun _ h => List.mem_cons_of_mem _ (List.mem_append_right _ h), List.mem_of_getElem? (i := 4) rfl, Or.inl rfl⟩
theorem kv_X12_odds_X12_putBack : KV RX12 wsX12_odds (rmz 8) 362 RX12 yX12_putBack wsX12_putBack (rmz 0) 0 := ⟨_, _, _, _, gX12_odds_X12_putBack, rfl, by decide +kernel, by decide +kernel⟩
noncomputable def K_X12_odds (l : Launch) (V : Vx) (a1 : Int32) (a2 : Int32) (a3 : Int32) (σ : Sg) (Qk : Int64 → Sg → Prop) : Prop := Ka l V yX12_odds wsX12_odds (rmz 8) 0 0 [.ref 74, .int a1, .int a2, .int a3] σ (QL V Qk)
theorem e_X12_odds {l : Launch} {V : Vx} {a1 : Int32} {a2 : Int32} {a3 : Int32} {σ : Sg} {Qk : Int64 → Sg → Prop} (h : ∀ M : Mx, mL M = l → mV M = V → mN M = 6 → Cx M cX12_odds (some .long) RX12 wsX12_odds (rmz 8) 0 0 (QL (mV M) Qk) → PS M 0 [(0, .ref 74), (1, .int a1), (2, .int a2), (3, .int a3)] [] σ (0, 0)) : K_X12_odds l V a1 a2 a3 σ Qk :=
  Ka_of (by decide +kernel) rfl rfl (Nat.le_of_ble_eq_true rfl) (fun M h1 h2 h3 C => h M h1 h2 h3 (by rw [h2]; exact C))
set_option maxRecDepth 100000 in
set_option maxHeartbeats 4000000 in
theorem s_X12_odds_0 {M : Mx} {Qk : Int64 → Sg → Prop} (C : Cx M cX12_odds (some .long) RX12 wsX12_odds (rmz 8) 0 0 (QL (mV M) Qk)) (hN : mN M = 6) {a1 : Int32} {a2 : Int32} {a3 : Int32} {σ : Sg} (h : K_X12_isMower (mL M) (mV M) a1 σ (fun r2 σ1 => ((r2 = 0 → Qk (-9223372036854775808 : Int64) σ1) ∧ (¬ r2 = 0 → K_X12_in (mL M) (mV M) a2 (1 : Int32) (60 : Int32) σ1 (fun r5 σ4 => ((r5 = 0 → Qk (-9223372036854775808 : Int64) σ4) ∧ (¬ r5 = 0 → K_X12_in (mL M) (mV M) a3 (0 : Int32) (1 : Int32) σ4 (fun r8 σ7 => ((¬ r8 = 0 → PS M 39 [(0, .ref 74), (1, .int a1), (2, .int a2), (3, .int a3), (4, .int (0 : Int32)), (5, .int (0 : Int32))] [] σ7 (0, 0)) ∧ (r8 = 0 → Qk (-9223372036854775808 : Int64) σ7)))))))))) : PS M 0 [(0, .ref 74), (1, .int a1), (2, .int a2), (3, .int a3)] [] σ (0, 0) := by
  refine P_aload_n C dX12_odds_0 0 rfl ?_
  refine P_iload_n C dX12_odds_1 1 rfl ?_
  refine P_ci (R_v (ci := 12) C kv_X12_odds_X12_isMower (As := [.int a1]) rfl kd_74 rfl (fxl fx_74) (Nat.le_of_ble_eq_true rfl) dX12_odds_2 ⟨Nat.le_refl _, Nat.le_refl _⟩ h) (fun r2 σ1 h => ?_)
  refine P_if_eq C dX12_odds_5 (tgt := 29) (by decide +kernel) (fun q3 => ?_) (fun q3 => ?_)
  · have h := h.1 q3
    refine P_ldc2 C (v := (-9223372036854775808 : Int64)) (List.mem_of_getElem? (i := 1) rfl) dX12_odds_29 ?_
    exact P_lret C dX12_odds_32 h
  · have h := h.2 q3
    refine P_aload_n C dX12_odds_8 0 rfl ?_
    refine P_iload_n C dX12_odds_9 2 rfl ?_
    refine P_iconst C dX12_odds_10 (v := (1 : Int32)) rfl ?_
    refine P_bipush C dX12_odds_11 (v := (60 : Int32)) rfl ?_
    refine P_ci (R_v (ci := 12) C kv_X12_odds_X12_in (As := [.int a2, .int (1 : Int32), .int (60 : Int32)]) rfl kd_74 rfl (fxl fx_74) (Nat.le_of_ble_eq_true rfl) dX12_odds_13 ⟨Nat.le_refl _, Nat.le_refl _⟩ h) (fun r5 σ4 h => ?_)
    refine P_if_eq C dX12_odds_16 (tgt := 29) (by decide +kernel) (fun q6 => ?_) (fun q6 => ?_)
    · have h := h.1 q6
      refine P_ldc2 C (v := (-9223372036854775808 : Int64)) (List.mem_of_getElem? (i := 1) rfl) dX12_odds_29 ?_
      exact P_lret C dX12_odds_32 h
    · have h := h.2 q6
      refine P_aload_n C dX12_odds_19 0 rfl ?_
      refine P_iload_n C dX12_odds_20 3 rfl ?_
      refine P_iconst C dX12_odds_21 (v := (0 : Int32)) rfl ?_
      refine P_iconst C dX12_odds_22 (v := (1 : Int32)) rfl ?_
      refine P_ci (R_v (ci := 12) C kv_X12_odds_X12_in (As := [.int a3, .int (0 : Int32), .int (1 : Int32)]) rfl kd_74 rfl (fxl fx_74) (Nat.le_of_ble_eq_true rfl) dX12_odds_23 ⟨Nat.le_refl _, Nat.le_refl _⟩ h) (fun r8 σ7 h => ?_)
      refine P_if_ne C dX12_odds_26 (tgt := 33) (by decide +kernel) (fun q9 => ?_) (fun q9 => ?_)
      · have h := h.1 q9
        refine P_iconst C dX12_odds_33 (v := (0 : Int32)) rfl ?_
        refine P_istore C dX12_odds_34 (by rw [hN]; decide) rfl ?_
        refine P_iconst C dX12_odds_36 (v := (0 : Int32)) rfl ?_
        refine P_istore C dX12_odds_37 (by rw [hN]; decide) rfl ?_
        exact P_sub [2, 3, 4, 5, 1, 0] rfl h
      · have h := h.2 q9
        refine P_ldc2 C (v := (-9223372036854775808 : Int64)) (List.mem_of_getElem? (i := 1) rfl) dX12_odds_29 ?_
        exact P_lret C dX12_odds_32 h
set_option maxRecDepth 100000 in
set_option maxHeartbeats 4000000 in
theorem s_X12_odds_39 {M : Mx} {Qk : Int64 → Sg → Prop} (C : Cx M cX12_odds (some .long) RX12 wsX12_odds (rmz 8) 0 0 (QL (mV M) Qk)) (hN : mN M = 6) {x1 : Int32} {x2 : Int32} {x3 : Int32} {x4 : Int32} {x5 : Int32} {σ : Sg} (h : (((gi σ 74 0) ≤ x5 → K_X12_lowest (mL M) (mV M) x4 (gi σ 74 0) x3 σ (fun r3 σ2 => Qk r3 σ2)) ∧ (¬ (gi σ 74 0) ≤ x5 → K_X12_save (mL M) (mV M) σ (fun σ4 => (vp_in x5 6 ∧ (vp_in x5 6 ∧ (∀ σ7 : Sg, σ7 = si σ4 108 x5.toNatClampNeg ((gi σ4 108 x5.toNatClampNeg) + (5 : Int32)) → K_X12_goMinutes (mL M) (mV M) x2 σ7 (fun σ8 => (vp_in x1 6 ∧ (((gi σ8 132 x1.toNatClampNeg) ≤ 0 → (∀ v11 : Int32, v11 = x4 + (0 : Int32) → K_X12_putBack (mL M) (mV M) σ8 (fun σ12 => (∀ v13 : Int32, v13 = x5 + 1 → PS M 39 [(0, .ref 74), (1, .int x1), (2, .int x2), (3, .int x3), (4, .int v11), (5, .int v13)] [] σ12 (0, 0))))) ∧ (¬ (gi σ8 132 x1.toNatClampNeg) ≤ 0 → (∀ v14 : Int32, v14 = x4 + (1 : Int32) → K_X12_putBack (mL M) (mV M) σ8 (fun σ15 => (∀ v16 : Int32, v16 = x5 + 1 → PS M 39 [(0, .ref 74), (1, .int x1), (2, .int x2), (3, .int x3), (4, .int v14), (5, .int v16)] [] σ15 (0, 0))))))))))))))) : PS M 39 [(0, .ref 74), (1, .int x1), (2, .int x2), (3, .int x3), (4, .int x4), (5, .int x5)] [] σ (0, 0) := by
  refine P_iload C dX12_odds_39 5 rfl ?_
  refine P_aload_n C dX12_odds_41 0 rfl ?_
  refine P_getI C fa_X12_odds_7 kd_74 rfl (fxl fx_74) dX12_odds_42 ?_
  refine P_icmp_ge C dX12_odds_45 (tgt := 97) (by decide +kernel) (fun q1 => ?_) (fun q1 => ?_)
  · have h := h.1 q1
    refine P_aload_n C dX12_odds_97 0 rfl ?_
    refine P_iload C dX12_odds_98 4 rfl ?_
    refine P_aload_n C dX12_odds_100 0 rfl ?_
    refine P_getI C fa_X12_odds_7 kd_74 rfl (fxl fx_74) dX12_odds_101 ?_
    refine P_iload_n C dX12_odds_104 3 rfl ?_
    refine P_cl (R_v (ci := 12) C kv_X12_odds_X12_lowest (As := [.int x4, .int (gi σ 74 0), .int x3]) rfl kd_74 rfl (fxl fx_74) (Nat.le_of_ble_eq_true rfl) dX12_odds_105 ⟨Nat.le_refl _, Nat.le_refl _⟩ h) (fun r3 σ2 h => ?_)
    exact P_lret C dX12_odds_108 h
  · have h := h.2 q1
    refine P_aload_n C dX12_odds_48 0 rfl ?_
    refine P_cv (R_v (ci := 12) C kv_X12_odds_X12_save (As := []) rfl kd_74 rfl (fxl fx_74) (Nat.le_of_ble_eq_true rfl) dX12_odds_49 ⟨Nat.le_refl _, Nat.le_refl _⟩ h) (fun σ4 h => ?_)
    refine P_aload_n C dX12_odds_52 0 rfl ?_
    refine P_getS C (e := 108) fa_X12_odds_35 kd_74 (d := 34) rfl (fxl fx_74) rfl dX12_odds_53 ?_
    refine P_iload C dX12_odds_56 5 rfl ?_
    refine P_dup2 C dX12_odds_58 rfl rfl ?_
    obtain ⟨hv5, h⟩ := h
    refine P_iald C kd_108 (fxl fx_108) hv5 dX12_odds_59 ?_
    refine P_iconst C dX12_odds_60 (v := (5 : Int32)) rfl ?_
    refine P_iadd C dX12_odds_61 ?_
    obtain ⟨hv6, h⟩ := h
    refine P_iast C kd_108 (fxl fx_108) hv6 dX12_odds_62 ?_
    refine P_nm (fun σ7 eσ7 => ?_)
    have h := h σ7 eσ7
    refine P_aload_n C dX12_odds_63 0 rfl ?_
    refine P_iload_n C dX12_odds_64 2 rfl ?_
    refine P_cv (R_v (ci := 12) C kv_X12_odds_X12_goMinutes (As := [.int x2]) rfl kd_74 rfl (fxl fx_74) (Nat.le_of_ble_eq_true rfl) dX12_odds_65 ⟨Nat.le_refl _, Nat.le_refl _⟩ h) (fun σ8 h => ?_)
    refine P_iload C dX12_odds_68 4 rfl ?_
    refine P_aload_n C dX12_odds_70 0 rfl ?_
    refine P_getS C (e := 132) fa_X12_odds_108 kd_74 (d := 58) rfl (fxl fx_74) rfl dX12_odds_71 ?_
    refine P_iload_n C dX12_odds_74 1 rfl ?_
    obtain ⟨hv9, h⟩ := h
    refine P_iald C kd_132 (fxl fx_132) hv9 dX12_odds_75 ?_
    refine P_if_le C dX12_odds_76 (tgt := 83) (by decide +kernel) (fun q10 => ?_) (fun q10 => ?_)
    · have h := h.1 q10
      refine P_iconst C dX12_odds_83 (v := (0 : Int32)) rfl ?_
      refine P_iadd C dX12_odds_84 ?_
      refine P_nmi (fun v11 ev11 => ?_)
      have h := h v11 ev11
      refine P_istore C dX12_odds_85 (by rw [hN]; decide) rfl ?_
      refine P_aload_n C dX12_odds_87 1 rfl ?_
      refine P_cv (R_v (ci := 12) C kv_X12_odds_X12_putBack (As := []) rfl kd_74 rfl (fxl fx_74) (Nat.le_of_ble_eq_true rfl) dX12_odds_88 ⟨Nat.le_refl _, Nat.le_refl _⟩ h) (fun σ12 h => ?_)
      obtain ⟨v13, ev13⟩ : ∃ v : Int32, v = x5 + 1 := ⟨_, rfl⟩
      have h := h v13 ev13
      refine P_iinc (v := v13) C dX12_odds_91 5 rfl (by rw [ev13]; rfl) (by rw [hN]; decide) rfl ?_
      refine P_goto C dX12_odds_94 (tgt := 39) (by decide +kernel) ?_
      exact P_sub [2, 3, 4, 5, 1, 0] rfl h
    · have h := h.2 q10
      refine P_iconst C dX12_odds_79 (v := (1 : Int32)) rfl ?_
      refine P_goto C dX12_odds_80 (tgt := 84) (by decide +kernel) ?_
      refine P_iadd C dX12_odds_84 ?_
      refine P_nmi (fun v14 ev14 => ?_)
      have h := h v14 ev14
      refine P_istore C dX12_odds_85 (by rw [hN]; decide) rfl ?_
      refine P_aload_n C dX12_odds_87 1 rfl ?_
      refine P_cv (R_v (ci := 12) C kv_X12_odds_X12_putBack (As := []) rfl kd_74 rfl (fxl fx_74) (Nat.le_of_ble_eq_true rfl) dX12_odds_88 ⟨Nat.le_refl _, Nat.le_refl _⟩ h) (fun σ15 h => ?_)
      obtain ⟨v16, ev16⟩ : ∃ v : Int32, v = x5 + 1 := ⟨_, rfl⟩
      have h := h v16 ev16
      refine P_iinc (v := v16) C dX12_odds_91 5 rfl (by rw [ev16]; rfl) (by rw [hN]; decide) rfl ?_
      refine P_goto C dX12_odds_94 (tgt := 39) (by decide +kernel) ?_
      exact P_sub [2, 3, 4, 5, 1, 0] rfl h
theorem kv_X12_planned_X12_save : KV RX12 wsX12_planned (rmz 8) 353 RX12 yX12_save wsX12_save (rmz 0) 0 := ⟨_, _, _, _, gX12_planned_X12_save, rfl, by decide +kernel, by decide +kernel⟩
theorem fa_X12_planned_147 : FA RX12 wsX12_planned 147 12 45 "NineMowersModel" := by
  show _ ∧ _ ∧ _ ∧ _
  exact ⟨by decide +kernel, fun _ h => List.mem_cons_of_mem _ (List.mem_append_right _ h), List.mem_of_getElem? (i := 1) rfl, Or.inl rfl⟩
theorem kv_X12_planned_X12_all : KV RX12 wsX12_planned (rmz 8) 359 RX12 yX12_all wsX12_all (rmz 0) 0 := ⟨_, _, _, _, gX12_planned_X12_all, rfl, by decide +kernel, by decide +kernel⟩
theorem kv_X12_planned_X12_putBack : KV RX12 wsX12_planned (rmz 8) 362 RX12 yX12_putBack wsX12_putBack (rmz 0) 0 := ⟨_, _, _, _, gX12_planned_X12_putBack, rfl, by decide +kernel, by decide +kernel⟩
theorem fa_X12_planned_153 : FA RX12 wsX12_planned 153 12 47 "NineMowersModel" := by
  show _ ∧ _ ∧ _ ∧ _
  exact ⟨by decide +kernel, fun _ h => List.mem_cons_of_mem _ (List.mem_append_right _ h), List.mem_of_getElem? (i := 2) rfl, Or.inl rfl⟩
theorem kv_X12_planned_X12_goWhet : KV RX12 wsX12_planned (rmz 8) 347 RX12 yX12_goWhet wsX12_goWhet (rmz 1) 0 := ⟨_, _, _, _, gX12_planned_X12_goWhet, rfl, by decide +kernel, by decide +kernel⟩
theorem kv_X12_planned_X12_goMinutes : KV RX12 wsX12_planned (rmz 8) 356 RX12 yX12_goMinutes wsX12_goMinutes (rmz 7) 1 := ⟨_, _, _, _, gX12_planned_X12_goMinutes, rfl, by decide +kernel, by decide +kernel⟩
theorem kv_X12_planned_X12_goPause : KV RX12 wsX12_planned (rmz 8) 350 RX12 yX12_goPause wsX12_goPause (rmz 1) 1 := ⟨_, _, _, _, gX12_planned_X12_goPause, rfl, by decide +kernel, by decide +kernel⟩
noncomputable def K_X12_planned (l : Launch) (V : Vx) (σ : Sg) (Qk : Int32 → Sg → Prop) : Prop := Ka l V yX12_planned wsX12_planned (rmz 8) 0 0 [.ref 74] σ (QI V Qk)
theorem e_X12_planned {l : Launch} {V : Vx} {σ : Sg} {Qk : Int32 → Sg → Prop} (h : ∀ M : Mx, mL M = l → mV M = V → mN M = 2 → Cx M cX12_planned (some .int) RX12 wsX12_planned (rmz 8) 0 0 (QI (mV M) Qk) → PS M 0 [(0, .ref 74)] [] σ (0, 0)) : K_X12_planned l V σ Qk :=
  Ka_of (by decide +kernel) rfl rfl (Nat.le_of_ble_eq_true rfl) (fun M h1 h2 h3 C => h M h1 h2 h3 (by rw [h2]; exact C))
set_option maxRecDepth 100000 in
set_option maxHeartbeats 4000000 in
theorem s_X12_planned_0 {M : Mx} {Qk : Int32 → Sg → Prop} (C : Cx M cX12_planned (some .int) RX12 wsX12_planned (rmz 8) 0 0 (QI (mV M) Qk)) (hN : mN M = 2) {σ : Sg} (h : K_X12_save (mL M) (mV M) σ (fun σ1 => PS M 6 [(0, .ref 74), (1, .int (0 : Int32))] [] σ1 (0, 0))) : PS M 0 [(0, .ref 74)] [] σ (0, 0) := by
  refine P_aload_n C dX12_planned_0 0 rfl ?_
  refine P_cv (R_v (ci := 12) C kv_X12_planned_X12_save (As := []) rfl kd_74 rfl (fxl fx_74) (Nat.le_of_ble_eq_true rfl) dX12_planned_1 ⟨Nat.le_refl _, Nat.le_refl _⟩ h) (fun σ1 h => ?_)
  refine P_iconst C dX12_planned_4 (v := (0 : Int32)) rfl ?_
  refine P_istore_n C dX12_planned_5 (by rw [hN]; decide) rfl ?_
  exact P_sub [1, 0] rfl h
set_option maxRecDepth 100000 in
set_option maxHeartbeats 4000000 in
theorem s_X12_planned_6 {M : Mx} {Qk : Int32 → Sg → Prop} (C : Cx M cX12_planned (some .int) RX12 wsX12_planned (rmz 8) 0 0 (QI (mV M) Qk)) (hN : mN M = 2) {x1 : Int32} {σ : Sg} (h : (((gi σ 74 45) ≤ x1 → K_X12_all (mL M) (mV M) σ (fun r3 σ2 => K_X12_putBack (mL M) (mV M) σ2 (fun σ4 => Qk r3 σ4))) ∧ (¬ (gi σ 74 45) ≤ x1 → (vp_in x1 10 ∧ ((¬ (gi σ 147 x1.toNatClampNeg) = 0 → (vp_in x1 10 ∧ ((¬ (gi σ 147 x1.toNatClampNeg) = (1 : Int32) → PS M 42 [(0, .ref 74), (1, .int x1)] [] σ (0, 0)) ∧ ((gi σ 147 x1.toNatClampNeg) = (1 : Int32) → K_X12_goWhet (mL M) (mV M) σ (fun σ9 => PS M 42 [(0, .ref 74), (1, .int x1)] [] σ9 (0, 0)))))) ∧ ((gi σ 147 x1.toNatClampNeg) = 0 → K_X12_goMinutes (mL M) (mV M) (1 : Int32) σ (fun σ10 => (vp_in x1 10 ∧ ((¬ (gi σ10 147 x1.toNatClampNeg) = (1 : Int32) → PS M 42 [(0, .ref 74), (1, .int x1)] [] σ10 (0, 0)) ∧ ((gi σ10 147 x1.toNatClampNeg) = (1 : Int32) → K_X12_goWhet (mL M) (mV M) σ10 (fun σ13 => PS M 42 [(0, .ref 74), (1, .int x1)] [] σ13 (0, 0)))))))))))) : PS M 6 [(0, .ref 74), (1, .int x1)] [] σ (0, 0) := by
  refine P_iload_n C dX12_planned_6 1 rfl ?_
  refine P_aload_n C dX12_planned_7 0 rfl ?_
  refine P_getI C fa_X12_planned_147 kd_74 rfl (fxl fx_74) dX12_planned_8 ?_
  refine P_icmp_ge C dX12_planned_11 (tgt := 63) (by decide +kernel) (fun q1 => ?_) (fun q1 => ?_)
  · have h := h.1 q1
    refine P_aload_n C dX12_planned_63 0 rfl ?_
    refine P_ci (R_v (ci := 12) C kv_X12_planned_X12_all (As := []) rfl kd_74 rfl (fxl fx_74) (Nat.le_of_ble_eq_true rfl) dX12_planned_64 ⟨Nat.le_refl _, Nat.le_refl _⟩ h) (fun r3 σ2 h => ?_)
    refine P_istore_n C dX12_planned_67 (by rw [hN]; decide) rfl ?_
    refine P_aload_n C dX12_planned_68 1 rfl ?_
    refine P_cv (R_v (ci := 12) C kv_X12_planned_X12_putBack (As := []) rfl kd_74 rfl (fxl fx_74) (Nat.le_of_ble_eq_true rfl) dX12_planned_69 ⟨Nat.le_refl _, Nat.le_refl _⟩ h) (fun σ4 h => ?_)
    refine P_iload_n C dX12_planned_72 0 rfl ?_
    exact P_iret C dX12_planned_73 h
  · have h := h.2 q1
    refine P_aload_n C dX12_planned_14 0 rfl ?_
    refine P_getS C (e := 147) fa_X12_planned_153 kd_74 (d := 73) rfl (fxl fx_74) rfl dX12_planned_15 ?_
    refine P_iload_n C dX12_planned_18 1 rfl ?_
    obtain ⟨hv5, h⟩ := h
    refine P_iald C kd_147 (fxl fx_147) hv5 dX12_planned_19 ?_
    refine P_if_ne C dX12_planned_20 (tgt := 28) (by decide +kernel) (fun q6 => ?_) (fun q6 => ?_)
    · have h := h.1 q6
      refine P_aload_n C dX12_planned_28 0 rfl ?_
      refine P_getS C (e := 147) fa_X12_planned_153 kd_74 (d := 73) rfl (fxl fx_74) rfl dX12_planned_29 ?_
      refine P_iload_n C dX12_planned_32 1 rfl ?_
      obtain ⟨hv7, h⟩ := h
      refine P_iald C kd_147 (fxl fx_147) hv7 dX12_planned_33 ?_
      refine P_iconst C dX12_planned_34 (v := (1 : Int32)) rfl ?_
      refine P_icmp_ne C dX12_planned_35 (tgt := 42) (by decide +kernel) (fun q8 => ?_) (fun q8 => ?_)
      · have h := h.1 q8
        exact P_sub [0, 1] rfl h
      · have h := h.2 q8
        refine P_aload_n C dX12_planned_38 0 rfl ?_
        refine P_cv (R_v (ci := 12) C kv_X12_planned_X12_goWhet (As := []) rfl kd_74 rfl (fxl fx_74) (Nat.le_of_ble_eq_true rfl) dX12_planned_39 ⟨Nat.le_refl _, Nat.le_refl _⟩ h) (fun σ9 h => ?_)
        exact P_sub [0, 1] rfl h
    · have h := h.2 q6
      refine P_aload_n C dX12_planned_23 0 rfl ?_
      refine P_iconst C dX12_planned_24 (v := (1 : Int32)) rfl ?_
      refine P_cv (R_v (ci := 12) C kv_X12_planned_X12_goMinutes (As := [.int (1 : Int32)]) rfl kd_74 rfl (fxl fx_74) (Nat.le_of_ble_eq_true rfl) dX12_planned_25 ⟨Nat.le_refl _, Nat.le_refl _⟩ h) (fun σ10 h => ?_)
      refine P_aload_n C dX12_planned_28 0 rfl ?_
      refine P_getS C (e := 147) fa_X12_planned_153 kd_74 (d := 73) rfl (fxl fx_74) rfl dX12_planned_29 ?_
      refine P_iload_n C dX12_planned_32 1 rfl ?_
      obtain ⟨hv11, h⟩ := h
      refine P_iald C kd_147 (fxl fx_147) hv11 dX12_planned_33 ?_
      refine P_iconst C dX12_planned_34 (v := (1 : Int32)) rfl ?_
      refine P_icmp_ne C dX12_planned_35 (tgt := 42) (by decide +kernel) (fun q12 => ?_) (fun q12 => ?_)
      · have h := h.1 q12
        exact P_sub [0, 1] rfl h
      · have h := h.2 q12
        refine P_aload_n C dX12_planned_38 0 rfl ?_
        refine P_cv (R_v (ci := 12) C kv_X12_planned_X12_goWhet (As := []) rfl kd_74 rfl (fxl fx_74) (Nat.le_of_ble_eq_true rfl) dX12_planned_39 ⟨Nat.le_refl _, Nat.le_refl _⟩ h) (fun σ13 h => ?_)
        exact P_sub [0, 1] rfl h
set_option maxRecDepth 100000 in
set_option maxHeartbeats 4000000 in
theorem s_X12_planned_42 {M : Mx} {Qk : Int32 → Sg → Prop} (C : Cx M cX12_planned (some .int) RX12 wsX12_planned (rmz 8) 0 0 (QI (mV M) Qk)) (hN : mN M = 2) {x1 : Int32} {σ : Sg} (h : (vp_in x1 10 ∧ ((¬ (gi σ 147 x1.toNatClampNeg) = (2 : Int32) → (∀ v3 : Int32, v3 = x1 + 1 → PS M 6 [(0, .ref 74), (1, .int v3)] [] σ (0, 0))) ∧ ((gi σ 147 x1.toNatClampNeg) = (2 : Int32) → K_X12_goPause (mL M) (mV M) (1 : Int32) σ (fun σ4 => (∀ v5 : Int32, v5 = x1 + 1 → PS M 6 [(0, .ref 74), (1, .int v5)] [] σ4 (0, 0))))))) : PS M 42 [(0, .ref 74), (1, .int x1)] [] σ (0, 0) := by
  refine P_aload_n C dX12_planned_42 0 rfl ?_
  refine P_getS C (e := 147) fa_X12_planned_153 kd_74 (d := 73) rfl (fxl fx_74) rfl dX12_planned_43 ?_
  refine P_iload_n C dX12_planned_46 1 rfl ?_
  obtain ⟨hv1, h⟩ := h
  refine P_iald C kd_147 (fxl fx_147) hv1 dX12_planned_47 ?_
  refine P_iconst C dX12_planned_48 (v := (2 : Int32)) rfl ?_
  refine P_icmp_ne C dX12_planned_49 (tgt := 57) (by decide +kernel) (fun q2 => ?_) (fun q2 => ?_)
  · have h := h.1 q2
    obtain ⟨v3, ev3⟩ : ∃ v : Int32, v = x1 + 1 := ⟨_, rfl⟩
    have h := h v3 ev3
    refine P_iinc (v := v3) C dX12_planned_57 1 rfl (by rw [ev3]; rfl) (by rw [hN]; decide) rfl ?_
    refine P_goto C dX12_planned_60 (tgt := 6) (by decide +kernel) ?_
    exact P_sub [1, 0] rfl h
  · have h := h.2 q2
    refine P_aload_n C dX12_planned_52 0 rfl ?_
    refine P_iconst C dX12_planned_53 (v := (1 : Int32)) rfl ?_
    refine P_cv (R_v (ci := 12) C kv_X12_planned_X12_goPause (As := [.int (1 : Int32)]) rfl kd_74 rfl (fxl fx_74) (Nat.le_of_ble_eq_true rfl) dX12_planned_54 ⟨Nat.le_refl _, Nat.le_refl _⟩ h) (fun σ4 h => ?_)
    obtain ⟨v5, ev5⟩ : ∃ v : Int32, v = x1 + 1 := ⟨_, rfl⟩
    have h := h v5 ev5
    refine P_iinc (v := v5) C dX12_planned_57 1 rfl (by rw [ev5]; rfl) (by rw [hN]; decide) rfl ?_
    refine P_goto C dX12_planned_60 (tgt := 6) (by decide +kernel) ?_
    exact P_sub [1, 0] rfl h
theorem pa_X12_act_220 : PA RX12 wsX12_act 220 12 69 "NineMowersModel" .int := by
  show _ ∧ _ ∧ _ ∧ _ ∧ _ ∧ _ ∧ _ ∧ _
  exact ⟨by decide +kernel, fun _ h => List.mem_cons_of_mem _ (List.mem_append_right _ h), List.mem_of_getElem? (i := 1) rfl, rfl, rfl, by decide +kernel, ⟨tyX12, tyX12_ok⟩, nmX12⟩
theorem kv_X12_act_X12_isMower : KV RX12 wsX12_act (rmz 8) 243 RX12 yX12_isMower wsX12_isMower (rmz 1) 1 := ⟨_, _, _, _, gX12_act_X12_isMower, rfl, by decide +kernel, by decide +kernel⟩
theorem kv_X12_act_X12_in : KV RX12 wsX12_act (rmz 8) 239 RX12 yX12_in wsX12_in (rmz 0) 3 := ⟨_, _, _, _, gX12_act_X12_in, rfl, by decide +kernel, by decide +kernel⟩
theorem kv_X12_act_X12_tellsAct : KV RX12 wsX12_act (rmz 8) 427 RX12 yX12_tellsAct wsX12_tellsAct (rmz 7) 2 := ⟨_, _, _, _, gX12_act_X12_tellsAct, rfl, by decide +kernel, by decide +kernel⟩
theorem kv_X12_act_X12_whetsAct : KV RX12 wsX12_act (rmz 8) 421 RX12 yX12_whetsAct wsX12_whetsAct (rmz 5) 2 := ⟨_, _, _, _, gX12_act_X12_whetsAct, rfl, by decide +kernel, by decide +kernel⟩
theorem kv_X12_act_X12_mowsAct : KV RX12 wsX12_act (rmz 8) 412 RX12 yX12_mowsAct wsX12_mowsAct (rmz 2) 2 := ⟨_, _, _, _, gX12_act_X12_mowsAct, rfl, by decide +kernel, by decide +kernel⟩
noncomputable def K_X12_act (l : Launch) (V : Vx) (a1 : Int32) (a2 : Int32) (a3 : Int32) (σ : Sg) (Qk : Int32 → Sg → Prop) : Prop := Ka l V yX12_act wsX12_act (rmz 8) 0 0 [.ref 74, .int a1, .int a2, .int a3] σ (QI V Qk)
theorem e_X12_act {l : Launch} {V : Vx} {a1 : Int32} {a2 : Int32} {a3 : Int32} {σ : Sg} {Qk : Int32 → Sg → Prop} (h : ∀ M : Mx, mL M = l → mV M = V → mN M = 4 → Cx M cX12_act (some .int) RX12 wsX12_act (rmz 8) 0 0 (QI (mV M) Qk) → PS M 0 [(0, .ref 74), (1, .int a1), (2, .int a2), (3, .int a3)] [] σ (0, 0)) : K_X12_act l V a1 a2 a3 σ Qk :=
  Ka_of (by decide +kernel) rfl rfl (Nat.le_of_ble_eq_true rfl) (fun M h1 h2 h3 C => h M h1 h2 h3 (by rw [h2]; exact C))
set_option maxRecDepth 100000 in
set_option maxHeartbeats 4000000 in
theorem s_X12_act_0 {M : Mx} {Qk : Int32 → Sg → Prop} (C : Cx M cX12_act (some .int) RX12 wsX12_act (rmz 8) 0 0 (QI (mV M) Qk)) (hN : mN M = 4) {a1 : Int32} {a2 : Int32} {a3 : Int32} {σ : Sg} (h : (∀ σ1 : Sg, σ1 = si σ 74 69 (0 : Int32) → K_X12_isMower (mL M) (mV M) a1 σ1 (fun r3 σ2 => ((r3 = 0 → Qk (0 : Int32) σ2) ∧ (¬ r3 = 0 → K_X12_in (mL M) (mV M) a2 (0 : Int32) (2 : Int32) σ2 (fun r6 σ5 => ((¬ r6 = 0 → ((¬ a2 = 0 → ((¬ a2 = (1 : Int32) → K_X12_tellsAct (mL M) (mV M) a1 a3 σ5 (fun r11 σ10 => Qk r11 σ10)) ∧ (a2 = (1 : Int32) → K_X12_whetsAct (mL M) (mV M) a1 a3 σ5 (fun r13 σ12 => Qk r13 σ12)))) ∧ (a2 = 0 → K_X12_mowsAct (mL M) (mV M) a1 a3 σ5 (fun r15 σ14 => Qk r15 σ14)))) ∧ (r6 = 0 → Qk (0 : Int32) σ5)))))))) : PS M 0 [(0, .ref 74), (1, .int a1), (2, .int a2), (3, .int a3)] [] σ (0, 0) := by
  refine P_aload_n C dX12_act_0 0 rfl ?_
  refine P_iconst C dX12_act_1 (v := (0 : Int32)) rfl ?_
  refine P_putI C pa_X12_act_220 kd_74 rfl (fxl fx_74) dX12_act_2 ?_
  refine P_nm (fun σ1 eσ1 => ?_)
  have h := h σ1 eσ1
  refine P_aload_n C dX12_act_5 0 rfl ?_
  refine P_iload_n C dX12_act_6 1 rfl ?_
  refine P_ci (R_v (ci := 12) C kv_X12_act_X12_isMower (As := [.int a1]) rfl kd_74 rfl (fxl fx_74) (Nat.le_of_ble_eq_true rfl) dX12_act_7 ⟨Nat.le_refl _, Nat.le_refl _⟩ h) (fun r3 σ2 h => ?_)
  refine P_if_eq C dX12_act_10 (tgt := 23) (by decide +kernel) (fun q4 => ?_) (fun q4 => ?_)
  · have h := h.1 q4
    refine P_iconst C dX12_act_23 (v := (0 : Int32)) rfl ?_
    exact P_iret C dX12_act_24 h
  · have h := h.2 q4
    refine P_aload_n C dX12_act_13 0 rfl ?_
    refine P_iload_n C dX12_act_14 2 rfl ?_
    refine P_iconst C dX12_act_15 (v := (0 : Int32)) rfl ?_
    refine P_iconst C dX12_act_16 (v := (2 : Int32)) rfl ?_
    refine P_ci (R_v (ci := 12) C kv_X12_act_X12_in (As := [.int a2, .int (0 : Int32), .int (2 : Int32)]) rfl kd_74 rfl (fxl fx_74) (Nat.le_of_ble_eq_true rfl) dX12_act_17 ⟨Nat.le_refl _, Nat.le_refl _⟩ h) (fun r6 σ5 h => ?_)
    refine P_if_ne C dX12_act_20 (tgt := 25) (by decide +kernel) (fun q7 => ?_) (fun q7 => ?_)
    · have h := h.1 q7
      refine P_iload_n C dX12_act_25 2 rfl ?_
      refine P_if_ne C dX12_act_26 (tgt := 38) (by decide +kernel) (fun q8 => ?_) (fun q8 => ?_)
      · have h := h.1 q8
        refine P_iload_n C dX12_act_38 2 rfl ?_
        refine P_iconst C dX12_act_39 (v := (1 : Int32)) rfl ?_
        refine P_icmp_ne C dX12_act_40 (tgt := 52) (by decide +kernel) (fun q9 => ?_) (fun q9 => ?_)
        · have h := h.1 q9
          refine P_aload_n C dX12_act_52 0 rfl ?_
          refine P_iload_n C dX12_act_53 1 rfl ?_
          refine P_iload_n C dX12_act_54 3 rfl ?_
          refine P_ci (R_v (ci := 12) C kv_X12_act_X12_tellsAct (As := [.int a1, .int a3]) rfl kd_74 rfl (fxl fx_74) (Nat.le_of_ble_eq_true rfl) dX12_act_55 ⟨Nat.le_refl _, Nat.le_refl _⟩ h) (fun r11 σ10 h => ?_)
          exact P_iret C dX12_act_58 h
        · have h := h.2 q9
          refine P_aload_n C dX12_act_43 0 rfl ?_
          refine P_iload_n C dX12_act_44 1 rfl ?_
          refine P_iload_n C dX12_act_45 3 rfl ?_
          refine P_ci (R_v (ci := 12) C kv_X12_act_X12_whetsAct (As := [.int a1, .int a3]) rfl kd_74 rfl (fxl fx_74) (Nat.le_of_ble_eq_true rfl) dX12_act_46 ⟨Nat.le_refl _, Nat.le_refl _⟩ h) (fun r13 σ12 h => ?_)
          refine P_goto C dX12_act_49 (tgt := 58) (by decide +kernel) ?_
          exact P_iret C dX12_act_58 h
      · have h := h.2 q8
        refine P_aload_n C dX12_act_29 0 rfl ?_
        refine P_iload_n C dX12_act_30 1 rfl ?_
        refine P_iload_n C dX12_act_31 3 rfl ?_
        refine P_ci (R_v (ci := 12) C kv_X12_act_X12_mowsAct (As := [.int a1, .int a3]) rfl kd_74 rfl (fxl fx_74) (Nat.le_of_ble_eq_true rfl) dX12_act_32 ⟨Nat.le_refl _, Nat.le_refl _⟩ h) (fun r15 σ14 h => ?_)
        refine P_goto C dX12_act_35 (tgt := 58) (by decide +kernel) ?_
        exact P_iret C dX12_act_58 h
    · have h := h.2 q7
      refine P_iconst C dX12_act_23 (v := (0 : Int32)) rfl ?_
      exact P_iret C dX12_act_24 h
theorem kv_X12_order_X12_in : KV RX12 wsX12_order (rmz 9) 239 RX12 yX12_in wsX12_in (rmz 0) 3 := ⟨_, _, _, _, gX12_order_X12_in, rfl, by decide +kernel, by decide +kernel⟩
theorem fa_X12_order_7 : FA RX12 wsX12_order 7 12 0 "NineMowersModel" := by
  show _ ∧ _ ∧ _ ∧ _
  exact ⟨by decide +kernel, fun _ h => List.mem_cons_of_mem _ (List.mem_append_right _ h), List.mem_of_getElem? (i := 1) rfl, Or.inl rfl⟩
theorem fa_X12_order_126 : FA RX12 wsX12_order 126 12 38 "NineMowersModel" := by
  show _ ∧ _ ∧ _ ∧ _
  exact ⟨by decide +kernel, fun _ h => List.mem_cons_of_mem _ (List.mem_append_right _ h), List.mem_of_getElem? (i := 2) rfl, Or.inl rfl⟩
theorem fa_X12_order_41 : FA RX12 wsX12_order 41 12 10 "NineMowersModel" := by
  show _ ∧ _ ∧ _ ∧ _
  exact ⟨by decide +kernel, fun _ h => List.mem_cons_of_mem _ (List.mem_append_right _ h), List.mem_of_getElem? (i := 3) rfl, Or.inl rfl⟩
theorem kv_X12_order_X12_layOrder : KV RX12 wsX12_order (rmz 9) 371 RX12 yX12_layOrder wsX12_layOrder (rmz 1) 1 := ⟨_, _, _, _, gX12_order_X12_layOrder, rfl, by decide +kernel, by decide +kernel⟩
theorem kv_X12_order_X12_fromTheStart : KV RX12 wsX12_order (rmz 9) 374 RX12 yX12_fromTheStart wsX12_fromTheStart (rmz 8) 1 := ⟨_, _, _, _, gX12_order_X12_fromTheStart, rfl, by decide +kernel, by decide +kernel⟩
theorem fa_X12_order_129 : FA RX12 wsX12_order 129 12 39 "NineMowersModel" := by
  show _ ∧ _ ∧ _ ∧ _
  exact ⟨by decide +kernel, fun _ h => List.mem_cons_of_mem _ (List.mem_append_right _ h), List.mem_of_getElem? (i := 4) rfl, Or.inl rfl⟩
noncomputable def K_X12_order (l : Launch) (V : Vx) (a1 : Int32) (a2 : Int32) (σ : Sg) (Qk : Int32 → Sg → Prop) : Prop := Ka l V yX12_order wsX12_order (rmz 9) 0 0 [.ref 74, .int a1, .int a2] σ (QI V Qk)
theorem e_X12_order {l : Launch} {V : Vx} {a1 : Int32} {a2 : Int32} {σ : Sg} {Qk : Int32 → Sg → Prop} (h : ∀ M : Mx, mL M = l → mV M = V → mN M = 7 → Cx M cX12_order (some .int) RX12 wsX12_order (rmz 9) 0 0 (QI (mV M) Qk) → PS M 0 [(0, .ref 74), (1, .int a1), (2, .int a2)] [] σ (0, 0)) : K_X12_order l V a1 a2 σ Qk :=
  Ka_of (by decide +kernel) rfl rfl (Nat.le_of_ble_eq_true rfl) (fun M h1 h2 h3 C => h M h1 h2 h3 (by rw [h2]; exact C))
set_option maxRecDepth 100000 in
set_option maxHeartbeats 4000000 in
theorem s_X12_order_0 {M : Mx} {Qk : Int32 → Sg → Prop} (C : Cx M cX12_order (some .int) RX12 wsX12_order (rmz 9) 0 0 (QI (mV M) Qk)) (hN : mN M = 7) {a1 : Int32} {a2 : Int32} {σ : Sg} (h : K_X12_in (mL M) (mV M) a2 (-1 : Int32) (4 : Int32) σ (fun r2 σ1 => ((¬ r2 = 0 → K_X12_in (mL M) (mV M) a1 (1 : Int32) (12 : Int32) σ1 (fun r5 σ4 => ((¬ r5 = 0 → (((gi σ4 74 0) ≤ (5 : Int32) → PS M 39 [(0, .ref 74), (1, .int a1), (2, .int a2), (3, .int (0 : Int32))] [] σ4 (0, 0)) ∧ (¬ (gi σ4 74 0) ≤ (5 : Int32) → Qk (-9 : Int32) σ4))) ∧ (r5 = 0 → Qk (-2 : Int32) σ4)))) ∧ (r2 = 0 → Qk (-1 : Int32) σ1)))) : PS M 0 [(0, .ref 74), (1, .int a1), (2, .int a2)] [] σ (0, 0) := by
  refine P_aload_n C dX12_order_0 0 rfl ?_
  refine P_iload_n C dX12_order_1 2 rfl ?_
  refine P_iconst C dX12_order_2 (v := (-1 : Int32)) rfl ?_
  refine P_iconst C dX12_order_3 (v := (4 : Int32)) rfl ?_
  refine P_ci (R_v (ci := 12) C kv_X12_order_X12_in (As := [.int a2, .int (-1 : Int32), .int (4 : Int32)]) rfl kd_74 rfl (fxl fx_74) (Nat.le_of_ble_eq_true rfl) dX12_order_4 ⟨Nat.le_refl _, Nat.le_refl _⟩ h) (fun r2 σ1 h => ?_)
  refine P_if_ne C dX12_order_7 (tgt := 12) (by decide +kernel) (fun q3 => ?_) (fun q3 => ?_)
  · have h := h.1 q3
    refine P_aload_n C dX12_order_12 0 rfl ?_
    refine P_iload_n C dX12_order_13 1 rfl ?_
    refine P_iconst C dX12_order_14 (v := (1 : Int32)) rfl ?_
    refine P_bipush C dX12_order_15 (v := (12 : Int32)) rfl ?_
    refine P_ci (R_v (ci := 12) C kv_X12_order_X12_in (As := [.int a1, .int (1 : Int32), .int (12 : Int32)]) rfl kd_74 rfl (fxl fx_74) (Nat.le_of_ble_eq_true rfl) dX12_order_17 ⟨Nat.le_refl _, Nat.le_refl _⟩ h) (fun r5 σ4 h => ?_)
    refine P_if_ne C dX12_order_20 (tgt := 26) (by decide +kernel) (fun q6 => ?_) (fun q6 => ?_)
    · have h := h.1 q6
      refine P_aload_n C dX12_order_26 0 rfl ?_
      refine P_getI C fa_X12_order_7 kd_74 rfl (fxl fx_74) dX12_order_27 ?_
      refine P_iconst C dX12_order_30 (v := (5 : Int32)) rfl ?_
      refine P_icmp_le C dX12_order_31 (tgt := 37) (by decide +kernel) (fun q7 => ?_) (fun q7 => ?_)
      · have h := h.1 q7
        refine P_iconst C dX12_order_37 (v := (0 : Int32)) rfl ?_
        refine P_istore_n C dX12_order_38 (by rw [hN]; decide) rfl ?_
        exact P_sub [1, 2, 3, 0] rfl h
      · have h := h.2 q7
        refine P_bipush C dX12_order_34 (v := (-9 : Int32)) rfl ?_
        exact P_iret C dX12_order_36 h
    · have h := h.2 q6
      refine P_bipush C dX12_order_23 (v := (-2 : Int32)) rfl ?_
      exact P_iret C dX12_order_25 h
  · have h := h.2 q3
    refine P_iconst C dX12_order_10 (v := (-1 : Int32)) rfl ?_
    exact P_iret C dX12_order_11 h
set_option maxRecDepth 100000 in
set_option maxHeartbeats 4000000 in
theorem s_X12_order_39 {M : Mx} {Qk : Int32 → Sg → Prop} (C : Cx M cX12_order (some .int) RX12 wsX12_order (rmz 9) 0 0 (QI (mV M) Qk)) (hN : mN M = 7) {x1 : Int32} {x2 : Int32} {x3 : Int32} {σ : Sg} (h : (((6 : Int32) ≤ x3 → PS M 68 [(0, .ref 74), (1, .int x1), (2, .int x2), (3, .int (-1 : Int32)), (4, .int (0 : Int32))] [] σ (0, 0)) ∧ (¬ (6 : Int32) ≤ x3 → (vp_in x3 6 ∧ (vp_in x3 6 ∧ (∀ σ4 : Sg, σ4 = si σ 138 x3.toNatClampNeg (gi σ 110 x3.toNatClampNeg) → (∀ v5 : Int32, v5 = x3 + 1 → PS M 39 [(0, .ref 74), (1, .int x1), (2, .int x2), (3, .int v5)] [] σ4 (0, 0)))))))) : PS M 39 [(0, .ref 74), (1, .int x1), (2, .int x2), (3, .int x3)] [] σ (0, 0) := by
  refine P_iload_n C dX12_order_39 3 rfl ?_
  refine P_bipush C dX12_order_40 (v := (6 : Int32)) rfl ?_
  refine P_icmp_ge C dX12_order_42 (tgt := 63) (by decide +kernel) (fun q1 => ?_) (fun q1 => ?_)
  · have h := h.1 q1
    refine P_iconst C dX12_order_63 (v := (-1 : Int32)) rfl ?_
    refine P_istore_n C dX12_order_64 (by rw [hN]; decide) rfl ?_
    refine P_iconst C dX12_order_65 (v := (0 : Int32)) rfl ?_
    refine P_istore C dX12_order_66 (by rw [hN]; decide) rfl ?_
    exact P_sub [2, 3, 4, 1, 0] rfl h
  · have h := h.2 q1
    refine P_aload_n C dX12_order_45 0 rfl ?_
    refine P_getS C (e := 138) fa_X12_order_126 kd_74 (d := 64) rfl (fxl fx_74) rfl dX12_order_46 ?_
    refine P_iload_n C dX12_order_49 3 rfl ?_
    refine P_aload_n C dX12_order_50 0 rfl ?_
    refine P_getS C (e := 110) fa_X12_order_41 kd_74 (d := 36) rfl (fxl fx_74) rfl dX12_order_51 ?_
    refine P_iload_n C dX12_order_54 3 rfl ?_
    obtain ⟨hv2, h⟩ := h
    refine P_iald C kd_110 (fxl fx_110) hv2 dX12_order_55 ?_
    obtain ⟨hv3, h⟩ := h
    refine P_iast C kd_138 (fxl fx_138) hv3 dX12_order_56 ?_
    refine P_nm (fun σ4 eσ4 => ?_)
    have h := h σ4 eσ4
    obtain ⟨v5, ev5⟩ : ∃ v : Int32, v = x3 + 1 := ⟨_, rfl⟩
    have h := h v5 ev5
    refine P_iinc (v := v5) C dX12_order_57 3 rfl (by rw [ev5]; rfl) (by rw [hN]; decide) rfl ?_
    refine P_goto C dX12_order_60 (tgt := 39) (by decide +kernel) ?_
    exact P_sub [1, 2, 3, 0] rfl h
set_option maxRecDepth 100000 in
set_option maxHeartbeats 4000000 in
theorem s_X12_order_68 {M : Mx} {Qk : Int32 → Sg → Prop} (C : Cx M cX12_order (some .int) RX12 wsX12_order (rmz 9) 0 0 (QI (mV M) Qk)) (hN : mN M = 7) {x1 : Int32} {x2 : Int32} {x3 : Int32} {x4 : Int32} {σ : Sg} (h : K_X12_layOrder (mL M) (mV M) x4 σ (fun r2 σ1 => ((r2 = 0 → PS M 135 [(0, .ref 74), (2, .int x2), (3, .int x3), (4, .int (0 : Int32))] [] σ1 (0, 0)) ∧ (¬ r2 = 0 → K_X12_fromTheStart (mL M) (mV M) x1 σ1 (fun r5 σ4 => ((x3 < r5 → PS M 99 [(0, .ref 74), (1, .int x1), (2, .int x2), (3, .int r5), (4, .int x4), (6, .int (0 : Int32))] [] σ4 (0, 0)) ∧ (¬ x3 < r5 → (∀ v7 : Int32, v7 = x4 + 1 → PS M 68 [(0, .ref 74), (1, .int x1), (2, .int x2), (3, .int x3), (4, .int v7)] [] σ4 (0, 0))))))))) : PS M 68 [(0, .ref 74), (1, .int x1), (2, .int x2), (3, .int x3), (4, .int x4)] [] σ (0, 0) := by
  refine P_aload_n C dX12_order_68 0 rfl ?_
  refine P_iload C dX12_order_69 4 rfl ?_
  refine P_ci (R_v (ci := 12) C kv_X12_order_X12_layOrder (As := [.int x4]) rfl kd_74 rfl (fxl fx_74) (Nat.le_of_ble_eq_true rfl) dX12_order_71 ⟨Nat.le_refl _, Nat.le_refl _⟩ h) (fun r2 σ1 h => ?_)
  refine P_if_eq C dX12_order_74 (tgt := 132) (by decide +kernel) (fun q3 => ?_) (fun q3 => ?_)
  · have h := h.1 q3
    refine P_iconst C dX12_order_132 (v := (0 : Int32)) rfl ?_
    refine P_istore C dX12_order_133 (by rw [hN]; decide) rfl ?_
    exact P_sub [1, 3, 4, 0] rfl h
  · have h := h.2 q3
    refine P_aload_n C dX12_order_77 0 rfl ?_
    refine P_iload_n C dX12_order_78 1 rfl ?_
    refine P_ci (R_v (ci := 12) C kv_X12_order_X12_fromTheStart (As := [.int x1]) rfl kd_74 rfl (fxl fx_74) (Nat.le_of_ble_eq_true rfl) dX12_order_79 ⟨Nat.le_refl _, Nat.le_refl _⟩ h) (fun r5 σ4 h => ?_)
    refine P_istore C dX12_order_82 (by rw [hN]; decide) rfl ?_
    refine P_iload C dX12_order_84 0 rfl ?_
    refine P_iload_n C dX12_order_86 4 rfl ?_
    refine P_icmp_gt C dX12_order_87 (tgt := 93) (by decide +kernel) (fun q6 => ?_) (fun q6 => ?_)
    · have h := h.1 q6
      refine P_iload C dX12_order_93 0 rfl ?_
      refine P_istore_n C dX12_order_95 (by rw [hN]; decide) rfl ?_
      refine P_iconst C dX12_order_96 (v := (0 : Int32)) rfl ?_
      refine P_istore C dX12_order_97 (by rw [hN]; decide) rfl ?_
      exact P_sub [3, 4, 5, 1, 6, 0] rfl h
    · have h := h.2 q6
      refine P_goto C dX12_order_90 (tgt := 126) (by decide +kernel) ?_
      obtain ⟨v7, ev7⟩ : ∃ v : Int32, v = x4 + 1 := ⟨_, rfl⟩
      have h := h v7 ev7
      refine P_iinc (v := v7) C dX12_order_126 5 rfl (by rw [ev7]; rfl) (by rw [hN]; decide) rfl ?_
      refine P_goto C dX12_order_129 (tgt := 68) (by decide +kernel) ?_
      exact P_sub [2, 3, 4, 5, 0] rfl h
set_option maxRecDepth 100000 in
set_option maxHeartbeats 4000000 in
theorem s_X12_order_135 {M : Mx} {Qk : Int32 → Sg → Prop} (C : Cx M cX12_order (some .int) RX12 wsX12_order (rmz 9) 0 0 (QI (mV M) Qk)) (hN : mN M = 7) {x2 : Int32} {x3 : Int32} {x4 : Int32} {σ : Sg} (h : (((6 : Int32) ≤ x4 → ((0 ≤ x2 → (((gi σ 74 0) ≤ x2 → Qk (-5 : Int32) σ) ∧ (¬ (gi σ 74 0) ≤ x2 → (vp_in x2 6 ∧ Qk (gi σ 139 x2.toNatClampNeg) σ)))) ∧ (¬ 0 ≤ x2 → Qk x3 σ))) ∧ (¬ (6 : Int32) ≤ x4 → (vp_in x4 6 ∧ (vp_in x4 6 ∧ (∀ σ7 : Sg, σ7 = si σ 110 x4.toNatClampNeg (gi σ 138 x4.toNatClampNeg) → (∀ v8 : Int32, v8 = x4 + 1 → PS M 135 [(0, .ref 74), (2, .int x2), (3, .int x3), (4, .int v8)] [] σ7 (0, 0)))))))) : PS M 135 [(0, .ref 74), (2, .int x2), (3, .int x3), (4, .int x4)] [] σ (0, 0) := by
  refine P_iload C dX12_order_135 3 rfl ?_
  refine P_bipush C dX12_order_137 (v := (6 : Int32)) rfl ?_
  refine P_icmp_ge C dX12_order_139 (tgt := 162) (by decide +kernel) (fun q1 => ?_) (fun q1 => ?_)
  · have h := h.1 q1
    refine P_iload_n C dX12_order_162 1 rfl ?_
    refine P_if_ge C dX12_order_163 (tgt := 170) (by decide +kernel) (fun q2 => ?_) (fun q2 => ?_)
    · have h := h.1 q2
      refine P_iload_n C dX12_order_170 1 rfl ?_
      refine P_aload_n C dX12_order_171 0 rfl ?_
      refine P_getI C fa_X12_order_7 kd_74 rfl (fxl fx_74) dX12_order_172 ?_
      refine P_icmp_ge C dX12_order_175 (tgt := 187) (by decide +kernel) (fun q3 => ?_) (fun q3 => ?_)
      · have h := h.1 q3
        refine P_bipush C dX12_order_187 (v := (-5 : Int32)) rfl ?_
        exact P_iret C dX12_order_189 h
      · have h := h.2 q3
        refine P_aload_n C dX12_order_178 0 rfl ?_
        refine P_getS C (e := 139) fa_X12_order_129 kd_74 (d := 65) rfl (fxl fx_74) rfl dX12_order_179 ?_
        refine P_iload_n C dX12_order_182 1 rfl ?_
        obtain ⟨hv4, h⟩ := h
        refine P_iald C kd_139 (fxl fx_139) hv4 dX12_order_183 ?_
        refine P_goto C dX12_order_184 (tgt := 189) (by decide +kernel) ?_
        exact P_iret C dX12_order_189 h
    · have h := h.2 q2
      refine P_iload_n C dX12_order_166 2 rfl ?_
      refine P_goto C dX12_order_167 (tgt := 189) (by decide +kernel) ?_
      exact P_iret C dX12_order_189 h
  · have h := h.2 q1
    refine P_aload_n C dX12_order_142 0 rfl ?_
    refine P_getS C (e := 110) fa_X12_order_41 kd_74 (d := 36) rfl (fxl fx_74) rfl dX12_order_143 ?_
    refine P_iload C dX12_order_146 3 rfl ?_
    refine P_aload_n C dX12_order_148 0 rfl ?_
    refine P_getS C (e := 138) fa_X12_order_126 kd_74 (d := 64) rfl (fxl fx_74) rfl dX12_order_149 ?_
    refine P_iload C dX12_order_152 3 rfl ?_
    obtain ⟨hv5, h⟩ := h
    refine P_iald C kd_138 (fxl fx_138) hv5 dX12_order_154 ?_
    obtain ⟨hv6, h⟩ := h
    refine P_iast C kd_110 (fxl fx_110) hv6 dX12_order_155 ?_
    refine P_nm (fun σ7 eσ7 => ?_)
    have h := h σ7 eσ7
    obtain ⟨v8, ev8⟩ : ∃ v : Int32, v = x4 + 1 := ⟨_, rfl⟩
    have h := h v8 ev8
    refine P_iinc (v := v8) C dX12_order_156 3 rfl (by rw [ev8]; rfl) (by rw [hN]; decide) rfl ?_
    refine P_goto C dX12_order_159 (tgt := 135) (by decide +kernel) ?_
    exact P_sub [1, 2, 3, 0] rfl h
set_option maxRecDepth 100000 in
set_option maxHeartbeats 4000000 in
theorem s_X12_order_99 {M : Mx} {Qk : Int32 → Sg → Prop} (C : Cx M cX12_order (some .int) RX12 wsX12_order (rmz 9) 0 0 (QI (mV M) Qk)) (hN : mN M = 7) {x1 : Int32} {x2 : Int32} {x3 : Int32} {x4 : Int32} {x6 : Int32} {σ : Sg} (h : (((6 : Int32) ≤ x6 → (∀ v2 : Int32, v2 = x4 + 1 → PS M 68 [(0, .ref 74), (1, .int x1), (2, .int x2), (3, .int x3), (4, .int v2)] [] σ (0, 0))) ∧ (¬ (6 : Int32) ≤ x6 → (vp_in x6 6 ∧ (vp_in x6 6 ∧ (∀ σ5 : Sg, σ5 = si σ 139 x6.toNatClampNeg (gi σ 110 x6.toNatClampNeg) → (∀ v6 : Int32, v6 = x6 + 1 → PS M 99 [(0, .ref 74), (1, .int x1), (2, .int x2), (3, .int x3), (4, .int x4), (6, .int v6)] [] σ5 (0, 0)))))))) : PS M 99 [(0, .ref 74), (1, .int x1), (2, .int x2), (3, .int x3), (4, .int x4), (6, .int x6)] [] σ (0, 0) := by
  refine P_iload C dX12_order_99 5 rfl ?_
  refine P_bipush C dX12_order_101 (v := (6 : Int32)) rfl ?_
  refine P_icmp_ge C dX12_order_103 (tgt := 126) (by decide +kernel) (fun q1 => ?_) (fun q1 => ?_)
  · have h := h.1 q1
    obtain ⟨v2, ev2⟩ : ∃ v : Int32, v = x4 + 1 := ⟨_, rfl⟩
    have h := h v2 ev2
    refine P_iinc (v := v2) C dX12_order_126 4 rfl (by rw [ev2]; rfl) (by rw [hN]; decide) rfl ?_
    refine P_goto C dX12_order_129 (tgt := 68) (by decide +kernel) ?_
    exact P_sub [1, 2, 3, 4, 0] rfl h
  · have h := h.2 q1
    refine P_aload_n C dX12_order_106 0 rfl ?_
    refine P_getS C (e := 139) fa_X12_order_129 kd_74 (d := 65) rfl (fxl fx_74) rfl dX12_order_107 ?_
    refine P_iload C dX12_order_110 5 rfl ?_
    refine P_aload_n C dX12_order_112 0 rfl ?_
    refine P_getS C (e := 110) fa_X12_order_41 kd_74 (d := 36) rfl (fxl fx_74) rfl dX12_order_113 ?_
    refine P_iload C dX12_order_116 5 rfl ?_
    obtain ⟨hv3, h⟩ := h
    refine P_iald C kd_110 (fxl fx_110) hv3 dX12_order_118 ?_
    obtain ⟨hv4, h⟩ := h
    refine P_iast C kd_139 (fxl fx_139) hv4 dX12_order_119 ?_
    refine P_nm (fun σ5 eσ5 => ?_)
    have h := h σ5 eσ5
    obtain ⟨v6, ev6⟩ : ∃ v : Int32, v = x6 + 1 := ⟨_, rfl⟩
    have h := h v6 ev6
    refine P_iinc (v := v6) C dX12_order_120 5 rfl (by rw [ev6]; rfl) (by rw [hN]; decide) rfl ?_
    refine P_goto C dX12_order_123 (tgt := 99) (by decide +kernel) ?_
    exact P_sub [1, 2, 3, 4, 5, 0] rfl h
theorem kv_X12_whets_X12_in : KV RX12 wsX12_whets (rmz 9) 239 RX12 yX12_in wsX12_in (rmz 0) 3 := ⟨_, _, _, _, gX12_whets_X12_in, rfl, by decide +kernel, by decide +kernel⟩
theorem kv_X12_whets_X12_whetted : KV RX12 wsX12_whets (rmz 9) 377 RX12 yX12_whetted wsX12_whetted (rmz 8) 2 := ⟨_, _, _, _, gX12_whets_X12_whetted, rfl, by decide +kernel, by decide +kernel⟩
noncomputable def K_X12_whets (l : Launch) (V : Vx) (a1 : Int32) (a2 : Int32) (σ : Sg) (Qk : Int32 → Sg → Prop) : Prop := Ka l V yX12_whets wsX12_whets (rmz 9) 0 0 [.ref 74, .int a1, .int a2] σ (QI V Qk)
theorem e_X12_whets {l : Launch} {V : Vx} {a1 : Int32} {a2 : Int32} {σ : Sg} {Qk : Int32 → Sg → Prop} (h : ∀ M : Mx, mL M = l → mV M = V → mN M = 7 → Cx M cX12_whets (some .int) RX12 wsX12_whets (rmz 9) 0 0 (QI (mV M) Qk) → PS M 0 [(0, .ref 74), (1, .int a1), (2, .int a2)] [] σ (0, 0)) : K_X12_whets l V a1 a2 σ Qk :=
  Ka_of (by decide +kernel) rfl rfl (Nat.le_of_ble_eq_true rfl) (fun M h1 h2 h3 C => h M h1 h2 h3 (by rw [h2]; exact C))
set_option maxRecDepth 100000 in
set_option maxHeartbeats 4000000 in
theorem s_X12_whets_0 {M : Mx} {Qk : Int32 → Sg → Prop} (C : Cx M cX12_whets (some .int) RX12 wsX12_whets (rmz 9) 0 0 (QI (mV M) Qk)) (hN : mN M = 7) {a1 : Int32} {a2 : Int32} {σ : Sg} (h : K_X12_in (mL M) (mV M) a2 (0 : Int32) (1 : Int32) σ (fun r2 σ1 => ((¬ r2 = 0 → K_X12_in (mL M) (mV M) a1 (1 : Int32) (60 : Int32) σ1 (fun r5 σ4 => ((¬ r5 = 0 → PS M 34 [(0, .ref 74), (1, .int a1), (2, .int a2), (3, .int (0 : Int32)), (4, .int (-1 : Int32)), (5, .int (1 : Int32))] [] σ4 (0, 0)) ∧ (r5 = 0 → Qk (-2 : Int32) σ4)))) ∧ (r2 = 0 → Qk (-1 : Int32) σ1)))) : PS M 0 [(0, .ref 74), (1, .int a1), (2, .int a2)] [] σ (0, 0) := by
  refine P_aload_n C dX12_whets_0 0 rfl ?_
  refine P_iload_n C dX12_whets_1 2 rfl ?_
  refine P_iconst C dX12_whets_2 (v := (0 : Int32)) rfl ?_
  refine P_iconst C dX12_whets_3 (v := (1 : Int32)) rfl ?_
  refine P_ci (R_v (ci := 12) C kv_X12_whets_X12_in (As := [.int a2, .int (0 : Int32), .int (1 : Int32)]) rfl kd_74 rfl (fxl fx_74) (Nat.le_of_ble_eq_true rfl) dX12_whets_4 ⟨Nat.le_refl _, Nat.le_refl _⟩ h) (fun r2 σ1 h => ?_)
  refine P_if_ne C dX12_whets_7 (tgt := 12) (by decide +kernel) (fun q3 => ?_) (fun q3 => ?_)
  · have h := h.1 q3
    refine P_aload_n C dX12_whets_12 0 rfl ?_
    refine P_iload_n C dX12_whets_13 1 rfl ?_
    refine P_iconst C dX12_whets_14 (v := (1 : Int32)) rfl ?_
    refine P_bipush C dX12_whets_15 (v := (60 : Int32)) rfl ?_
    refine P_ci (R_v (ci := 12) C kv_X12_whets_X12_in (As := [.int a1, .int (1 : Int32), .int (60 : Int32)]) rfl kd_74 rfl (fxl fx_74) (Nat.le_of_ble_eq_true rfl) dX12_whets_17 ⟨Nat.le_refl _, Nat.le_refl _⟩ h) (fun r5 σ4 h => ?_)
    refine P_if_ne C dX12_whets_20 (tgt := 26) (by decide +kernel) (fun q6 => ?_) (fun q6 => ?_)
    · have h := h.1 q6
      refine P_iconst C dX12_whets_26 (v := (0 : Int32)) rfl ?_
      refine P_istore_n C dX12_whets_27 (by rw [hN]; decide) rfl ?_
      refine P_iconst C dX12_whets_28 (v := (-1 : Int32)) rfl ?_
      refine P_istore C dX12_whets_29 (by rw [hN]; decide) rfl ?_
      refine P_iconst C dX12_whets_31 (v := (1 : Int32)) rfl ?_
      refine P_istore C dX12_whets_32 (by rw [hN]; decide) rfl ?_
      exact P_sub [3, 4, 5, 2, 1, 0] rfl h
    · have h := h.2 q6
      refine P_bipush C dX12_whets_23 (v := (-2 : Int32)) rfl ?_
      exact P_iret C dX12_whets_25 h
  · have h := h.2 q3
    refine P_iconst C dX12_whets_10 (v := (-1 : Int32)) rfl ?_
    exact P_iret C dX12_whets_11 h
set_option maxRecDepth 100000 in
set_option maxHeartbeats 4000000 in
theorem s_X12_whets_34 {M : Mx} {Qk : Int32 → Sg → Prop} (C : Cx M cX12_whets (some .int) RX12 wsX12_whets (rmz 9) 0 0 (QI (mV M) Qk)) (hN : mN M = 7) {x1 : Int32} {x2 : Int32} {x3 : Int32} {x4 : Int32} {x5 : Int32} {σ : Sg} (h : (((17 : Int32) ≤ x5 → ((¬ x2 = 0 → Qk x4 σ) ∧ (x2 = 0 → Qk x3 σ))) ∧ (¬ (17 : Int32) ≤ x5 → K_X12_whetted (mL M) (mV M) x1 x5 σ (fun r4 σ3 => ((x4 < r4 → (∀ v6 : Int32, v6 = x5 + 1 → PS M 34 [(0, .ref 74), (1, .int x1), (2, .int x2), (3, .int x5), (4, .int r4), (5, .int v6)] [] σ3 (0, 0))) ∧ (¬ x4 < r4 → (∀ v7 : Int32, v7 = x5 + 1 → PS M 34 [(0, .ref 74), (1, .int x1), (2, .int x2), (3, .int x3), (4, .int x4), (5, .int v7)] [] σ3 (0, 0)))))))) : PS M 34 [(0, .ref 74), (1, .int x1), (2, .int x2), (3, .int x3), (4, .int x4), (5, .int x5)] [] σ (0, 0) := by
  refine P_iload C dX12_whets_34 5 rfl ?_
  refine P_bipush C dX12_whets_36 (v := (17 : Int32)) rfl ?_
  refine P_icmp_ge C dX12_whets_38 (tgt := 73) (by decide +kernel) (fun q1 => ?_) (fun q1 => ?_)
  · have h := h.1 q1
    refine P_iload_n C dX12_whets_73 2 rfl ?_
    refine P_if_ne C dX12_whets_74 (tgt := 81) (by decide +kernel) (fun q2 => ?_) (fun q2 => ?_)
    · have h := h.1 q2
      refine P_iload C dX12_whets_81 4 rfl ?_
      exact P_iret C dX12_whets_83 h
    · have h := h.2 q2
      refine P_iload_n C dX12_whets_77 3 rfl ?_
      refine P_goto C dX12_whets_78 (tgt := 83) (by decide +kernel) ?_
      exact P_iret C dX12_whets_83 h
  · have h := h.2 q1
    refine P_aload_n C dX12_whets_41 0 rfl ?_
    refine P_iload_n C dX12_whets_42 1 rfl ?_
    refine P_iload C dX12_whets_43 5 rfl ?_
    refine P_ci (R_v (ci := 12) C kv_X12_whets_X12_whetted (As := [.int x1, .int x5]) rfl kd_74 rfl (fxl fx_74) (Nat.le_of_ble_eq_true rfl) dX12_whets_45 ⟨Nat.le_refl _, Nat.le_refl _⟩ h) (fun r4 σ3 h => ?_)
    refine P_istore C dX12_whets_48 (by rw [hN]; decide) rfl ?_
    refine P_iload C dX12_whets_50 0 rfl ?_
    refine P_iload C dX12_whets_52 5 rfl ?_
    refine P_icmp_gt C dX12_whets_54 (tgt := 60) (by decide +kernel) (fun q5 => ?_) (fun q5 => ?_)
    · have h := h.1 q5
      refine P_iload C dX12_whets_60 6 rfl ?_
      refine P_istore_n C dX12_whets_62 (by rw [hN]; decide) rfl ?_
      refine P_iload C dX12_whets_63 1 rfl ?_
      refine P_istore C dX12_whets_65 (by rw [hN]; decide) rfl ?_
      obtain ⟨v6, ev6⟩ : ∃ v : Int32, v = x5 + 1 := ⟨_, rfl⟩
      have h := h v6 ev6
      refine P_iinc (v := v6) C dX12_whets_67 6 rfl (by rw [ev6]; rfl) (by rw [hN]; decide) rfl ?_
      refine P_goto C dX12_whets_70 (tgt := 34) (by decide +kernel) ?_
      exact P_sub [4, 5, 6, 2, 1, 0] rfl h
    · have h := h.2 q5
      refine P_goto C dX12_whets_57 (tgt := 67) (by decide +kernel) ?_
      obtain ⟨v7, ev7⟩ : ∃ v : Int32, v = x5 + 1 := ⟨_, rfl⟩
      have h := h v7 ev7
      refine P_iinc (v := v7) C dX12_whets_67 6 rfl (by rw [ev7]; rfl) (by rw [hN]; decide) rfl ?_
      refine P_goto C dX12_whets_70 (tgt := 34) (by decide +kernel) ?_
      exact P_sub [2, 3, 4, 5, 6, 0] rfl h
theorem kv_X12_apart_X12_in : KV RX12 wsX12_apart (rmz 9) 239 RX12 yX12_in wsX12_in (rmz 0) 3 := ⟨_, _, _, _, gX12_apart_X12_in, rfl, by decide +kernel, by decide +kernel⟩
theorem pa_X12_apart_95 : PA RX12 wsX12_apart 95 12 28 "NineMowersModel" .int := by
  show _ ∧ _ ∧ _ ∧ _ ∧ _ ∧ _ ∧ _ ∧ _
  exact ⟨by decide +kernel, fun _ h => List.mem_cons_of_mem _ (List.mem_append_right _ h), List.mem_of_getElem? (i := 1) rfl, rfl, rfl, by decide +kernel, ⟨tyX12, tyX12_ok⟩, nmX12⟩
theorem kv_X12_apart_X12_allBehind : KV RX12 wsX12_apart (rmz 9) 380 RX12 yX12_allBehind wsX12_allBehind (rmz 8) 1 := ⟨_, _, _, _, gX12_apart_X12_allBehind, rfl, by decide +kernel, by decide +kernel⟩
noncomputable def K_X12_apart (l : Launch) (V : Vx) (a1 : Int32) (a2 : Int32) (σ : Sg) (Qk : Int32 → Sg → Prop) : Prop := Ka l V yX12_apart wsX12_apart (rmz 9) 0 0 [.ref 74, .int a1, .int a2] σ (QI V Qk)
theorem e_X12_apart {l : Launch} {V : Vx} {a1 : Int32} {a2 : Int32} {σ : Sg} {Qk : Int32 → Sg → Prop} (h : ∀ M : Mx, mL M = l → mV M = V → mN M = 7 → Cx M cX12_apart (some .int) RX12 wsX12_apart (rmz 9) 0 0 (QI (mV M) Qk) → PS M 0 [(0, .ref 74), (1, .int a1), (2, .int a2)] [] σ (0, 0)) : K_X12_apart l V a1 a2 σ Qk :=
  Ka_of (by decide +kernel) rfl rfl (Nat.le_of_ble_eq_true rfl) (fun M h1 h2 h3 C => h M h1 h2 h3 (by rw [h2]; exact C))
set_option maxRecDepth 100000 in
set_option maxHeartbeats 4000000 in
theorem s_X12_apart_0 {M : Mx} {Qk : Int32 → Sg → Prop} (C : Cx M cX12_apart (some .int) RX12 wsX12_apart (rmz 9) 0 0 (QI (mV M) Qk)) (hN : mN M = 7) {a1 : Int32} {a2 : Int32} {σ : Sg} (h : K_X12_in (mL M) (mV M) a2 (0 : Int32) (1 : Int32) σ (fun r2 σ1 => ((¬ r2 = 0 → K_X12_in (mL M) (mV M) a1 (1 : Int32) (60 : Int32) σ1 (fun r5 σ4 => ((¬ r5 = 0 → PS M 34 [(0, .ref 74), (1, .int a1), (2, .int a2), (3, .int (0 : Int32)), (4, .int (-1 : Int32)), (5, .int (0 : Int32))] [] σ4 (0, 0)) ∧ (r5 = 0 → Qk (-2 : Int32) σ4)))) ∧ (r2 = 0 → Qk (-1 : Int32) σ1)))) : PS M 0 [(0, .ref 74), (1, .int a1), (2, .int a2)] [] σ (0, 0) := by
  refine P_aload_n C dX12_apart_0 0 rfl ?_
  refine P_iload_n C dX12_apart_1 2 rfl ?_
  refine P_iconst C dX12_apart_2 (v := (0 : Int32)) rfl ?_
  refine P_iconst C dX12_apart_3 (v := (1 : Int32)) rfl ?_
  refine P_ci (R_v (ci := 12) C kv_X12_apart_X12_in (As := [.int a2, .int (0 : Int32), .int (1 : Int32)]) rfl kd_74 rfl (fxl fx_74) (Nat.le_of_ble_eq_true rfl) dX12_apart_4 ⟨Nat.le_refl _, Nat.le_refl _⟩ h) (fun r2 σ1 h => ?_)
  refine P_if_ne C dX12_apart_7 (tgt := 12) (by decide +kernel) (fun q3 => ?_) (fun q3 => ?_)
  · have h := h.1 q3
    refine P_aload_n C dX12_apart_12 0 rfl ?_
    refine P_iload_n C dX12_apart_13 1 rfl ?_
    refine P_iconst C dX12_apart_14 (v := (1 : Int32)) rfl ?_
    refine P_bipush C dX12_apart_15 (v := (60 : Int32)) rfl ?_
    refine P_ci (R_v (ci := 12) C kv_X12_apart_X12_in (As := [.int a1, .int (1 : Int32), .int (60 : Int32)]) rfl kd_74 rfl (fxl fx_74) (Nat.le_of_ble_eq_true rfl) dX12_apart_17 ⟨Nat.le_refl _, Nat.le_refl _⟩ h) (fun r5 σ4 h => ?_)
    refine P_if_ne C dX12_apart_20 (tgt := 26) (by decide +kernel) (fun q6 => ?_) (fun q6 => ?_)
    · have h := h.1 q6
      refine P_iconst C dX12_apart_26 (v := (0 : Int32)) rfl ?_
      refine P_istore_n C dX12_apart_27 (by rw [hN]; decide) rfl ?_
      refine P_iconst C dX12_apart_28 (v := (-1 : Int32)) rfl ?_
      refine P_istore C dX12_apart_29 (by rw [hN]; decide) rfl ?_
      refine P_iconst C dX12_apart_31 (v := (0 : Int32)) rfl ?_
      refine P_istore C dX12_apart_32 (by rw [hN]; decide) rfl ?_
      exact P_sub [3, 4, 5, 2, 1, 0] rfl h
    · have h := h.2 q6
      refine P_bipush C dX12_apart_23 (v := (-2 : Int32)) rfl ?_
      exact P_iret C dX12_apart_25 h
  · have h := h.2 q3
    refine P_iconst C dX12_apart_10 (v := (-1 : Int32)) rfl ?_
    exact P_iret C dX12_apart_11 h
set_option maxRecDepth 100000 in
set_option maxHeartbeats 4000000 in
theorem s_X12_apart_34 {M : Mx} {Qk : Int32 → Sg → Prop} (C : Cx M cX12_apart (some .int) RX12 wsX12_apart (rmz 9) 0 0 (QI (mV M) Qk)) (hN : mN M = 7) {x1 : Int32} {x2 : Int32} {x3 : Int32} {x4 : Int32} {x5 : Int32} {σ : Sg} (h : (((10 : Int32) ≤ x5 → (∀ σ2 : Sg, σ2 = si σ 74 28 (-1 : Int32) → ((¬ x2 = 0 → Qk x4 σ2) ∧ (x2 = 0 → Qk x3 σ2)))) ∧ (¬ (10 : Int32) ≤ x5 → (∀ σ4 : Sg, σ4 = si σ 74 28 x5 → K_X12_allBehind (mL M) (mV M) x1 σ4 (fun r6 σ5 => ((x4 < r6 → (∀ v8 : Int32, v8 = x5 + 1 → PS M 34 [(0, .ref 74), (1, .int x1), (2, .int x2), (3, .int x5), (4, .int r6), (5, .int v8)] [] σ5 (0, 0))) ∧ (¬ x4 < r6 → (∀ v9 : Int32, v9 = x5 + 1 → PS M 34 [(0, .ref 74), (1, .int x1), (2, .int x2), (3, .int x3), (4, .int x4), (5, .int v9)] [] σ5 (0, 0))))))))) : PS M 34 [(0, .ref 74), (1, .int x1), (2, .int x2), (3, .int x3), (4, .int x4), (5, .int x5)] [] σ (0, 0) := by
  refine P_iload C dX12_apart_34 5 rfl ?_
  refine P_bipush C dX12_apart_36 (v := (10 : Int32)) rfl ?_
  refine P_icmp_ge C dX12_apart_38 (tgt := 77) (by decide +kernel) (fun q1 => ?_) (fun q1 => ?_)
  · have h := h.1 q1
    refine P_aload_n C dX12_apart_77 0 rfl ?_
    refine P_iconst C dX12_apart_78 (v := (-1 : Int32)) rfl ?_
    refine P_putI C pa_X12_apart_95 kd_74 rfl (fxl fx_74) dX12_apart_79 ?_
    refine P_nm (fun σ2 eσ2 => ?_)
    have h := h σ2 eσ2
    refine P_iload_n C dX12_apart_82 2 rfl ?_
    refine P_if_ne C dX12_apart_83 (tgt := 90) (by decide +kernel) (fun q3 => ?_) (fun q3 => ?_)
    · have h := h.1 q3
      refine P_iload C dX12_apart_90 4 rfl ?_
      exact P_iret C dX12_apart_92 h
    · have h := h.2 q3
      refine P_iload_n C dX12_apart_86 3 rfl ?_
      refine P_goto C dX12_apart_87 (tgt := 92) (by decide +kernel) ?_
      exact P_iret C dX12_apart_92 h
  · have h := h.2 q1
    refine P_aload_n C dX12_apart_41 0 rfl ?_
    refine P_iload C dX12_apart_42 5 rfl ?_
    refine P_putI C pa_X12_apart_95 kd_74 rfl (fxl fx_74) dX12_apart_44 ?_
    refine P_nm (fun σ4 eσ4 => ?_)
    have h := h σ4 eσ4
    refine P_aload_n C dX12_apart_47 0 rfl ?_
    refine P_iload_n C dX12_apart_48 1 rfl ?_
    refine P_ci (R_v (ci := 12) C kv_X12_apart_X12_allBehind (As := [.int x1]) rfl kd_74 rfl (fxl fx_74) (Nat.le_of_ble_eq_true rfl) dX12_apart_49 ⟨Nat.le_refl _, Nat.le_refl _⟩ h) (fun r6 σ5 h => ?_)
    refine P_istore C dX12_apart_52 (by rw [hN]; decide) rfl ?_
    refine P_iload C dX12_apart_54 0 rfl ?_
    refine P_iload C dX12_apart_56 5 rfl ?_
    refine P_icmp_gt C dX12_apart_58 (tgt := 64) (by decide +kernel) (fun q7 => ?_) (fun q7 => ?_)
    · have h := h.1 q7
      refine P_iload C dX12_apart_64 6 rfl ?_
      refine P_istore_n C dX12_apart_66 (by rw [hN]; decide) rfl ?_
      refine P_iload C dX12_apart_67 1 rfl ?_
      refine P_istore C dX12_apart_69 (by rw [hN]; decide) rfl ?_
      obtain ⟨v8, ev8⟩ : ∃ v : Int32, v = x5 + 1 := ⟨_, rfl⟩
      have h := h v8 ev8
      refine P_iinc (v := v8) C dX12_apart_71 6 rfl (by rw [ev8]; rfl) (by rw [hN]; decide) rfl ?_
      refine P_goto C dX12_apart_74 (tgt := 34) (by decide +kernel) ?_
      exact P_sub [4, 5, 6, 2, 1, 0] rfl h
    · have h := h.2 q7
      refine P_goto C dX12_apart_61 (tgt := 71) (by decide +kernel) ?_
      obtain ⟨v9, ev9⟩ : ∃ v : Int32, v = x5 + 1 := ⟨_, rfl⟩
      have h := h v9 ev9
      refine P_iinc (v := v9) C dX12_apart_71 6 rfl (by rw [ev9]; rfl) (by rw [hN]; decide) rfl ?_
      refine P_goto C dX12_apart_74 (tgt := 34) (by decide +kernel) ?_
      exact P_sub [2, 3, 4, 5, 6, 0] rfl h
theorem kv_X12_alone_X12_in : KV RX12 wsX12_alone (rmz 9) 239 RX12 yX12_in wsX12_in (rmz 0) 3 := ⟨_, _, _, _, gX12_alone_X12_in, rfl, by decide +kernel, by decide +kernel⟩
theorem kv_X12_alone_X12_allBehind : KV RX12 wsX12_alone (rmz 9) 380 RX12 yX12_allBehind wsX12_allBehind (rmz 8) 1 := ⟨_, _, _, _, gX12_alone_X12_allBehind, rfl, by decide +kernel, by decide +kernel⟩
theorem fa_X12_alone_7 : FA RX12 wsX12_alone 7 12 0 "NineMowersModel" := by
  show _ ∧ _ ∧ _ ∧ _
  exact ⟨by decide +kernel, fun _ h => List.mem_cons_of_mem _ (List.mem_append_right _ h), List.mem_of_getElem? (i := 2) rfl, Or.inl rfl⟩
theorem kv_X12_alone_X12_aloneBehind : KV RX12 wsX12_alone (rmz 9) 385 RX12 yX12_aloneBehind wsX12_aloneBehind (rmz 8) 2 := ⟨_, _, _, _, gX12_alone_X12_aloneBehind, rfl, by decide +kernel, by decide +kernel⟩
noncomputable def K_X12_alone (l : Launch) (V : Vx) (a1 : Int32) (σ : Sg) (Qk : Int32 → Sg → Prop) : Prop := Ka l V yX12_alone wsX12_alone (rmz 9) 0 0 [.ref 74, .int a1] σ (QI V Qk)
theorem e_X12_alone {l : Launch} {V : Vx} {a1 : Int32} {σ : Sg} {Qk : Int32 → Sg → Prop} (h : ∀ M : Mx, mL M = l → mV M = V → mN M = 4 → Cx M cX12_alone (some .int) RX12 wsX12_alone (rmz 9) 0 0 (QI (mV M) Qk) → PS M 0 [(0, .ref 74), (1, .int a1)] [] σ (0, 0)) : K_X12_alone l V a1 σ Qk :=
  Ka_of (by decide +kernel) rfl rfl (Nat.le_of_ble_eq_true rfl) (fun M h1 h2 h3 C => h M h1 h2 h3 (by rw [h2]; exact C))
set_option maxRecDepth 100000 in
set_option maxHeartbeats 4000000 in
theorem s_X12_alone_0 {M : Mx} {Qk : Int32 → Sg → Prop} (C : Cx M cX12_alone (some .int) RX12 wsX12_alone (rmz 9) 0 0 (QI (mV M) Qk)) (hN : mN M = 4) {a1 : Int32} {σ : Sg} (h : K_X12_in (mL M) (mV M) a1 (1 : Int32) (60 : Int32) σ (fun r2 σ1 => ((¬ r2 = 0 → K_X12_allBehind (mL M) (mV M) a1 σ1 (fun r5 σ4 => PS M 23 [(0, .ref 74), (1, .int a1), (2, .int r5), (3, .int (0 : Int32))] [] σ4 (0, 0))) ∧ (r2 = 0 → Qk (-100002 : Int32) σ1)))) : PS M 0 [(0, .ref 74), (1, .int a1)] [] σ (0, 0) := by
  refine P_aload_n C dX12_alone_0 0 rfl ?_
  refine P_iload_n C dX12_alone_1 1 rfl ?_
  refine P_iconst C dX12_alone_2 (v := (1 : Int32)) rfl ?_
  refine P_bipush C dX12_alone_3 (v := (60 : Int32)) rfl ?_
  refine P_ci (R_v (ci := 12) C kv_X12_alone_X12_in (As := [.int a1, .int (1 : Int32), .int (60 : Int32)]) rfl kd_74 rfl (fxl fx_74) (Nat.le_of_ble_eq_true rfl) dX12_alone_5 ⟨Nat.le_refl _, Nat.le_refl _⟩ h) (fun r2 σ1 h => ?_)
  refine P_if_ne C dX12_alone_8 (tgt := 15) (by decide +kernel) (fun q3 => ?_) (fun q3 => ?_)
  · have h := h.1 q3
    refine P_aload_n C dX12_alone_15 0 rfl ?_
    refine P_iload_n C dX12_alone_16 1 rfl ?_
    refine P_ci (R_v (ci := 12) C kv_X12_alone_X12_allBehind (As := [.int a1]) rfl kd_74 rfl (fxl fx_74) (Nat.le_of_ble_eq_true rfl) dX12_alone_17 ⟨Nat.le_refl _, Nat.le_refl _⟩ h) (fun r5 σ4 h => ?_)
    refine P_istore_n C dX12_alone_20 (by rw [hN]; decide) rfl ?_
    refine P_iconst C dX12_alone_21 (v := (0 : Int32)) rfl ?_
    refine P_istore_n C dX12_alone_22 (by rw [hN]; decide) rfl ?_
    exact P_sub [2, 3, 1, 0] rfl h
  · have h := h.2 q3
    refine P_ldcw C (v := (-100002 : Int32)) (List.mem_of_getElem? (i := 1) rfl) dX12_alone_11 ?_
    exact P_iret C dX12_alone_14 h
set_option maxRecDepth 100000 in
set_option maxHeartbeats 4000000 in
theorem s_X12_alone_23 {M : Mx} {Qk : Int32 → Sg → Prop} (C : Cx M cX12_alone (some .int) RX12 wsX12_alone (rmz 9) 0 0 (QI (mV M) Qk)) (hN : mN M = 4) {x1 : Int32} {x2 : Int32} {x3 : Int32} {σ : Sg} (h : (((gi σ 74 0) ≤ x3 → Qk x2 σ) ∧ (¬ (gi σ 74 0) ≤ x3 → K_X12_aloneBehind (mL M) (mV M) x3 x1 σ (fun r3 σ2 => (∀ v4 : Int32, v4 = x2 - r3 → (∀ v5 : Int32, v5 = x3 + 1 → PS M 23 [(0, .ref 74), (1, .int x1), (2, .int v4), (3, .int v5)] [] σ2 (0, 0))))))) : PS M 23 [(0, .ref 74), (1, .int x1), (2, .int x2), (3, .int x3)] [] σ (0, 0) := by
  refine P_iload_n C dX12_alone_23 3 rfl ?_
  refine P_aload_n C dX12_alone_24 0 rfl ?_
  refine P_getI C fa_X12_alone_7 kd_74 rfl (fxl fx_74) dX12_alone_25 ?_
  refine P_icmp_ge C dX12_alone_28 (tgt := 46) (by decide +kernel) (fun q1 => ?_) (fun q1 => ?_)
  · have h := h.1 q1
    refine P_iload_n C dX12_alone_46 2 rfl ?_
    exact P_iret C dX12_alone_47 h
  · have h := h.2 q1
    refine P_iload_n C dX12_alone_31 2 rfl ?_
    refine P_aload_n C dX12_alone_32 0 rfl ?_
    refine P_iload_n C dX12_alone_33 3 rfl ?_
    refine P_iload_n C dX12_alone_34 1 rfl ?_
    refine P_ci (R_v (ci := 12) C kv_X12_alone_X12_aloneBehind (As := [.int x3, .int x1]) rfl kd_74 rfl (fxl fx_74) (Nat.le_of_ble_eq_true rfl) dX12_alone_35 ⟨Nat.le_refl _, Nat.le_refl _⟩ h) (fun r3 σ2 h => ?_)
    refine P_isub C dX12_alone_38 ?_
    refine P_nmi (fun v4 ev4 => ?_)
    have h := h v4 ev4
    refine P_istore_n C dX12_alone_39 (by rw [hN]; decide) rfl ?_
    obtain ⟨v5, ev5⟩ : ∃ v : Int32, v = x3 + 1 := ⟨_, rfl⟩
    have h := h v5 ev5
    refine P_iinc (v := v5) C dX12_alone_40 3 rfl (by rw [ev5]; rfl) (by rw [hN]; decide) rfl ?_
    refine P_goto C dX12_alone_43 (tgt := 23) (by decide +kernel) ?_
    exact P_sub [2, 3, 1, 0] rfl h
theorem kv_X12_rest_X12_in : KV RX12 wsX12_rest (rmz 9) 239 RX12 yX12_in wsX12_in (rmz 0) 3 := ⟨_, _, _, _, gX12_rest_X12_in, rfl, by decide +kernel, by decide +kernel⟩
theorem kv_X12_rest_X12_allBehind : KV RX12 wsX12_rest (rmz 9) 380 RX12 yX12_allBehind wsX12_allBehind (rmz 8) 1 := ⟨_, _, _, _, gX12_rest_X12_allBehind, rfl, by decide +kernel, by decide +kernel⟩
theorem fa_X12_rest_7 : FA RX12 wsX12_rest 7 12 0 "NineMowersModel" := by
  show _ ∧ _ ∧ _ ∧ _
  exact ⟨by decide +kernel, fun _ h => List.mem_cons_of_mem _ (List.mem_append_right _ h), List.mem_of_getElem? (i := 1) rfl, Or.inl rfl⟩
theorem kv_X12_rest_X12_allStopped : KV RX12 wsX12_rest (rmz 9) 388 RX12 yX12_allStopped wsX12_allStopped (rmz 8) 3 := ⟨_, _, _, _, gX12_rest_X12_allStopped, rfl, by decide +kernel, by decide +kernel⟩
noncomputable def K_X12_rest (l : Launch) (V : Vx) (a1 : Int32) (a2 : Int32) (σ : Sg) (Qk : Int32 → Sg → Prop) : Prop := Ka l V yX12_rest wsX12_rest (rmz 9) 0 0 [.ref 74, .int a1, .int a2] σ (QI V Qk)
theorem e_X12_rest {l : Launch} {V : Vx} {a1 : Int32} {a2 : Int32} {σ : Sg} {Qk : Int32 → Sg → Prop} (h : ∀ M : Mx, mL M = l → mV M = V → mN M = 7 → Cx M cX12_rest (some .int) RX12 wsX12_rest (rmz 9) 0 0 (QI (mV M) Qk) → PS M 0 [(0, .ref 74), (1, .int a1), (2, .int a2)] [] σ (0, 0)) : K_X12_rest l V a1 a2 σ Qk :=
  Ka_of (by decide +kernel) rfl rfl (Nat.le_of_ble_eq_true rfl) (fun M h1 h2 h3 C => h M h1 h2 h3 (by rw [h2]; exact C))
set_option maxRecDepth 100000 in
set_option maxHeartbeats 4000000 in
theorem s_X12_rest_0 {M : Mx} {Qk : Int32 → Sg → Prop} (C : Cx M cX12_rest (some .int) RX12 wsX12_rest (rmz 9) 0 0 (QI (mV M) Qk)) (hN : mN M = 7) {a1 : Int32} {a2 : Int32} {σ : Sg} (h : K_X12_in (mL M) (mV M) a2 (0 : Int32) (1 : Int32) σ (fun r2 σ1 => ((¬ r2 = 0 → K_X12_in (mL M) (mV M) a1 (1 : Int32) (60 : Int32) σ1 (fun r5 σ4 => ((¬ r5 = 0 → K_X12_allBehind (mL M) (mV M) a1 σ4 (fun r8 σ7 => PS M 39 [(0, .ref 74), (1, .int a1), (2, .int a2), (3, .int r8), (4, .int (-5 : Int32)), (5, .int (0 : Int32))] [] σ7 (0, 0))) ∧ (r5 = 0 → Qk (-2 : Int32) σ4)))) ∧ (r2 = 0 → Qk (-1 : Int32) σ1)))) : PS M 0 [(0, .ref 74), (1, .int a1), (2, .int a2)] [] σ (0, 0) := by
  refine P_aload_n C dX12_rest_0 0 rfl ?_
  refine P_iload_n C dX12_rest_1 2 rfl ?_
  refine P_iconst C dX12_rest_2 (v := (0 : Int32)) rfl ?_
  refine P_iconst C dX12_rest_3 (v := (1 : Int32)) rfl ?_
  refine P_ci (R_v (ci := 12) C kv_X12_rest_X12_in (As := [.int a2, .int (0 : Int32), .int (1 : Int32)]) rfl kd_74 rfl (fxl fx_74) (Nat.le_of_ble_eq_true rfl) dX12_rest_4 ⟨Nat.le_refl _, Nat.le_refl _⟩ h) (fun r2 σ1 h => ?_)
  refine P_if_ne C dX12_rest_7 (tgt := 12) (by decide +kernel) (fun q3 => ?_) (fun q3 => ?_)
  · have h := h.1 q3
    refine P_aload_n C dX12_rest_12 0 rfl ?_
    refine P_iload_n C dX12_rest_13 1 rfl ?_
    refine P_iconst C dX12_rest_14 (v := (1 : Int32)) rfl ?_
    refine P_bipush C dX12_rest_15 (v := (60 : Int32)) rfl ?_
    refine P_ci (R_v (ci := 12) C kv_X12_rest_X12_in (As := [.int a1, .int (1 : Int32), .int (60 : Int32)]) rfl kd_74 rfl (fxl fx_74) (Nat.le_of_ble_eq_true rfl) dX12_rest_17 ⟨Nat.le_refl _, Nat.le_refl _⟩ h) (fun r5 σ4 h => ?_)
    refine P_if_ne C dX12_rest_20 (tgt := 26) (by decide +kernel) (fun q6 => ?_) (fun q6 => ?_)
    · have h := h.1 q6
      refine P_aload_n C dX12_rest_26 0 rfl ?_
      refine P_iload_n C dX12_rest_27 1 rfl ?_
      refine P_ci (R_v (ci := 12) C kv_X12_rest_X12_allBehind (As := [.int a1]) rfl kd_74 rfl (fxl fx_74) (Nat.le_of_ble_eq_true rfl) dX12_rest_28 ⟨Nat.le_refl _, Nat.le_refl _⟩ h) (fun r8 σ7 h => ?_)
      refine P_istore_n C dX12_rest_31 (by rw [hN]; decide) rfl ?_
      refine P_bipush C dX12_rest_32 (v := (-5 : Int32)) rfl ?_
      refine P_istore C dX12_rest_34 (by rw [hN]; decide) rfl ?_
      refine P_iconst C dX12_rest_36 (v := (0 : Int32)) rfl ?_
      refine P_istore C dX12_rest_37 (by rw [hN]; decide) rfl ?_
      exact P_sub [3, 4, 5, 2, 1, 0] rfl h
    · have h := h.2 q6
      refine P_bipush C dX12_rest_23 (v := (-2 : Int32)) rfl ?_
      exact P_iret C dX12_rest_25 h
  · have h := h.2 q3
    refine P_iconst C dX12_rest_10 (v := (-1 : Int32)) rfl ?_
    exact P_iret C dX12_rest_11 h
set_option maxRecDepth 100000 in
set_option maxHeartbeats 4000000 in
theorem s_X12_rest_39 {M : Mx} {Qk : Int32 → Sg → Prop} (C : Cx M cX12_rest (some .int) RX12 wsX12_rest (rmz 9) 0 0 (QI (mV M) Qk)) (hN : mN M = 7) {x1 : Int32} {x2 : Int32} {x3 : Int32} {x4 : Int32} {x5 : Int32} {σ : Sg} (h : (((gi σ 74 0) ≤ x5 → ((x4 < 0 → Qk x4 σ) ∧ (¬ x4 < 0 → ((¬ x2 = 0 → Qk x3 σ) ∧ (x2 = 0 → Qk x4 σ))))) ∧ (¬ (gi σ 74 0) ≤ x5 → K_X12_allStopped (mL M) (mV M) x5 (5 : Int32) x1 σ (fun r5 σ4 => ((x3 < r5 → (∀ v7 : Int32, v7 = x5 + 1 → PS M 39 [(0, .ref 74), (1, .int x1), (2, .int x2), (3, .int r5), (4, .int x5), (5, .int v7)] [] σ4 (0, 0))) ∧ (¬ x3 < r5 → (∀ v8 : Int32, v8 = x5 + 1 → PS M 39 [(0, .ref 74), (1, .int x1), (2, .int x2), (3, .int x3), (4, .int x4), (5, .int v8)] [] σ4 (0, 0)))))))) : PS M 39 [(0, .ref 74), (1, .int x1), (2, .int x2), (3, .int x3), (4, .int x4), (5, .int x5)] [] σ (0, 0) := by
  refine P_iload C dX12_rest_39 5 rfl ?_
  refine P_aload_n C dX12_rest_41 0 rfl ?_
  refine P_getI C fa_X12_rest_7 kd_74 rfl (fxl fx_74) dX12_rest_42 ?_
  refine P_icmp_ge C dX12_rest_45 (tgt := 80) (by decide +kernel) (fun q1 => ?_) (fun q1 => ?_)
  · have h := h.1 q1
    refine P_iload C dX12_rest_80 4 rfl ?_
    refine P_if_lt C dX12_rest_82 (tgt := 89) (by decide +kernel) (fun q2 => ?_) (fun q2 => ?_)
    · have h := h.1 q2
      refine P_iload C dX12_rest_89 4 rfl ?_
      refine P_goto C dX12_rest_91 (tgt := 95) (by decide +kernel) ?_
      exact P_iret C dX12_rest_95 h
    · have h := h.2 q2
      refine P_iload_n C dX12_rest_85 2 rfl ?_
      refine P_if_ne C dX12_rest_86 (tgt := 94) (by decide +kernel) (fun q3 => ?_) (fun q3 => ?_)
      · have h := h.1 q3
        refine P_iload_n C dX12_rest_94 3 rfl ?_
        exact P_iret C dX12_rest_95 h
      · have h := h.2 q3
        refine P_iload C dX12_rest_89 4 rfl ?_
        refine P_goto C dX12_rest_91 (tgt := 95) (by decide +kernel) ?_
        exact P_iret C dX12_rest_95 h
  · have h := h.2 q1
    refine P_aload_n C dX12_rest_48 0 rfl ?_
    refine P_iload C dX12_rest_49 5 rfl ?_
    refine P_iconst C dX12_rest_51 (v := (5 : Int32)) rfl ?_
    refine P_iload_n C dX12_rest_52 1 rfl ?_
    refine P_ci (R_v (ci := 12) C kv_X12_rest_X12_allStopped (As := [.int x5, .int (5 : Int32), .int x1]) rfl kd_74 rfl (fxl fx_74) (Nat.le_of_ble_eq_true rfl) dX12_rest_53 ⟨Nat.le_refl _, Nat.le_refl _⟩ h) (fun r5 σ4 h => ?_)
    refine P_istore C dX12_rest_56 (by rw [hN]; decide) rfl ?_
    refine P_iload C dX12_rest_58 0 rfl ?_
    refine P_iload_n C dX12_rest_60 4 rfl ?_
    refine P_icmp_gt C dX12_rest_61 (tgt := 67) (by decide +kernel) (fun q6 => ?_) (fun q6 => ?_)
    · have h := h.1 q6
      refine P_iload C dX12_rest_67 6 rfl ?_
      refine P_istore C dX12_rest_69 (by rw [hN]; decide) rfl ?_
      refine P_iload C dX12_rest_71 1 rfl ?_
      refine P_istore_n C dX12_rest_73 (by rw [hN]; decide) rfl ?_
      obtain ⟨v7, ev7⟩ : ∃ v : Int32, v = x5 + 1 := ⟨_, rfl⟩
      have h := h v7 ev7
      refine P_iinc (v := v7) C dX12_rest_74 6 rfl (by rw [ev7]; rfl) (by rw [hN]; decide) rfl ?_
      refine P_goto C dX12_rest_77 (tgt := 39) (by decide +kernel) ?_
      exact P_sub [4, 5, 6, 1, 2, 0] rfl h
    · have h := h.2 q6
      refine P_goto C dX12_rest_64 (tgt := 74) (by decide +kernel) ?_
      obtain ⟨v8, ev8⟩ : ∃ v : Int32, v = x5 + 1 := ⟨_, rfl⟩
      have h := h v8 ev8
      refine P_iinc (v := v8) C dX12_rest_74 6 rfl (by rw [ev8]; rfl) (by rw [hN]; decide) rfl ?_
      refine P_goto C dX12_rest_77 (tgt := 39) (by decide +kernel) ?_
      exact P_sub [2, 3, 4, 5, 6, 0] rfl h
theorem fa_X12_who_7 : FA RX12 wsX12_who 7 12 0 "NineMowersModel" := by
  show _ ∧ _ ∧ _ ∧ _
  exact ⟨by decide +kernel, fun _ h => List.mem_cons_of_mem _ (List.mem_append_right _ h), List.mem_of_getElem? (i := 1) rfl, Or.inl rfl⟩
theorem fa_X12_who_135 : FA RX12 wsX12_who 135 12 41 "NineMowersModel" := by
  show _ ∧ _ ∧ _ ∧ _
  exact ⟨by decide +kernel, fun _ h => List.mem_cons_of_mem _ (List.mem_append_right _ h), List.mem_of_getElem? (i := 2) rfl, Or.inl rfl⟩
theorem kv_X12_who_X12_isSeen : KV RX12 wsX12_who (rmz 9) 391 RX12 yX12_isSeen wsX12_isSeen (rmz 8) 2 := ⟨_, _, _, _, gX12_who_X12_isSeen, rfl, by decide +kernel, by decide +kernel⟩
noncomputable def K_X12_who (l : Launch) (V : Vx) (σ : Sg) (Qk : Int32 → Sg → Prop) : Prop := Ka l V yX12_who wsX12_who (rmz 9) 0 0 [.ref 74] σ (QI V Qk)
theorem e_X12_who {l : Launch} {V : Vx} {σ : Sg} {Qk : Int32 → Sg → Prop} (h : ∀ M : Mx, mL M = l → mV M = V → mN M = 5 → Cx M cX12_who (some .int) RX12 wsX12_who (rmz 9) 0 0 (QI (mV M) Qk) → PS M 0 [(0, .ref 74)] [] σ (0, 0)) : K_X12_who l V σ Qk :=
  Ka_of (by decide +kernel) rfl rfl (Nat.le_of_ble_eq_true rfl) (fun M h1 h2 h3 C => h M h1 h2 h3 (by rw [h2]; exact C))
set_option maxRecDepth 100000 in
set_option maxHeartbeats 4000000 in
theorem s_X12_who_0 {M : Mx} {Qk : Int32 → Sg → Prop} (C : Cx M cX12_who (some .int) RX12 wsX12_who (rmz 9) 0 0 (QI (mV M) Qk)) (hN : mN M = 5) {σ : Sg} (h : PS M 4 [(0, .ref 74), (1, .int (0 : Int32)), (2, .int (0 : Int32))] [] σ (0, 0)) : PS M 0 [(0, .ref 74)] [] σ (0, 0) := by
  refine P_iconst C dX12_who_0 (v := (0 : Int32)) rfl ?_
  refine P_istore_n C dX12_who_1 (by rw [hN]; decide) rfl ?_
  refine P_iconst C dX12_who_2 (v := (0 : Int32)) rfl ?_
  refine P_istore_n C dX12_who_3 (by rw [hN]; decide) rfl ?_
  exact P_sub [2, 1, 0] rfl h
set_option maxRecDepth 100000 in
set_option maxHeartbeats 4000000 in
theorem s_X12_who_4 {M : Mx} {Qk : Int32 → Sg → Prop} (C : Cx M cX12_who (some .int) RX12 wsX12_who (rmz 9) 0 0 (QI (mV M) Qk)) (hN : mN M = 5) {x1 : Int32} {x2 : Int32} {σ : Sg} (h : (((gi σ 74 0) ≤ x2 → Qk x1 σ) ∧ (¬ (gi σ 74 0) ≤ x2 → PS M 17 [(0, .ref 74), (1, .int x1), (2, .int x2), (3, .int (1 : Int32)), (4, .int (0 : Int32))] [] σ (0, 0)))) : PS M 4 [(0, .ref 74), (1, .int x1), (2, .int x2)] [] σ (0, 0) := by
  refine P_iload_n C dX12_who_4 2 rfl ?_
  refine P_aload_n C dX12_who_5 0 rfl ?_
  refine P_getI C fa_X12_who_7 kd_74 rfl (fxl fx_74) dX12_who_6 ?_
  refine P_icmp_ge C dX12_who_9 (tgt := 64) (by decide +kernel) (fun q1 => ?_) (fun q1 => ?_)
  · have h := h.1 q1
    refine P_iload_n C dX12_who_64 1 rfl ?_
    exact P_iret C dX12_who_65 h
  · have h := h.2 q1
    refine P_iconst C dX12_who_12 (v := (1 : Int32)) rfl ?_
    refine P_istore_n C dX12_who_13 (by rw [hN]; decide) rfl ?_
    refine P_iconst C dX12_who_14 (v := (0 : Int32)) rfl ?_
    refine P_istore C dX12_who_15 (by rw [hN]; decide) rfl ?_
    exact P_sub [2, 3, 4, 1, 0] rfl h
set_option maxRecDepth 100000 in
set_option maxHeartbeats 4000000 in
theorem s_X12_who_17 {M : Mx} {Qk : Int32 → Sg → Prop} (C : Cx M cX12_who (some .int) RX12 wsX12_who (rmz 9) 0 0 (QI (mV M) Qk)) (hN : mN M = 5) {x1 : Int32} {x2 : Int32} {x3 : Int32} {x4 : Int32} {σ : Sg} (h : (((gi σ 74 41) ≤ x4 → PS M 44 [(0, .ref 74), (1, .int x1), (2, .int x2), (3, .int x3)] [] σ (0, 0)) ∧ (¬ (gi σ 74 41) ≤ x4 → ((x3 = 0 → PS M 44 [(0, .ref 74), (1, .int x1), (2, .int x2), (3, .int x3)] [] σ (0, 0)) ∧ (¬ x3 = 0 → K_X12_isSeen (mL M) (mV M) x2 x4 σ (fun r4 σ3 => (∀ v5 : Int32, v5 = x4 + 1 → PS M 17 [(0, .ref 74), (1, .int x1), (2, .int x2), (3, .int r4), (4, .int v5)] [] σ3 (0, 0)))))))) : PS M 17 [(0, .ref 74), (1, .int x1), (2, .int x2), (3, .int x3), (4, .int x4)] [] σ (0, 0) := by
  refine P_iload C dX12_who_17 4 rfl ?_
  refine P_aload_n C dX12_who_19 0 rfl ?_
  refine P_getI C fa_X12_who_135 kd_74 rfl (fxl fx_74) dX12_who_20 ?_
  refine P_icmp_ge C dX12_who_23 (tgt := 44) (by decide +kernel) (fun q1 => ?_) (fun q1 => ?_)
  · have h := h.1 q1
    exact P_sub [0, 1, 2, 3] rfl h
  · have h := h.2 q1
    refine P_iload_n C dX12_who_26 3 rfl ?_
    refine P_if_eq C dX12_who_27 (tgt := 44) (by decide +kernel) (fun q2 => ?_) (fun q2 => ?_)
    · have h := h.1 q2
      exact P_sub [0, 1, 2, 3] rfl h
    · have h := h.2 q2
      refine P_aload_n C dX12_who_30 0 rfl ?_
      refine P_iload_n C dX12_who_31 2 rfl ?_
      refine P_iload C dX12_who_32 4 rfl ?_
      refine P_ci (R_v (ci := 12) C kv_X12_who_X12_isSeen (As := [.int x2, .int x4]) rfl kd_74 rfl (fxl fx_74) (Nat.le_of_ble_eq_true rfl) dX12_who_34 ⟨Nat.le_refl _, Nat.le_refl _⟩ h) (fun r4 σ3 h => ?_)
      refine P_istore_n C dX12_who_37 (by rw [hN]; decide) rfl ?_
      obtain ⟨v5, ev5⟩ : ∃ v : Int32, v = x4 + 1 := ⟨_, rfl⟩
      have h := h v5 ev5
      refine P_iinc (v := v5) C dX12_who_38 4 rfl (by rw [ev5]; rfl) (by rw [hN]; decide) rfl ?_
      refine P_goto C dX12_who_41 (tgt := 17) (by decide +kernel) ?_
      exact P_sub [2, 3, 4, 1, 0] rfl h
set_option maxRecDepth 100000 in
set_option maxHeartbeats 4000000 in
theorem s_X12_who_44 {M : Mx} {Qk : Int32 → Sg → Prop} (C : Cx M cX12_who (some .int) RX12 wsX12_who (rmz 9) 0 0 (QI (mV M) Qk)) (hN : mN M = 5) {x1 : Int32} {x2 : Int32} {x3 : Int32} {σ : Sg} (h : ((x3 = 0 → (∀ v2 : Int32, v2 = x1 ||| (0 : Int32) → (∀ v3 : Int32, v3 = x2 + 1 → PS M 4 [(0, .ref 74), (1, .int v2), (2, .int v3)] [] σ (0, 0)))) ∧ (¬ x3 = 0 → (∀ v4 : Int32, v4 = x1 ||| ((1 : Int32) <<< (x2 &&& 31)) → (∀ v5 : Int32, v5 = x2 + 1 → PS M 4 [(0, .ref 74), (1, .int v4), (2, .int v5)] [] σ (0, 0)))))) : PS M 44 [(0, .ref 74), (1, .int x1), (2, .int x2), (3, .int x3)] [] σ (0, 0) := by
  refine P_iload_n C dX12_who_44 1 rfl ?_
  refine P_iload_n C dX12_who_45 3 rfl ?_
  refine P_if_eq C dX12_who_46 (tgt := 55) (by decide +kernel) (fun q1 => ?_) (fun q1 => ?_)
  · have h := h.1 q1
    refine P_iconst C dX12_who_55 (v := (0 : Int32)) rfl ?_
    refine P_ior C dX12_who_56 ?_
    refine P_nmi (fun v2 ev2 => ?_)
    have h := h v2 ev2
    refine P_istore_n C dX12_who_57 (by rw [hN]; decide) rfl ?_
    obtain ⟨v3, ev3⟩ : ∃ v : Int32, v = x2 + 1 := ⟨_, rfl⟩
    have h := h v3 ev3
    refine P_iinc (v := v3) C dX12_who_58 2 rfl (by rw [ev3]; rfl) (by rw [hN]; decide) rfl ?_
    refine P_goto C dX12_who_61 (tgt := 4) (by decide +kernel) ?_
    exact P_sub [2, 1, 0] rfl h
  · have h := h.2 q1
    refine P_iconst C dX12_who_49 (v := (1 : Int32)) rfl ?_
    refine P_iload_n C dX12_who_50 2 rfl ?_
    refine P_ishl C dX12_who_51 ?_
    refine P_goto C dX12_who_52 (tgt := 56) (by decide +kernel) ?_
    refine P_ior C dX12_who_56 ?_
    refine P_nmi (fun v4 ev4 => ?_)
    have h := h v4 ev4
    refine P_istore_n C dX12_who_57 (by rw [hN]; decide) rfl ?_
    obtain ⟨v5, ev5⟩ : ∃ v : Int32, v = x2 + 1 := ⟨_, rfl⟩
    have h := h v5 ev5
    refine P_iinc (v := v5) C dX12_who_58 2 rfl (by rw [ev5]; rfl) (by rw [hN]; decide) rfl ?_
    refine P_goto C dX12_who_61 (tgt := 4) (by decide +kernel) ?_
    exact P_sub [2, 1, 0] rfl h
theorem kv_X12_mean_X12_in : KV RX12 wsX12_mean (rmz 9) 239 RX12 yX12_in wsX12_in (rmz 0) 3 := ⟨_, _, _, _, gX12_mean_X12_in, rfl, by decide +kernel, by decide +kernel⟩
theorem fa_X12_mean_7 : FA RX12 wsX12_mean 7 12 0 "NineMowersModel" := by
  show _ ∧ _ ∧ _ ∧ _
  exact ⟨by decide +kernel, fun _ h => List.mem_cons_of_mem _ (List.mem_append_right _ h), List.mem_of_getElem? (i := 1) rfl, Or.inl rfl⟩
theorem kv_X12_mean_X12_allBehind : KV RX12 wsX12_mean (rmz 9) 380 RX12 yX12_allBehind wsX12_allBehind (rmz 8) 1 := ⟨_, _, _, _, gX12_mean_X12_allBehind, rfl, by decide +kernel, by decide +kernel⟩
theorem kv_X12_mean_X12_lowest : KV RX12 wsX12_mean (rmz 9) 399 RX12 yX12_lowest wsX12_lowest (rmz 1) 3 := ⟨_, _, _, _, gX12_mean_X12_lowest, rfl, by decide +kernel, by decide +kernel⟩
noncomputable def K_X12_mean (l : Launch) (V : Vx) (a1 : Int32) (a2 : Int32) (σ : Sg) (Qk : Int64 → Sg → Prop) : Prop := Ka l V yX12_mean wsX12_mean (rmz 9) 0 0 [.ref 74, .int a1, .int a2] σ (QL V Qk)
theorem e_X12_mean {l : Launch} {V : Vx} {a1 : Int32} {a2 : Int32} {σ : Sg} {Qk : Int64 → Sg → Prop} (h : ∀ M : Mx, mL M = l → mV M = V → mN M = 3 → Cx M cX12_mean (some .long) RX12 wsX12_mean (rmz 9) 0 0 (QL (mV M) Qk) → PS M 0 [(0, .ref 74), (1, .int a1), (2, .int a2)] [] σ (0, 0)) : K_X12_mean l V a1 a2 σ Qk :=
  Ka_of (by decide +kernel) rfl rfl (Nat.le_of_ble_eq_true rfl) (fun M h1 h2 h3 C => h M h1 h2 h3 (by rw [h2]; exact C))
set_option maxRecDepth 100000 in
set_option maxHeartbeats 4000000 in
theorem s_X12_mean_0 {M : Mx} {Qk : Int64 → Sg → Prop} (C : Cx M cX12_mean (some .long) RX12 wsX12_mean (rmz 9) 0 0 (QL (mV M) Qk)) (hN : mN M = 3) {a1 : Int32} {a2 : Int32} {σ : Sg} (h : K_X12_in (mL M) (mV M) a1 (1 : Int32) (60 : Int32) σ (fun r2 σ1 => ((r2 = 0 → Qk (-9223372036854775808 : Int64) σ1) ∧ (¬ r2 = 0 → K_X12_in (mL M) (mV M) a2 (0 : Int32) (1 : Int32) σ1 (fun r5 σ4 => ((r5 = 0 → Qk (-9223372036854775808 : Int64) σ4) ∧ (¬ r5 = 0 → ((¬ (gi σ4 74 0) = 0 → K_X12_allBehind (mL M) (mV M) a1 σ4 (fun r9 σ8 => K_X12_lowest (mL M) (mV M) r9 (gi σ8 74 0) a2 σ8 (fun r11 σ10 => Qk r11 σ10))) ∧ ((gi σ4 74 0) = 0 → Qk (-9223372036854775808 : Int64) σ4))))))))) : PS M 0 [(0, .ref 74), (1, .int a1), (2, .int a2)] [] σ (0, 0) := by
  refine P_aload_n C dX12_mean_0 0 rfl ?_
  refine P_iload_n C dX12_mean_1 1 rfl ?_
  refine P_iconst C dX12_mean_2 (v := (1 : Int32)) rfl ?_
  refine P_bipush C dX12_mean_3 (v := (60 : Int32)) rfl ?_
  refine P_ci (R_v (ci := 12) C kv_X12_mean_X12_in (As := [.int a1, .int (1 : Int32), .int (60 : Int32)]) rfl kd_74 rfl (fxl fx_74) (Nat.le_of_ble_eq_true rfl) dX12_mean_5 ⟨Nat.le_refl _, Nat.le_refl _⟩ h) (fun r2 σ1 h => ?_)
  refine P_if_eq C dX12_mean_8 (tgt := 28) (by decide +kernel) (fun q3 => ?_) (fun q3 => ?_)
  · have h := h.1 q3
    refine P_ldc2 C (v := (-9223372036854775808 : Int64)) (List.mem_of_getElem? (i := 2) rfl) dX12_mean_28 ?_
    refine P_goto C dX12_mean_31 (tgt := 48) (by decide +kernel) ?_
    exact P_lret C dX12_mean_48 h
  · have h := h.2 q3
    refine P_aload_n C dX12_mean_11 0 rfl ?_
    refine P_iload_n C dX12_mean_12 2 rfl ?_
    refine P_iconst C dX12_mean_13 (v := (0 : Int32)) rfl ?_
    refine P_iconst C dX12_mean_14 (v := (1 : Int32)) rfl ?_
    refine P_ci (R_v (ci := 12) C kv_X12_mean_X12_in (As := [.int a2, .int (0 : Int32), .int (1 : Int32)]) rfl kd_74 rfl (fxl fx_74) (Nat.le_of_ble_eq_true rfl) dX12_mean_15 ⟨Nat.le_refl _, Nat.le_refl _⟩ h) (fun r5 σ4 h => ?_)
    refine P_if_eq C dX12_mean_18 (tgt := 28) (by decide +kernel) (fun q6 => ?_) (fun q6 => ?_)
    · have h := h.1 q6
      refine P_ldc2 C (v := (-9223372036854775808 : Int64)) (List.mem_of_getElem? (i := 2) rfl) dX12_mean_28 ?_
      refine P_goto C dX12_mean_31 (tgt := 48) (by decide +kernel) ?_
      exact P_lret C dX12_mean_48 h
    · have h := h.2 q6
      refine P_aload_n C dX12_mean_21 0 rfl ?_
      refine P_getI C fa_X12_mean_7 kd_74 rfl (fxl fx_74) dX12_mean_22 ?_
      refine P_if_ne C dX12_mean_25 (tgt := 34) (by decide +kernel) (fun q7 => ?_) (fun q7 => ?_)
      · have h := h.1 q7
        refine P_aload_n C dX12_mean_34 0 rfl ?_
        refine P_aload_n C dX12_mean_35 0 rfl ?_
        refine P_iload_n C dX12_mean_36 1 rfl ?_
        refine P_ci (R_v (ci := 12) C kv_X12_mean_X12_allBehind (As := [.int a1]) rfl kd_74 rfl (fxl fx_74) (Nat.le_of_ble_eq_true rfl) dX12_mean_37 ⟨Nat.le_refl _, Nat.le_refl _⟩ h) (fun r9 σ8 h => ?_)
        refine P_aload_n C dX12_mean_40 0 rfl ?_
        refine P_getI C fa_X12_mean_7 kd_74 rfl (fxl fx_74) dX12_mean_41 ?_
        refine P_iload_n C dX12_mean_44 2 rfl ?_
        refine P_cl (R_v (ci := 12) C kv_X12_mean_X12_lowest (As := [.int r9, .int (gi σ8 74 0), .int a2]) rfl kd_74 rfl (fxl fx_74) (Nat.le_of_ble_eq_true rfl) dX12_mean_45 ⟨Nat.le_refl _, Nat.le_refl _⟩ h) (fun r11 σ10 h => ?_)
        exact P_lret C dX12_mean_48 h
      · have h := h.2 q7
        refine P_ldc2 C (v := (-9223372036854775808 : Int64)) (List.mem_of_getElem? (i := 2) rfl) dX12_mean_28 ?_
        refine P_goto C dX12_mean_31 (tgt := 48) (by decide +kernel) ?_
        exact P_lret C dX12_mean_48 h
