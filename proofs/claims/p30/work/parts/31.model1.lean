theorem kv_X12_lowest_X12_divisor : KV RX12 wsX12_lowest (rmz 1) 394 RX12 yX12_divisor wsX12_divisor (rmz 0) 2 := ⟨_, _, _, _, gX12_lowest_X12_divisor, rfl, by decide +kernel, by decide +kernel⟩
noncomputable def K_X12_lowest (l : Launch) (V : Vx) (a1 : Int32) (a2 : Int32) (a3 : Int32) (σ : Sg) (Qk : Int64 → Sg → Prop) : Prop := Ka l V yX12_lowest wsX12_lowest (rmz 1) 0 0 [.ref 74, .int a1, .int a2, .int a3] σ (QL V Qk)
theorem e_X12_lowest {l : Launch} {V : Vx} {a1 : Int32} {a2 : Int32} {a3 : Int32} {σ : Sg} {Qk : Int64 → Sg → Prop} (h : ∀ M : Mx, mL M = l → mV M = V → mN M = 5 → Cx M cX12_lowest (some .long) RX12 wsX12_lowest (rmz 1) 0 0 (QL (mV M) Qk) → PS M 0 [(0, .ref 74), (1, .int a1), (2, .int a2), (3, .int a3)] [] σ (0, 0)) : K_X12_lowest l V a1 a2 a3 σ Qk :=
  Ka_of (by decide +kernel) rfl rfl (Nat.le_of_ble_eq_true rfl) (fun M h1 h2 h3 C => h M h1 h2 h3 (by rw [h2]; exact C))
set_option maxRecDepth 100000 in
set_option maxHeartbeats 4000000 in
theorem s_X12_lowest_0 {M : Mx} {Qk : Int64 → Sg → Prop} (C : Cx M cX12_lowest (some .long) RX12 wsX12_lowest (rmz 1) 0 0 (QL (mV M) Qk)) (hN : mN M = 5) {a1 : Int32} {a2 : Int32} {a3 : Int32} {σ : Sg} (h : K_X12_divisor (mL M) (mV M) a1 a2 σ (fun r2 σ1 => ((¬ a3 = 0 → (¬ r2 = 0 ∧ Qk ((a2 / r2).toInt64) σ1)) ∧ (a3 = 0 → (¬ r2 = 0 ∧ Qk ((a1 / r2).toInt64) σ1))))) : PS M 0 [(0, .ref 74), (1, .int a1), (2, .int a2), (3, .int a3)] [] σ (0, 0) := by
  refine P_aload_n C dX12_lowest_0 0 rfl ?_
  refine P_iload_n C dX12_lowest_1 1 rfl ?_
  refine P_iload_n C dX12_lowest_2 2 rfl ?_
  refine P_ci (R_v (ci := 12) C kv_X12_lowest_X12_divisor (As := [.int a1, .int a2]) rfl kd_74 rfl (fxl fx_74) (Nat.le_of_ble_eq_true rfl) dX12_lowest_3 ⟨Nat.le_refl _, Nat.le_refl _⟩ h) (fun r2 σ1 h => ?_)
  refine P_istore C dX12_lowest_6 (by rw [hN]; decide) rfl ?_
  refine P_iload_n C dX12_lowest_8 4 rfl ?_
  refine P_if_ne C dX12_lowest_9 (tgt := 20) (by decide +kernel) (fun q3 => ?_) (fun q3 => ?_)
  · have h := h.1 q3
    refine P_iload_n C dX12_lowest_20 3 rfl ?_
    refine P_iload C dX12_lowest_21 0 rfl ?_
    obtain ⟨hz4, h⟩ := h
    refine P_idiv C dX12_lowest_23 hz4 ?_
    refine P_i2l C dX12_lowest_24 ?_
    exact P_lret C dX12_lowest_25 h
  · have h := h.2 q3
    refine P_iload_n C dX12_lowest_12 2 rfl ?_
    refine P_iload C dX12_lowest_13 0 rfl ?_
    obtain ⟨hz5, h⟩ := h
    refine P_idiv C dX12_lowest_15 hz5 ?_
    refine P_i2l C dX12_lowest_16 ?_
    refine P_goto C dX12_lowest_17 (tgt := 25) (by decide +kernel) ?_
    exact P_lret C dX12_lowest_25 h
theorem kv_X12_plan_X12_in : KV RX12 wsX12_plan (rmz 1) 239 RX12 yX12_in wsX12_in (rmz 0) 3 := ⟨_, _, _, _, gX12_plan_X12_in, rfl, by decide +kernel, by decide +kernel⟩
theorem fa_X12_plan_147 : FA RX12 wsX12_plan 147 12 45 "NineMowersModel" := by
  show _ ∧ _ ∧ _ ∧ _
  exact ⟨by decide +kernel, fun _ h => List.mem_cons_of_mem _ (List.mem_append_right _ h), List.mem_of_getElem? (i := 1) rfl, Or.inl rfl⟩
theorem fa_X12_plan_153 : FA RX12 wsX12_plan 153 12 47 "NineMowersModel" := by
  show _ ∧ _ ∧ _ ∧ _
  exact ⟨by decide +kernel, fun _ h => List.mem_cons_of_mem _ (List.mem_append_right _ h), List.mem_of_getElem? (i := 2) rfl, Or.inl rfl⟩
theorem pa_X12_plan_147 : PA RX12 wsX12_plan 147 12 45 "NineMowersModel" .int := by
  show _ ∧ _ ∧ _ ∧ _ ∧ _ ∧ _ ∧ _ ∧ _
  exact ⟨by decide +kernel, fun _ h => List.mem_cons_of_mem _ (List.mem_append_right _ h), List.mem_of_getElem? (i := 1) rfl, rfl, rfl, by decide +kernel, ⟨tyX12, tyX12_ok⟩, nmX12⟩
noncomputable def K_X12_plan (l : Launch) (V : Vx) (a1 : Int32) (σ : Sg) (Qk : Int32 → Sg → Prop) : Prop := Ka l V yX12_plan wsX12_plan (rmz 1) 0 0 [.ref 74, .int a1] σ (QI V Qk)
theorem e_X12_plan {l : Launch} {V : Vx} {a1 : Int32} {σ : Sg} {Qk : Int32 → Sg → Prop} (h : ∀ M : Mx, mL M = l → mV M = V → mN M = 2 → Cx M cX12_plan (some .int) RX12 wsX12_plan (rmz 1) 0 0 (QI (mV M) Qk) → PS M 0 [(0, .ref 74), (1, .int a1)] [] σ (0, 0)) : K_X12_plan l V a1 σ Qk :=
  Ka_of (by decide +kernel) rfl rfl (Nat.le_of_ble_eq_true rfl) (fun M h1 h2 h3 C => h M h1 h2 h3 (by rw [h2]; exact C))
set_option maxRecDepth 100000 in
set_option maxHeartbeats 4000000 in
theorem s_X12_plan_0 {M : Mx} {Qk : Int32 → Sg → Prop} (C : Cx M cX12_plan (some .int) RX12 wsX12_plan (rmz 1) 0 0 (QI (mV M) Qk)) (hN : mN M = 2) {a1 : Int32} {σ : Sg} (h : ((¬ a1 = (-1 : Int32) → K_X12_in (mL M) (mV M) a1 (0 : Int32) (2 : Int32) σ (fun r3 σ2 => ((¬ r3 = 0 → ((¬ (gi σ2 74 45) = (10 : Int32) → (vp_in (gi σ2 74 45) 10 ∧ (∀ σ7 : Sg, σ7 = si σ2 147 (gi σ2 74 45).toNatClampNeg a1 → (∀ σ8 : Sg, σ8 = si σ7 74 45 ((gi σ7 74 45) + (1 : Int32)) → Qk (gi σ8 74 45) σ8)))) ∧ ((gi σ2 74 45) = (10 : Int32) → Qk (-4 : Int32) σ2))) ∧ (r3 = 0 → Qk (-1 : Int32) σ2)))) ∧ (a1 = (-1 : Int32) → (∀ σ9 : Sg, σ9 = si σ 74 45 (0 : Int32) → Qk (0 : Int32) σ9)))) : PS M 0 [(0, .ref 74), (1, .int a1)] [] σ (0, 0) := by
  refine P_iload_n C dX12_plan_0 1 rfl ?_
  refine P_iconst C dX12_plan_1 (v := (-1 : Int32)) rfl ?_
  refine P_icmp_ne C dX12_plan_2 (tgt := 12) (by decide +kernel) (fun q1 => ?_) (fun q1 => ?_)
  · have h := h.1 q1
    refine P_aload_n C dX12_plan_12 0 rfl ?_
    refine P_iload_n C dX12_plan_13 1 rfl ?_
    refine P_iconst C dX12_plan_14 (v := (0 : Int32)) rfl ?_
    refine P_iconst C dX12_plan_15 (v := (2 : Int32)) rfl ?_
    refine P_ci (R_v (ci := 12) C kv_X12_plan_X12_in (As := [.int a1, .int (0 : Int32), .int (2 : Int32)]) rfl kd_74 rfl (fxl fx_74) (Nat.le_of_ble_eq_true rfl) dX12_plan_16 ⟨Nat.le_refl _, Nat.le_refl _⟩ h) (fun r3 σ2 h => ?_)
    refine P_if_ne C dX12_plan_19 (tgt := 24) (by decide +kernel) (fun q4 => ?_) (fun q4 => ?_)
    · have h := h.1 q4
      refine P_aload_n C dX12_plan_24 0 rfl ?_
      refine P_getI C fa_X12_plan_147 kd_74 rfl (fxl fx_74) dX12_plan_25 ?_
      refine P_bipush C dX12_plan_28 (v := (10 : Int32)) rfl ?_
      refine P_icmp_ne C dX12_plan_30 (tgt := 36) (by decide +kernel) (fun q5 => ?_) (fun q5 => ?_)
      · have h := h.1 q5
        refine P_aload_n C dX12_plan_36 0 rfl ?_
        refine P_getS C (e := 147) fa_X12_plan_153 kd_74 (d := 73) rfl (fxl fx_74) rfl dX12_plan_37 ?_
        refine P_aload_n C dX12_plan_40 0 rfl ?_
        refine P_getI C fa_X12_plan_147 kd_74 rfl (fxl fx_74) dX12_plan_41 ?_
        refine P_iload_n C dX12_plan_44 1 rfl ?_
        obtain ⟨hv6, h⟩ := h
        refine P_iast C kd_147 (fxl fx_147) hv6 dX12_plan_45 ?_
        refine P_nm (fun σ7 eσ7 => ?_)
        have h := h σ7 eσ7
        refine P_aload_n C dX12_plan_46 0 rfl ?_
        refine P_dup C dX12_plan_47 rfl ?_
        refine P_getI C fa_X12_plan_147 kd_74 rfl (fxl fx_74) dX12_plan_48 ?_
        refine P_iconst C dX12_plan_51 (v := (1 : Int32)) rfl ?_
        refine P_iadd C dX12_plan_52 ?_
        refine P_putI C pa_X12_plan_147 kd_74 rfl (fxl fx_74) dX12_plan_53 ?_
        refine P_nm (fun σ8 eσ8 => ?_)
        have h := h σ8 eσ8
        refine P_aload_n C dX12_plan_56 0 rfl ?_
        refine P_getI C fa_X12_plan_147 kd_74 rfl (fxl fx_74) dX12_plan_57 ?_
        exact P_iret C dX12_plan_60 h
      · have h := h.2 q5
        refine P_bipush C dX12_plan_33 (v := (-4 : Int32)) rfl ?_
        exact P_iret C dX12_plan_35 h
    · have h := h.2 q4
      refine P_iconst C dX12_plan_22 (v := (-1 : Int32)) rfl ?_
      exact P_iret C dX12_plan_23 h
  · have h := h.2 q1
    refine P_aload_n C dX12_plan_5 0 rfl ?_
    refine P_iconst C dX12_plan_6 (v := (0 : Int32)) rfl ?_
    refine P_putI C pa_X12_plan_147 kd_74 rfl (fxl fx_74) dX12_plan_7 ?_
    refine P_nm (fun σ9 eσ9 => ?_)
    have h := h σ9 eσ9
    refine P_iconst C dX12_plan_10 (v := (0 : Int32)) rfl ?_
    exact P_iret C dX12_plan_11 h
theorem kv_X12_mowerMows_X12_body : KV RX12 wsX12_mowerMows (rmz 1) 406 RX12 yX12_body wsX12_body (rmz 0) 1 := ⟨_, _, _, _, gX12_mowerMows_X12_body, rfl, by decide +kernel, by decide +kernel⟩
noncomputable def K_X12_mowerMows (l : Launch) (V : Vx) (a1 : Int32) (a2 : Int32) (σ : Sg) (Qk : Int32 → Sg → Prop) : Prop := Ka l V yX12_mowerMows wsX12_mowerMows (rmz 1) 0 0 [.ref 74, .int a1, .int a2] σ (QI V Qk)
theorem e_X12_mowerMows {l : Launch} {V : Vx} {a1 : Int32} {a2 : Int32} {σ : Sg} {Qk : Int32 → Sg → Prop} (h : ∀ M : Mx, mL M = l → mV M = V → mN M = 3 → Cx M cX12_mowerMows (some .int) RX12 wsX12_mowerMows (rmz 1) 0 0 (QI (mV M) Qk) → PS M 0 [(0, .ref 74), (1, .int a1), (2, .int a2)] [] σ (0, 0)) : K_X12_mowerMows l V a1 a2 σ Qk :=
  Ka_of (by decide +kernel) rfl rfl (Nat.le_of_ble_eq_true rfl) (fun M h1 h2 h3 C => h M h1 h2 h3 (by rw [h2]; exact C))
set_option maxRecDepth 100000 in
set_option maxHeartbeats 4000000 in
theorem s_X12_mowerMows_0 {M : Mx} {Qk : Int32 → Sg → Prop} (C : Cx M cX12_mowerMows (some .int) RX12 wsX12_mowerMows (rmz 1) 0 0 (QI (mV M) Qk)) (hN : mN M = 3) {a1 : Int32} {a2 : Int32} {σ : Sg} (h : K_X12_body (mL M) (mV M) (10 : Int32) σ (fun σ1 => Qk (a2 + a1) σ1)) : PS M 0 [(0, .ref 74), (1, .int a1), (2, .int a2)] [] σ (0, 0) := by
  refine P_aload_n C dX12_mowerMows_0 0 rfl ?_
  refine P_bipush C dX12_mowerMows_1 (v := (10 : Int32)) rfl ?_
  refine P_cv (R_v (ci := 12) C kv_X12_mowerMows_X12_body (As := [.int (10 : Int32)]) rfl kd_74 rfl (fxl fx_74) (Nat.le_of_ble_eq_true rfl) dX12_mowerMows_3 ⟨Nat.le_refl _, Nat.le_refl _⟩ h) (fun σ1 h => ?_)
  refine P_iload_n C dX12_mowerMows_6 2 rfl ?_
  refine P_iload_n C dX12_mowerMows_7 1 rfl ?_
  refine P_iadd C dX12_mowerMows_8 ?_
  exact P_iret C dX12_mowerMows_9 h
theorem kv_X12_trace_X12_in : KV RX12 wsX12_trace (rmz 1) 239 RX12 yX12_in wsX12_in (rmz 0) 3 := ⟨_, _, _, _, gX12_trace_X12_in, rfl, by decide +kernel, by decide +kernel⟩
theorem fa_X12_trace_220 : FA RX12 wsX12_trace 220 12 69 "NineMowersModel" := by
  show _ ∧ _ ∧ _ ∧ _
  exact ⟨by decide +kernel, fun _ h => List.mem_cons_of_mem _ (List.mem_append_right _ h), List.mem_of_getElem? (i := 1) rfl, Or.inl rfl⟩
theorem fa_X12_trace_223 : FA RX12 wsX12_trace 223 12 70 "NineMowersModel" := by
  show _ ∧ _ ∧ _ ∧ _
  exact ⟨by decide +kernel, fun _ h => List.mem_cons_of_mem _ (List.mem_append_right _ h), List.mem_of_getElem? (i := 2) rfl, Or.inl rfl⟩
noncomputable def K_X12_trace (l : Launch) (V : Vx) (a1 : Int32) (σ : Sg) (Qk : Int32 → Sg → Prop) : Prop := Ka l V yX12_trace wsX12_trace (rmz 1) 0 0 [.ref 74, .int a1] σ (QI V Qk)
theorem e_X12_trace {l : Launch} {V : Vx} {a1 : Int32} {σ : Sg} {Qk : Int32 → Sg → Prop} (h : ∀ M : Mx, mL M = l → mV M = V → mN M = 2 → Cx M cX12_trace (some .int) RX12 wsX12_trace (rmz 1) 0 0 (QI (mV M) Qk) → PS M 0 [(0, .ref 74), (1, .int a1)] [] σ (0, 0)) : K_X12_trace l V a1 σ Qk :=
  Ka_of (by decide +kernel) rfl rfl (Nat.le_of_ble_eq_true rfl) (fun M h1 h2 h3 C => h M h1 h2 h3 (by rw [h2]; exact C))
set_option maxRecDepth 100000 in
set_option maxHeartbeats 4000000 in
theorem s_X12_trace_0 {M : Mx} {Qk : Int32 → Sg → Prop} (C : Cx M cX12_trace (some .int) RX12 wsX12_trace (rmz 1) 0 0 (QI (mV M) Qk)) (hN : mN M = 2) {a1 : Int32} {σ : Sg} (h : K_X12_in (mL M) (mV M) a1 (0 : Int32) (19 : Int32) σ (fun r2 σ1 => ((r2 = 0 → Qk (-1 : Int32) σ1) ∧ (¬ r2 = 0 → (((gi σ1 74 69) ≤ a1 → Qk (-1 : Int32) σ1) ∧ (¬ (gi σ1 74 69) ≤ a1 → (vp_in a1 20 ∧ Qk (gi σ1 170 a1.toNatClampNeg) σ1))))))) : PS M 0 [(0, .ref 74), (1, .int a1)] [] σ (0, 0) := by
  refine P_aload_n C dX12_trace_0 0 rfl ?_
  refine P_iload_n C dX12_trace_1 1 rfl ?_
  refine P_iconst C dX12_trace_2 (v := (0 : Int32)) rfl ?_
  refine P_bipush C dX12_trace_3 (v := (19 : Int32)) rfl ?_
  refine P_ci (R_v (ci := 12) C kv_X12_trace_X12_in (As := [.int a1, .int (0 : Int32), .int (19 : Int32)]) rfl kd_74 rfl (fxl fx_74) (Nat.le_of_ble_eq_true rfl) dX12_trace_5 ⟨Nat.le_refl _, Nat.le_refl _⟩ h) (fun r2 σ1 h => ?_)
  refine P_if_eq C dX12_trace_8 (tgt := 28) (by decide +kernel) (fun q3 => ?_) (fun q3 => ?_)
  · have h := h.1 q3
    refine P_iconst C dX12_trace_28 (v := (-1 : Int32)) rfl ?_
    exact P_iret C dX12_trace_29 h
  · have h := h.2 q3
    refine P_iload_n C dX12_trace_11 1 rfl ?_
    refine P_aload_n C dX12_trace_12 0 rfl ?_
    refine P_getI C fa_X12_trace_220 kd_74 rfl (fxl fx_74) dX12_trace_13 ?_
    refine P_icmp_ge C dX12_trace_16 (tgt := 28) (by decide +kernel) (fun q4 => ?_) (fun q4 => ?_)
    · have h := h.1 q4
      refine P_iconst C dX12_trace_28 (v := (-1 : Int32)) rfl ?_
      exact P_iret C dX12_trace_29 h
    · have h := h.2 q4
      refine P_aload_n C dX12_trace_19 0 rfl ?_
      refine P_getS C (e := 170) fa_X12_trace_223 kd_74 (d := 96) rfl (fxl fx_74) rfl dX12_trace_20 ?_
      refine P_iload_n C dX12_trace_23 1 rfl ?_
      obtain ⟨hv5, h⟩ := h
      refine P_iald C kd_170 (fxl fx_170) hv5 dX12_trace_24 ?_
      refine P_goto C dX12_trace_25 (tgt := 29) (by decide +kernel) ?_
      exact P_iret C dX12_trace_29 h
theorem kv_X12_isTape_X12_in : KV RX12 wsX12_isTape (rmz 1) 239 RX12 yX12_in wsX12_in (rmz 0) 3 := ⟨_, _, _, _, gX12_isTape_X12_in, rfl, by decide +kernel, by decide +kernel⟩
noncomputable def K_X12_isTape (l : Launch) (V : Vx) (a1 : Int32) (σ : Sg) (Qk : Int32 → Sg → Prop) : Prop := Ka l V yX12_isTape wsX12_isTape (rmz 1) 0 0 [.ref 74, .int a1] σ (QI V Qk)
theorem e_X12_isTape {l : Launch} {V : Vx} {a1 : Int32} {σ : Sg} {Qk : Int32 → Sg → Prop} (h : ∀ M : Mx, mL M = l → mV M = V → mN M = 2 → Cx M cX12_isTape (some .boolean) RX12 wsX12_isTape (rmz 1) 0 0 (QI (mV M) Qk) → PS M 0 [(0, .ref 74), (1, .int a1)] [] σ (0, 0)) : K_X12_isTape l V a1 σ Qk :=
  Ka_of (by decide +kernel) rfl rfl (Nat.le_of_ble_eq_true rfl) (fun M h1 h2 h3 C => h M h1 h2 h3 (by rw [h2]; exact C))
set_option maxRecDepth 100000 in
set_option maxHeartbeats 4000000 in
theorem s_X12_isTape_0 {M : Mx} {Qk : Int32 → Sg → Prop} (C : Cx M cX12_isTape (some .boolean) RX12 wsX12_isTape (rmz 1) 0 0 (QI (mV M) Qk)) (hN : mN M = 2) {a1 : Int32} {σ : Sg} (h : K_X12_in (mL M) (mV M) a1 (0 : Int32) (5 : Int32) σ (fun r2 σ1 => (narrow .boolean (.int r2) = .int r2 ∧ Qk r2 σ1))) : PS M 0 [(0, .ref 74), (1, .int a1)] [] σ (0, 0) := by
  refine P_aload_n C dX12_isTape_0 0 rfl ?_
  refine P_iload_n C dX12_isTape_1 1 rfl ?_
  refine P_iconst C dX12_isTape_2 (v := (0 : Int32)) rfl ?_
  refine P_iconst C dX12_isTape_3 (v := (5 : Int32)) rfl ?_
  refine P_ci (R_v (ci := 12) C kv_X12_isTape_X12_in (As := [.int a1, .int (0 : Int32), .int (5 : Int32)]) rfl kd_74 rfl (fxl fx_74) (Nat.le_of_ble_eq_true rfl) dX12_isTape_4 ⟨Nat.le_refl _, Nat.le_refl _⟩ h) (fun r2 σ1 h => ?_)
  exact P_zret C h.1 dX12_isTape_7 h.2
theorem kv_X12_set_X12_isMower : KV RX12 wsX12_set (rmz 2) 243 RX12 yX12_isMower wsX12_isMower (rmz 1) 1 := ⟨_, _, _, _, gX12_set_X12_isMower, rfl, by decide +kernel, by decide +kernel⟩
theorem kv_X12_set_X12_in : KV RX12 wsX12_set (rmz 2) 239 RX12 yX12_in wsX12_in (rmz 0) 3 := ⟨_, _, _, _, gX12_set_X12_in, rfl, by decide +kernel, by decide +kernel⟩
theorem fa_X12_set_35 : FA RX12 wsX12_set 35 12 8 "NineMowersModel" := by
  show _ ∧ _ ∧ _ ∧ _
  exact ⟨by decide +kernel, fun _ h => List.mem_cons_of_mem _ (List.mem_append_right _ h), List.mem_of_getElem? (i := 4) rfl, Or.inl rfl⟩
theorem fa_X12_set_26 : FA RX12 wsX12_set 26 12 5 "NineMowersModel" := by
  show _ ∧ _ ∧ _ ∧ _
  exact ⟨by decide +kernel, fun _ h => List.mem_cons_of_mem _ (List.mem_append_right _ h), List.mem_of_getElem? (i := 1) rfl, Or.inl rfl⟩
theorem fa_X12_set_32 : FA RX12 wsX12_set 32 12 7 "NineMowersModel" := by
  show _ ∧ _ ∧ _ ∧ _
  exact ⟨by decide +kernel, fun _ h => List.mem_cons_of_mem _ (List.mem_append_right _ h), List.mem_of_getElem? (i := 3) rfl, Or.inl rfl⟩
theorem fa_X12_set_29 : FA RX12 wsX12_set 29 12 6 "NineMowersModel" := by
  show _ ∧ _ ∧ _ ∧ _
  exact ⟨by decide +kernel, fun _ h => List.mem_cons_of_mem _ (List.mem_append_right _ h), List.mem_of_getElem? (i := 2) rfl, Or.inl rfl⟩
noncomputable def K_X12_set (l : Launch) (V : Vx) (a1 : Int32) (a2 : Int32) (a3 : Int32) (σ : Sg) (Qk : Int32 → Sg → Prop) : Prop := Ka l V yX12_set wsX12_set (rmz 2) 0 0 [.ref 74, .int a1, .int a2, .int a3] σ (QI V Qk)
theorem e_X12_set {l : Launch} {V : Vx} {a1 : Int32} {a2 : Int32} {a3 : Int32} {σ : Sg} {Qk : Int32 → Sg → Prop} (h : ∀ M : Mx, mL M = l → mV M = V → mN M = 5 → Cx M cX12_set (some .int) RX12 wsX12_set (rmz 2) 0 0 (QI (mV M) Qk) → PS M 0 [(0, .ref 74), (1, .int a1), (2, .int a2), (3, .int a3)] [] σ (0, 0)) : K_X12_set l V a1 a2 a3 σ Qk :=
  Ka_of (by decide +kernel) rfl rfl (Nat.le_of_ble_eq_true rfl) (fun M h1 h2 h3 C => h M h1 h2 h3 (by rw [h2]; exact C))
set_option maxRecDepth 100000 in
set_option maxHeartbeats 4000000 in
theorem s_X12_set_0 {M : Mx} {Qk : Int32 → Sg → Prop} (C : Cx M cX12_set (some .int) RX12 wsX12_set (rmz 2) 0 0 (QI (mV M) Qk)) (hN : mN M = 5) {a1 : Int32} {a2 : Int32} {a3 : Int32} {σ : Sg} (h : K_X12_isMower (mL M) (mV M) a1 σ (fun r2 σ1 => ((r2 = 0 → Qk (-1 : Int32) σ1) ∧ (¬ r2 = 0 → K_X12_in (mL M) (mV M) a2 (0 : Int32) (3 : Int32) σ1 (fun r5 σ4 => ((¬ r5 = 0 → ((¬ a2 = 0 → ((¬ a2 = (1 : Int32) → PS M 45 [(0, .ref 74), (1, .int a1), (2, .int a2), (3, .int a3)] [.int (99 : Int32), .int (0 : Int32), .int a3, .ref 74] σ4 (0, 0)) ∧ (a2 = (1 : Int32) → PS M 45 [(0, .ref 74), (1, .int a1), (2, .int a2), (3, .int a3)] [.int (10 : Int32), .int (0 : Int32), .int a3, .ref 74] σ4 (0, 0)))) ∧ (a2 = 0 → PS M 45 [(0, .ref 74), (1, .int a1), (2, .int a2), (3, .int a3)] [.int (9999 : Int32), .int (0 : Int32), .int a3, .ref 74] σ4 (0, 0)))) ∧ (r5 = 0 → Qk (-1 : Int32) σ4))))))) : PS M 0 [(0, .ref 74), (1, .int a1), (2, .int a2), (3, .int a3)] [] σ (0, 0) := by
  refine P_aload_n C dX12_set_0 0 rfl ?_
  refine P_iload_n C dX12_set_1 1 rfl ?_
  refine P_ci (R_v (ci := 12) C kv_X12_set_X12_isMower (As := [.int a1]) rfl kd_74 rfl (fxl fx_74) (Nat.le_of_ble_eq_true rfl) dX12_set_2 ⟨Nat.le_refl _, Nat.le_refl _⟩ h) (fun r2 σ1 h => ?_)
  refine P_if_eq C dX12_set_5 (tgt := 18) (by decide +kernel) (fun q3 => ?_) (fun q3 => ?_)
  · have h := h.1 q3
    refine P_iconst C dX12_set_18 (v := (-1 : Int32)) rfl ?_
    exact P_iret C dX12_set_19 h
  · have h := h.2 q3
    refine P_aload_n C dX12_set_8 0 rfl ?_
    refine P_iload_n C dX12_set_9 2 rfl ?_
    refine P_iconst C dX12_set_10 (v := (0 : Int32)) rfl ?_
    refine P_iconst C dX12_set_11 (v := (3 : Int32)) rfl ?_
    refine P_ci (R_v (ci := 12) C kv_X12_set_X12_in (As := [.int a2, .int (0 : Int32), .int (3 : Int32)]) rfl kd_74 rfl (fxl fx_74) (Nat.le_of_ble_eq_true rfl) dX12_set_12 ⟨Nat.le_refl _, Nat.le_refl _⟩ h) (fun r5 σ4 h => ?_)
    refine P_if_ne C dX12_set_15 (tgt := 20) (by decide +kernel) (fun q6 => ?_) (fun q6 => ?_)
    · have h := h.1 q6
      refine P_aload_n C dX12_set_20 0 rfl ?_
      refine P_iload_n C dX12_set_21 3 rfl ?_
      refine P_iconst C dX12_set_22 (v := (0 : Int32)) rfl ?_
      refine P_iload_n C dX12_set_23 2 rfl ?_
      refine P_if_ne C dX12_set_24 (tgt := 33) (by decide +kernel) (fun q7 => ?_) (fun q7 => ?_)
      · have h := h.1 q7
        refine P_iload_n C dX12_set_33 2 rfl ?_
        refine P_iconst C dX12_set_34 (v := (1 : Int32)) rfl ?_
        refine P_icmp_ne C dX12_set_35 (tgt := 43) (by decide +kernel) (fun q8 => ?_) (fun q8 => ?_)
        · have h := h.1 q8
          refine P_bipush C dX12_set_43 (v := (99 : Int32)) rfl ?_
          exact P_sub [0, 1, 2, 3] rfl h
        · have h := h.2 q8
          refine P_bipush C dX12_set_38 (v := (10 : Int32)) rfl ?_
          refine P_goto C dX12_set_40 (tgt := 45) (by decide +kernel) ?_
          exact P_sub [0, 1, 2, 3] rfl h
      · have h := h.2 q7
        refine P_sipush C dX12_set_27 (v := (9999 : Int32)) rfl ?_
        refine P_goto C dX12_set_30 (tgt := 45) (by decide +kernel) ?_
        exact P_sub [0, 1, 2, 3] rfl h
    · have h := h.2 q6
      refine P_iconst C dX12_set_18 (v := (-1 : Int32)) rfl ?_
      exact P_iret C dX12_set_19 h
set_option maxRecDepth 100000 in
set_option maxHeartbeats 4000000 in
theorem s_X12_set_45 {M : Mx} {Qk : Int32 → Sg → Prop} (C : Cx M cX12_set (some .int) RX12 wsX12_set (rmz 2) 0 0 (QI (mV M) Qk)) (hN : mN M = 5) {x1 : Int32} {x2 : Int32} {x3 : Int32} {z0 : Int32} {z1 : Int32} {z2 : Int32} {σ : Sg} (h : K_X12_in (mL M) (mV M) z2 z1 z0 σ (fun r2 σ1 => ((¬ r2 = 0 → ((¬ x2 = 0 → ((¬ x2 = (1 : Int32) → ((¬ x2 = (2 : Int32) → (vp_in x1 6 ∧ (∀ v8 : Int32, v8 = gi σ1 108 x1.toNatClampNeg → ((¬ x2 = 0 → PS M 114 [(0, .ref 74), (1, .int x1), (2, .int x2), (3, .int x3), (4, .int v8)] [] σ1 (0, 0)) ∧ (x2 = 0 → (vp_in x1 6 ∧ (∀ σ11 : Sg, σ11 = si σ1 105 x1.toNatClampNeg x3 → PS M 114 [(0, .ref 74), (1, .int x1), (2, .int x2), (3, .int x3), (4, .int v8)] [] σ11 (0, 0)))))))) ∧ (x2 = (2 : Int32) → (vp_in x1 6 ∧ (∀ v13 : Int32, v13 = gi σ1 107 x1.toNatClampNeg → ((¬ x2 = 0 → PS M 114 [(0, .ref 74), (1, .int x1), (2, .int x2), (3, .int x3), (4, .int v13)] [] σ1 (0, 0)) ∧ (x2 = 0 → (vp_in x1 6 ∧ (∀ σ16 : Sg, σ16 = si σ1 105 x1.toNatClampNeg x3 → PS M 114 [(0, .ref 74), (1, .int x1), (2, .int x2), (3, .int x3), (4, .int v13)] [] σ16 (0, 0)))))))))) ∧ (x2 = (1 : Int32) → (vp_in x1 6 ∧ (∀ v18 : Int32, v18 = gi σ1 106 x1.toNatClampNeg → ((¬ x2 = 0 → PS M 114 [(0, .ref 74), (1, .int x1), (2, .int x2), (3, .int x3), (4, .int v18)] [] σ1 (0, 0)) ∧ (x2 = 0 → (vp_in x1 6 ∧ (∀ σ21 : Sg, σ21 = si σ1 105 x1.toNatClampNeg x3 → PS M 114 [(0, .ref 74), (1, .int x1), (2, .int x2), (3, .int x3), (4, .int v18)] [] σ21 (0, 0)))))))))) ∧ (x2 = 0 → (vp_in x1 6 ∧ (∀ v23 : Int32, v23 = gi σ1 105 x1.toNatClampNeg → ((¬ x2 = 0 → PS M 114 [(0, .ref 74), (1, .int x1), (2, .int x2), (3, .int x3), (4, .int v23)] [] σ1 (0, 0)) ∧ (x2 = 0 → (vp_in x1 6 ∧ (∀ σ26 : Sg, σ26 = si σ1 105 x1.toNatClampNeg x3 → PS M 114 [(0, .ref 74), (1, .int x1), (2, .int x2), (3, .int x3), (4, .int v23)] [] σ26 (0, 0)))))))))) ∧ (r2 = 0 → Qk (-2 : Int32) σ1)))) : PS M 45 [(0, .ref 74), (1, .int x1), (2, .int x2), (3, .int x3)] [.int z0, .int z1, .int z2, .ref 74] σ (0, 0) := by
  refine P_ci (R_v (ci := 12) C kv_X12_set_X12_in (As := [.int z2, .int z1, .int z0]) rfl kd_74 rfl (fxl fx_74) (Nat.le_of_ble_eq_true rfl) dX12_set_45 ⟨Nat.le_refl _, Nat.le_refl _⟩ h) (fun r2 σ1 h => ?_)
  refine P_if_ne C dX12_set_48 (tgt := 54) (by decide +kernel) (fun q3 => ?_) (fun q3 => ?_)
  · have h := h.1 q3
    refine P_iload_n C dX12_set_54 2 rfl ?_
    refine P_if_ne C dX12_set_55 (tgt := 67) (by decide +kernel) (fun q4 => ?_) (fun q4 => ?_)
    · have h := h.1 q4
      refine P_iload_n C dX12_set_67 2 rfl ?_
      refine P_iconst C dX12_set_68 (v := (1 : Int32)) rfl ?_
      refine P_icmp_ne C dX12_set_69 (tgt := 81) (by decide +kernel) (fun q5 => ?_) (fun q5 => ?_)
      · have h := h.1 q5
        refine P_iload_n C dX12_set_81 2 rfl ?_
        refine P_iconst C dX12_set_82 (v := (2 : Int32)) rfl ?_
        refine P_icmp_ne C dX12_set_83 (tgt := 95) (by decide +kernel) (fun q6 => ?_) (fun q6 => ?_)
        · have h := h.1 q6
          refine P_aload_n C dX12_set_95 0 rfl ?_
          refine P_getS C (e := 108) fa_X12_set_35 kd_74 (d := 34) rfl (fxl fx_74) rfl dX12_set_96 ?_
          refine P_iload_n C dX12_set_99 1 rfl ?_
          obtain ⟨hv7, h⟩ := h
          refine P_iald C kd_108 (fxl fx_108) hv7 dX12_set_100 ?_
          refine P_nmi (fun v8 ev8 => ?_)
          have h := h v8 ev8
          refine P_istore C dX12_set_101 (by rw [hN]; decide) rfl ?_
          refine P_iload_n C dX12_set_103 3 rfl ?_
          refine P_if_ne C dX12_set_104 (tgt := 114) (by decide +kernel) (fun q9 => ?_) (fun q9 => ?_)
          · have h := h.1 q9
            exact P_sub [1, 2, 3, 4, 0] rfl h
          · have h := h.2 q9
            refine P_aload_n C dX12_set_107 1 rfl ?_
            refine P_getS C (e := 105) fa_X12_set_26 kd_74 (d := 31) rfl (fxl fx_74) rfl dX12_set_108 ?_
            refine P_iload_n C dX12_set_111 2 rfl ?_
            refine P_iload_n C dX12_set_112 4 rfl ?_
            obtain ⟨hv10, h⟩ := h
            refine P_iast C kd_105 (fxl fx_105) hv10 dX12_set_113 ?_
            refine P_nm (fun σ11 eσ11 => ?_)
            have h := h σ11 eσ11
            exact P_sub [1, 2, 3, 4, 0] rfl h
        · have h := h.2 q6
          refine P_aload_n C dX12_set_86 0 rfl ?_
          refine P_getS C (e := 107) fa_X12_set_32 kd_74 (d := 33) rfl (fxl fx_74) rfl dX12_set_87 ?_
          refine P_iload_n C dX12_set_90 1 rfl ?_
          obtain ⟨hv12, h⟩ := h
          refine P_iald C kd_107 (fxl fx_107) hv12 dX12_set_91 ?_
          refine P_goto C dX12_set_92 (tgt := 101) (by decide +kernel) ?_
          refine P_nmi (fun v13 ev13 => ?_)
          have h := h v13 ev13
          refine P_istore C dX12_set_101 (by rw [hN]; decide) rfl ?_
          refine P_iload_n C dX12_set_103 3 rfl ?_
          refine P_if_ne C dX12_set_104 (tgt := 114) (by decide +kernel) (fun q14 => ?_) (fun q14 => ?_)
          · have h := h.1 q14
            exact P_sub [1, 2, 3, 4, 0] rfl h
          · have h := h.2 q14
            refine P_aload_n C dX12_set_107 1 rfl ?_
            refine P_getS C (e := 105) fa_X12_set_26 kd_74 (d := 31) rfl (fxl fx_74) rfl dX12_set_108 ?_
            refine P_iload_n C dX12_set_111 2 rfl ?_
            refine P_iload_n C dX12_set_112 4 rfl ?_
            obtain ⟨hv15, h⟩ := h
            refine P_iast C kd_105 (fxl fx_105) hv15 dX12_set_113 ?_
            refine P_nm (fun σ16 eσ16 => ?_)
            have h := h σ16 eσ16
            exact P_sub [1, 2, 3, 4, 0] rfl h
      · have h := h.2 q5
        refine P_aload_n C dX12_set_72 0 rfl ?_
        refine P_getS C (e := 106) fa_X12_set_29 kd_74 (d := 32) rfl (fxl fx_74) rfl dX12_set_73 ?_
        refine P_iload_n C dX12_set_76 1 rfl ?_
        obtain ⟨hv17, h⟩ := h
        refine P_iald C kd_106 (fxl fx_106) hv17 dX12_set_77 ?_
        refine P_goto C dX12_set_78 (tgt := 101) (by decide +kernel) ?_
        refine P_nmi (fun v18 ev18 => ?_)
        have h := h v18 ev18
        refine P_istore C dX12_set_101 (by rw [hN]; decide) rfl ?_
        refine P_iload_n C dX12_set_103 3 rfl ?_
        refine P_if_ne C dX12_set_104 (tgt := 114) (by decide +kernel) (fun q19 => ?_) (fun q19 => ?_)
        · have h := h.1 q19
          exact P_sub [1, 2, 3, 4, 0] rfl h
        · have h := h.2 q19
          refine P_aload_n C dX12_set_107 1 rfl ?_
          refine P_getS C (e := 105) fa_X12_set_26 kd_74 (d := 31) rfl (fxl fx_74) rfl dX12_set_108 ?_
          refine P_iload_n C dX12_set_111 2 rfl ?_
          refine P_iload_n C dX12_set_112 4 rfl ?_
          obtain ⟨hv20, h⟩ := h
          refine P_iast C kd_105 (fxl fx_105) hv20 dX12_set_113 ?_
          refine P_nm (fun σ21 eσ21 => ?_)
          have h := h σ21 eσ21
          exact P_sub [1, 2, 3, 4, 0] rfl h
    · have h := h.2 q4
      refine P_aload_n C dX12_set_58 0 rfl ?_
      refine P_getS C (e := 105) fa_X12_set_26 kd_74 (d := 31) rfl (fxl fx_74) rfl dX12_set_59 ?_
      refine P_iload_n C dX12_set_62 1 rfl ?_
      obtain ⟨hv22, h⟩ := h
      refine P_iald C kd_105 (fxl fx_105) hv22 dX12_set_63 ?_
      refine P_goto C dX12_set_64 (tgt := 101) (by decide +kernel) ?_
      refine P_nmi (fun v23 ev23 => ?_)
      have h := h v23 ev23
      refine P_istore C dX12_set_101 (by rw [hN]; decide) rfl ?_
      refine P_iload_n C dX12_set_103 3 rfl ?_
      refine P_if_ne C dX12_set_104 (tgt := 114) (by decide +kernel) (fun q24 => ?_) (fun q24 => ?_)
      · have h := h.1 q24
        exact P_sub [1, 2, 3, 4, 0] rfl h
      · have h := h.2 q24
        refine P_aload_n C dX12_set_107 1 rfl ?_
        refine P_getS C (e := 105) fa_X12_set_26 kd_74 (d := 31) rfl (fxl fx_74) rfl dX12_set_108 ?_
        refine P_iload_n C dX12_set_111 2 rfl ?_
        refine P_iload_n C dX12_set_112 4 rfl ?_
        obtain ⟨hv25, h⟩ := h
        refine P_iast C kd_105 (fxl fx_105) hv25 dX12_set_113 ?_
        refine P_nm (fun σ26 eσ26 => ?_)
        have h := h σ26 eσ26
        exact P_sub [1, 2, 3, 4, 0] rfl h
  · have h := h.2 q3
    refine P_bipush C dX12_set_51 (v := (-2 : Int32)) rfl ?_
    exact P_iret C dX12_set_53 h
set_option maxRecDepth 100000 in
set_option maxHeartbeats 4000000 in
theorem s_X12_set_114 {M : Mx} {Qk : Int32 → Sg → Prop} (C : Cx M cX12_set (some .int) RX12 wsX12_set (rmz 2) 0 0 (QI (mV M) Qk)) (hN : mN M = 5) {x1 : Int32} {x2 : Int32} {x3 : Int32} {x4 : Int32} {σ : Sg} (h : ((¬ x2 = (1 : Int32) → ((¬ x2 = (2 : Int32) → PS M 138 [(0, .ref 74), (1, .int x1), (2, .int x2), (3, .int x3), (4, .int x4)] [] σ (0, 0)) ∧ (x2 = (2 : Int32) → (vp_in x1 6 ∧ (∀ σ4 : Sg, σ4 = si σ 107 x1.toNatClampNeg x3 → PS M 138 [(0, .ref 74), (1, .int x1), (2, .int x2), (3, .int x3), (4, .int x4)] [] σ4 (0, 0)))))) ∧ (x2 = (1 : Int32) → (vp_in x1 6 ∧ (∀ σ6 : Sg, σ6 = si σ 106 x1.toNatClampNeg x3 → ((¬ x2 = (2 : Int32) → PS M 138 [(0, .ref 74), (1, .int x1), (2, .int x2), (3, .int x3), (4, .int x4)] [] σ6 (0, 0)) ∧ (x2 = (2 : Int32) → (vp_in x1 6 ∧ (∀ σ9 : Sg, σ9 = si σ6 107 x1.toNatClampNeg x3 → PS M 138 [(0, .ref 74), (1, .int x1), (2, .int x2), (3, .int x3), (4, .int x4)] [] σ9 (0, 0)))))))))) : PS M 114 [(0, .ref 74), (1, .int x1), (2, .int x2), (3, .int x3), (4, .int x4)] [] σ (0, 0) := by
  refine P_iload_n C dX12_set_114 2 rfl ?_
  refine P_iconst C dX12_set_115 (v := (1 : Int32)) rfl ?_
  refine P_icmp_ne C dX12_set_116 (tgt := 126) (by decide +kernel) (fun q1 => ?_) (fun q1 => ?_)
  · have h := h.1 q1
    refine P_iload_n C dX12_set_126 2 rfl ?_
    refine P_iconst C dX12_set_127 (v := (2 : Int32)) rfl ?_
    refine P_icmp_ne C dX12_set_128 (tgt := 138) (by decide +kernel) (fun q2 => ?_) (fun q2 => ?_)
    · have h := h.1 q2
      exact P_sub [0, 1, 2, 3, 4] rfl h
    · have h := h.2 q2
      refine P_aload_n C dX12_set_131 0 rfl ?_
      refine P_getS C (e := 107) fa_X12_set_32 kd_74 (d := 33) rfl (fxl fx_74) rfl dX12_set_132 ?_
      refine P_iload_n C dX12_set_135 1 rfl ?_
      refine P_iload_n C dX12_set_136 3 rfl ?_
      obtain ⟨hv3, h⟩ := h
      refine P_iast C kd_107 (fxl fx_107) hv3 dX12_set_137 ?_
      refine P_nm (fun σ4 eσ4 => ?_)
      have h := h σ4 eσ4
      exact P_sub [0, 1, 2, 3, 4] rfl h
  · have h := h.2 q1
    refine P_aload_n C dX12_set_119 0 rfl ?_
    refine P_getS C (e := 106) fa_X12_set_29 kd_74 (d := 32) rfl (fxl fx_74) rfl dX12_set_120 ?_
    refine P_iload_n C dX12_set_123 1 rfl ?_
    refine P_iload_n C dX12_set_124 3 rfl ?_
    obtain ⟨hv5, h⟩ := h
    refine P_iast C kd_106 (fxl fx_106) hv5 dX12_set_125 ?_
    refine P_nm (fun σ6 eσ6 => ?_)
    have h := h σ6 eσ6
    refine P_iload_n C dX12_set_126 2 rfl ?_
    refine P_iconst C dX12_set_127 (v := (2 : Int32)) rfl ?_
    refine P_icmp_ne C dX12_set_128 (tgt := 138) (by decide +kernel) (fun q7 => ?_) (fun q7 => ?_)
    · have h := h.1 q7
      exact P_sub [0, 1, 2, 3, 4] rfl h
    · have h := h.2 q7
      refine P_aload_n C dX12_set_131 0 rfl ?_
      refine P_getS C (e := 107) fa_X12_set_32 kd_74 (d := 33) rfl (fxl fx_74) rfl dX12_set_132 ?_
      refine P_iload_n C dX12_set_135 1 rfl ?_
      refine P_iload_n C dX12_set_136 3 rfl ?_
      obtain ⟨hv8, h⟩ := h
      refine P_iast C kd_107 (fxl fx_107) hv8 dX12_set_137 ?_
      refine P_nm (fun σ9 eσ9 => ?_)
      have h := h σ9 eσ9
      exact P_sub [0, 1, 2, 3, 4] rfl h
set_option maxRecDepth 100000 in
set_option maxHeartbeats 4000000 in
theorem s_X12_set_138 {M : Mx} {Qk : Int32 → Sg → Prop} (C : Cx M cX12_set (some .int) RX12 wsX12_set (rmz 2) 0 0 (QI (mV M) Qk)) (hN : mN M = 5) {x1 : Int32} {x2 : Int32} {x3 : Int32} {x4 : Int32} {σ : Sg} (h : ((¬ x2 = (3 : Int32) → Qk x4 σ) ∧ (x2 = (3 : Int32) → (vp_in x1 6 ∧ (∀ σ3 : Sg, σ3 = si σ 108 x1.toNatClampNeg x3 → Qk x4 σ3))))) : PS M 138 [(0, .ref 74), (1, .int x1), (2, .int x2), (3, .int x3), (4, .int x4)] [] σ (0, 0) := by
  refine P_iload_n C dX12_set_138 2 rfl ?_
  refine P_iconst C dX12_set_139 (v := (3 : Int32)) rfl ?_
  refine P_icmp_ne C dX12_set_140 (tgt := 150) (by decide +kernel) (fun q1 => ?_) (fun q1 => ?_)
  · have h := h.1 q1
    refine P_iload C dX12_set_150 4 rfl ?_
    exact P_iret C dX12_set_152 h
  · have h := h.2 q1
    refine P_aload_n C dX12_set_143 0 rfl ?_
    refine P_getS C (e := 108) fa_X12_set_35 kd_74 (d := 34) rfl (fxl fx_74) rfl dX12_set_144 ?_
    refine P_iload_n C dX12_set_147 1 rfl ?_
    refine P_iload_n C dX12_set_148 3 rfl ?_
    obtain ⟨hv2, h⟩ := h
    refine P_iast C kd_108 (fxl fx_108) hv2 dX12_set_149 ?_
    refine P_nm (fun σ3 eσ3 => ?_)
    have h := h σ3 eσ3
    refine P_iload C dX12_set_150 4 rfl ?_
    exact P_iret C dX12_set_152 h
theorem kv_X12_row_X12_isMower : KV RX12 wsX12_row (rmz 2) 243 RX12 yX12_isMower wsX12_isMower (rmz 1) 1 := ⟨_, _, _, _, gX12_row_X12_isMower, rfl, by decide +kernel, by decide +kernel⟩
theorem kv_X12_row_X12_in : KV RX12 wsX12_row (rmz 2) 239 RX12 yX12_in wsX12_in (rmz 0) 3 := ⟨_, _, _, _, gX12_row_X12_in, rfl, by decide +kernel, by decide +kernel⟩
theorem fa_X12_row_19 : FA RX12 wsX12_row 19 12 3 "NineMowersModel" := by
  show _ ∧ _ ∧ _ ∧ _
  exact ⟨by decide +kernel, fun _ h => List.mem_cons_of_mem _ (List.mem_append_right _ h), List.mem_of_getElem? (i := 1) rfl, Or.inl rfl⟩
theorem fa_X12_row_38 : FA RX12 wsX12_row 38 12 9 "NineMowersModel" := by
  show _ ∧ _ ∧ _ ∧ _
  exact ⟨by decide +kernel, fun _ h => List.mem_cons_of_mem _ (List.mem_append_right _ h), List.mem_of_getElem? (i := 2) rfl, Or.inl rfl⟩
noncomputable def K_X12_row (l : Launch) (V : Vx) (a1 : Int32) (a2 : Int32) (a3 : Int32) (σ : Sg) (Qk : Int32 → Sg → Prop) : Prop := Ka l V yX12_row wsX12_row (rmz 2) 0 0 [.ref 74, .int a1, .int a2, .int a3] σ (QI V Qk)
theorem e_X12_row {l : Launch} {V : Vx} {a1 : Int32} {a2 : Int32} {a3 : Int32} {σ : Sg} {Qk : Int32 → Sg → Prop} (h : ∀ M : Mx, mL M = l → mV M = V → mN M = 5 → Cx M cX12_row (some .int) RX12 wsX12_row (rmz 2) 0 0 (QI (mV M) Qk) → PS M 0 [(0, .ref 74), (1, .int a1), (2, .int a2), (3, .int a3)] [] σ (0, 0)) : K_X12_row l V a1 a2 a3 σ Qk :=
  Ka_of (by decide +kernel) rfl rfl (Nat.le_of_ble_eq_true rfl) (fun M h1 h2 h3 C => h M h1 h2 h3 (by rw [h2]; exact C))
set_option maxRecDepth 100000 in
set_option maxHeartbeats 4000000 in
theorem s_X12_row_0 {M : Mx} {Qk : Int32 → Sg → Prop} (C : Cx M cX12_row (some .int) RX12 wsX12_row (rmz 2) 0 0 (QI (mV M) Qk)) (hN : mN M = 5) {a1 : Int32} {a2 : Int32} {a3 : Int32} {σ : Sg} (h : K_X12_isMower (mL M) (mV M) a1 σ (fun r2 σ1 => ((r2 = 0 → Qk (-1 : Int32) σ1) ∧ (¬ r2 = 0 → K_X12_in (mL M) (mV M) a2 (0 : Int32) (3 : Int32) σ1 (fun r5 σ4 => ((¬ r5 = 0 → K_X12_in (mL M) (mV M) a3 (0 : Int32) (9 : Int32) σ4 (fun r8 σ7 => ((¬ r8 = 0 → (vp_in a1 6 ∧ (((gi σ7 103 a1.toNatClampNeg) = (6 : Int32) → (vp_in (((4 : Int32) * a1) + a2) 24 ∧ (∀ v13 : Int32, v13 = gi σ7 109 (((4 : Int32) * a1) + a2).toNatClampNeg → (vp_in (((4 : Int32) * a1) + a2) 24 ∧ (∀ σ15 : Sg, σ15 = si σ7 109 (((4 : Int32) * a1) + a2).toNatClampNeg a3 → Qk v13 σ15))))) ∧ (¬ (gi σ7 103 a1.toNatClampNeg) = (6 : Int32) → Qk (-3 : Int32) σ7)))) ∧ (r8 = 0 → Qk (-2 : Int32) σ7)))) ∧ (r5 = 0 → Qk (-1 : Int32) σ4))))))) : PS M 0 [(0, .ref 74), (1, .int a1), (2, .int a2), (3, .int a3)] [] σ (0, 0) := by
  refine P_aload_n C dX12_row_0 0 rfl ?_
  refine P_iload_n C dX12_row_1 1 rfl ?_
  refine P_ci (R_v (ci := 12) C kv_X12_row_X12_isMower (As := [.int a1]) rfl kd_74 rfl (fxl fx_74) (Nat.le_of_ble_eq_true rfl) dX12_row_2 ⟨Nat.le_refl _, Nat.le_refl _⟩ h) (fun r2 σ1 h => ?_)
  refine P_if_eq C dX12_row_5 (tgt := 18) (by decide +kernel) (fun q3 => ?_) (fun q3 => ?_)
  · have h := h.1 q3
    refine P_iconst C dX12_row_18 (v := (-1 : Int32)) rfl ?_
    exact P_iret C dX12_row_19 h
  · have h := h.2 q3
    refine P_aload_n C dX12_row_8 0 rfl ?_
    refine P_iload_n C dX12_row_9 2 rfl ?_
    refine P_iconst C dX12_row_10 (v := (0 : Int32)) rfl ?_
    refine P_iconst C dX12_row_11 (v := (3 : Int32)) rfl ?_
    refine P_ci (R_v (ci := 12) C kv_X12_row_X12_in (As := [.int a2, .int (0 : Int32), .int (3 : Int32)]) rfl kd_74 rfl (fxl fx_74) (Nat.le_of_ble_eq_true rfl) dX12_row_12 ⟨Nat.le_refl _, Nat.le_refl _⟩ h) (fun r5 σ4 h => ?_)
    refine P_if_ne C dX12_row_15 (tgt := 20) (by decide +kernel) (fun q6 => ?_) (fun q6 => ?_)
    · have h := h.1 q6
      refine P_aload_n C dX12_row_20 0 rfl ?_
      refine P_iload_n C dX12_row_21 3 rfl ?_
      refine P_iconst C dX12_row_22 (v := (0 : Int32)) rfl ?_
      refine P_bipush C dX12_row_23 (v := (9 : Int32)) rfl ?_
      refine P_ci (R_v (ci := 12) C kv_X12_row_X12_in (As := [.int a3, .int (0 : Int32), .int (9 : Int32)]) rfl kd_74 rfl (fxl fx_74) (Nat.le_of_ble_eq_true rfl) dX12_row_25 ⟨Nat.le_refl _, Nat.le_refl _⟩ h) (fun r8 σ7 h => ?_)
      refine P_if_ne C dX12_row_28 (tgt := 34) (by decide +kernel) (fun q9 => ?_) (fun q9 => ?_)
      · have h := h.1 q9
        refine P_aload_n C dX12_row_34 0 rfl ?_
        refine P_getS C (e := 103) fa_X12_row_19 kd_74 (d := 29) rfl (fxl fx_74) rfl dX12_row_35 ?_
        refine P_iload_n C dX12_row_38 1 rfl ?_
        obtain ⟨hv10, h⟩ := h
        refine P_iald C kd_103 (fxl fx_103) hv10 dX12_row_39 ?_
        refine P_bipush C dX12_row_40 (v := (6 : Int32)) rfl ?_
        refine P_icmp_eq C dX12_row_42 (tgt := 48) (by decide +kernel) (fun q11 => ?_) (fun q11 => ?_)
        · have h := h.1 q11
          refine P_aload_n C dX12_row_48 0 rfl ?_
          refine P_getS C (e := 109) fa_X12_row_38 kd_74 (d := 35) rfl (fxl fx_74) rfl dX12_row_49 ?_
          refine P_iconst C dX12_row_52 (v := (4 : Int32)) rfl ?_
          refine P_iload_n C dX12_row_53 1 rfl ?_
          refine P_imul C dX12_row_54 ?_
          refine P_iload_n C dX12_row_55 2 rfl ?_
          refine P_iadd C dX12_row_56 ?_
          obtain ⟨hv12, h⟩ := h
          refine P_iald C kd_109 (fxl fx_109) hv12 dX12_row_57 ?_
          refine P_nmi (fun v13 ev13 => ?_)
          have h := h v13 ev13
          refine P_istore C dX12_row_58 (by rw [hN]; decide) rfl ?_
          refine P_aload_n C dX12_row_60 1 rfl ?_
          refine P_getS C (e := 109) fa_X12_row_38 kd_74 (d := 35) rfl (fxl fx_74) rfl dX12_row_61 ?_
          refine P_iconst C dX12_row_64 (v := (4 : Int32)) rfl ?_
          refine P_iload_n C dX12_row_65 2 rfl ?_
          refine P_imul C dX12_row_66 ?_
          refine P_iload_n C dX12_row_67 3 rfl ?_
          refine P_iadd C dX12_row_68 ?_
          refine P_iload_n C dX12_row_69 4 rfl ?_
          obtain ⟨hv14, h⟩ := h
          refine P_iast C kd_109 (fxl fx_109) hv14 dX12_row_70 ?_
          refine P_nm (fun σ15 eσ15 => ?_)
          have h := h σ15 eσ15
          refine P_iload C dX12_row_71 0 rfl ?_
          exact P_iret C dX12_row_73 h
        · have h := h.2 q11
          refine P_bipush C dX12_row_45 (v := (-3 : Int32)) rfl ?_
          exact P_iret C dX12_row_47 h
      · have h := h.2 q9
        refine P_bipush C dX12_row_31 (v := (-2 : Int32)) rfl ?_
        exact P_iret C dX12_row_33 h
    · have h := h.2 q6
      refine P_iconst C dX12_row_18 (v := (-1 : Int32)) rfl ?_
      exact P_iret C dX12_row_19 h
theorem kv_X12_place_X12_isMower : KV RX12 wsX12_place (rmz 2) 243 RX12 yX12_isMower wsX12_isMower (rmz 1) 1 := ⟨_, _, _, _, gX12_place_X12_isMower, rfl, by decide +kernel, by decide +kernel⟩
theorem fa_X12_place_7 : FA RX12 wsX12_place 7 12 0 "NineMowersModel" := by
  show _ ∧ _ ∧ _ ∧ _
  exact ⟨by decide +kernel, fun _ h => List.mem_cons_of_mem _ (List.mem_append_right _ h), List.mem_of_getElem? (i := 1) rfl, Or.inl rfl⟩
theorem kv_X12_place_X12_in : KV RX12 wsX12_place (rmz 2) 239 RX12 yX12_in wsX12_in (rmz 0) 3 := ⟨_, _, _, _, gX12_place_X12_in, rfl, by decide +kernel, by decide +kernel⟩
theorem kv_X12_place_X12_placeOf : KV RX12 wsX12_place (rmz 2) 247 RX12 yX12_placeOf wsX12_placeOf (rmz 0) 1 := ⟨_, _, _, _, gX12_place_X12_placeOf, rfl, by decide +kernel, by decide +kernel⟩
theorem fa_X12_place_41 : FA RX12 wsX12_place 41 12 10 "NineMowersModel" := by
  show _ ∧ _ ∧ _ ∧ _
  exact ⟨by decide +kernel, fun _ h => List.mem_cons_of_mem _ (List.mem_append_right _ h), List.mem_of_getElem? (i := 2) rfl, Or.inl rfl⟩
noncomputable def K_X12_place (l : Launch) (V : Vx) (a1 : Int32) (a2 : Int32) (σ : Sg) (Qk : Int32 → Sg → Prop) : Prop := Ka l V yX12_place wsX12_place (rmz 2) 0 0 [.ref 74, .int a1, .int a2] σ (QI V Qk)
theorem e_X12_place {l : Launch} {V : Vx} {a1 : Int32} {a2 : Int32} {σ : Sg} {Qk : Int32 → Sg → Prop} (h : ∀ M : Mx, mL M = l → mV M = V → mN M = 5 → Cx M cX12_place (some .int) RX12 wsX12_place (rmz 2) 0 0 (QI (mV M) Qk) → PS M 0 [(0, .ref 74), (1, .int a1), (2, .int a2)] [] σ (0, 0)) : K_X12_place l V a1 a2 σ Qk :=
  Ka_of (by decide +kernel) rfl rfl (Nat.le_of_ble_eq_true rfl) (fun M h1 h2 h3 C => h M h1 h2 h3 (by rw [h2]; exact C))
set_option maxRecDepth 100000 in
set_option maxHeartbeats 4000000 in
theorem s_X12_place_0 {M : Mx} {Qk : Int32 → Sg → Prop} (C : Cx M cX12_place (some .int) RX12 wsX12_place (rmz 2) 0 0 (QI (mV M) Qk)) (hN : mN M = 5) {a1 : Int32} {a2 : Int32} {σ : Sg} (h : K_X12_isMower (mL M) (mV M) a1 σ (fun r2 σ1 => ((r2 = 0 → Qk (-1 : Int32) σ1) ∧ (¬ r2 = 0 → K_X12_in (mL M) (mV M) a2 (0 : Int32) ((gi σ1 74 0) - (1 : Int32)) σ1 (fun r5 σ4 => ((¬ r5 = 0 → K_X12_placeOf (mL M) (mV M) a1 σ4 (fun r8 σ7 => PS M 34 [(0, .ref 74), (1, .int a1), (2, .int a2), (3, .int r8), (4, .int r8)] [] σ7 (0, 0))) ∧ (r5 = 0 → Qk (-1 : Int32) σ4))))))) : PS M 0 [(0, .ref 74), (1, .int a1), (2, .int a2)] [] σ (0, 0) := by
  refine P_aload_n C dX12_place_0 0 rfl ?_
  refine P_iload_n C dX12_place_1 1 rfl ?_
  refine P_ci (R_v (ci := 12) C kv_X12_place_X12_isMower (As := [.int a1]) rfl kd_74 rfl (fxl fx_74) (Nat.le_of_ble_eq_true rfl) dX12_place_2 ⟨Nat.le_refl _, Nat.le_refl _⟩ h) (fun r2 σ1 h => ?_)
  refine P_if_eq C dX12_place_5 (tgt := 23) (by decide +kernel) (fun q3 => ?_) (fun q3 => ?_)
  · have h := h.1 q3
    refine P_iconst C dX12_place_23 (v := (-1 : Int32)) rfl ?_
    exact P_iret C dX12_place_24 h
  · have h := h.2 q3
    refine P_aload_n C dX12_place_8 0 rfl ?_
    refine P_iload_n C dX12_place_9 2 rfl ?_
    refine P_iconst C dX12_place_10 (v := (0 : Int32)) rfl ?_
    refine P_aload_n C dX12_place_11 0 rfl ?_
    refine P_getI C fa_X12_place_7 kd_74 rfl (fxl fx_74) dX12_place_12 ?_
    refine P_iconst C dX12_place_15 (v := (1 : Int32)) rfl ?_
    refine P_isub C dX12_place_16 ?_
    refine P_ci (R_v (ci := 12) C kv_X12_place_X12_in (As := [.int a2, .int (0 : Int32), .int ((gi σ1 74 0) - (1 : Int32))]) rfl kd_74 rfl (fxl fx_74) (Nat.le_of_ble_eq_true rfl) dX12_place_17 ⟨Nat.le_refl _, Nat.le_refl _⟩ h) (fun r5 σ4 h => ?_)
    refine P_if_ne C dX12_place_20 (tgt := 25) (by decide +kernel) (fun q6 => ?_) (fun q6 => ?_)
    · have h := h.1 q6
      refine P_aload_n C dX12_place_25 0 rfl ?_
      refine P_iload_n C dX12_place_26 1 rfl ?_
      refine P_ci (R_v (ci := 12) C kv_X12_place_X12_placeOf (As := [.int a1]) rfl kd_74 rfl (fxl fx_74) (Nat.le_of_ble_eq_true rfl) dX12_place_27 ⟨Nat.le_refl _, Nat.le_refl _⟩ h) (fun r8 σ7 h => ?_)
      refine P_istore_n C dX12_place_30 (by rw [hN]; decide) rfl ?_
      refine P_iload_n C dX12_place_31 0 rfl ?_
      refine P_istore C dX12_place_32 (by rw [hN]; decide) rfl ?_
      exact P_sub [2, 3, 4, 1, 0] rfl h
    · have h := h.2 q6
      refine P_iconst C dX12_place_23 (v := (-1 : Int32)) rfl ?_
      exact P_iret C dX12_place_24 h
set_option maxRecDepth 100000 in
set_option maxHeartbeats 4000000 in
theorem s_X12_place_34 {M : Mx} {Qk : Int32 → Sg → Prop} (C : Cx M cX12_place (some .int) RX12 wsX12_place (rmz 2) 0 0 (QI (mV M) Qk)) (hN : mN M = 5) {x1 : Int32} {x2 : Int32} {x3 : Int32} {x4 : Int32} {σ : Sg} (h : ((x2 ≤ x4 → PS M 65 [(0, .ref 74), (1, .int x1), (2, .int x2), (3, .int x3), (4, .int x3)] [] σ (0, 0)) ∧ (¬ x2 ≤ x4 → (vp_in (x4 + (1 : Int32)) 6 ∧ (vp_in x4 6 ∧ (∀ σ4 : Sg, σ4 = si σ 110 x4.toNatClampNeg (gi σ 110 (x4 + (1 : Int32)).toNatClampNeg) → (∀ v5 : Int32, v5 = x4 + 1 → PS M 34 [(0, .ref 74), (1, .int x1), (2, .int x2), (3, .int x3), (4, .int v5)] [] σ4 (0, 0)))))))) : PS M 34 [(0, .ref 74), (1, .int x1), (2, .int x2), (3, .int x3), (4, .int x4)] [] σ (0, 0) := by
  refine P_iload C dX12_place_34 4 rfl ?_
  refine P_iload_n C dX12_place_36 2 rfl ?_
  refine P_icmp_ge C dX12_place_37 (tgt := 62) (by decide +kernel) (fun q1 => ?_) (fun q1 => ?_)
  · have h := h.1 q1
    refine P_iload_n C dX12_place_62 3 rfl ?_
    refine P_istore C dX12_place_63 (by rw [hN]; decide) rfl ?_
    exact P_sub [1, 2, 3, 4, 0] rfl h
  · have h := h.2 q1
    refine P_aload_n C dX12_place_40 0 rfl ?_
    refine P_getS C (e := 110) fa_X12_place_41 kd_74 (d := 36) rfl (fxl fx_74) rfl dX12_place_41 ?_
    refine P_iload C dX12_place_44 4 rfl ?_
    refine P_aload_n C dX12_place_46 0 rfl ?_
    refine P_getS C (e := 110) fa_X12_place_41 kd_74 (d := 36) rfl (fxl fx_74) rfl dX12_place_47 ?_
    refine P_iload C dX12_place_50 4 rfl ?_
    refine P_iconst C dX12_place_52 (v := (1 : Int32)) rfl ?_
    refine P_iadd C dX12_place_53 ?_
    obtain ⟨hv2, h⟩ := h
    refine P_iald C kd_110 (fxl fx_110) hv2 dX12_place_54 ?_
    obtain ⟨hv3, h⟩ := h
    refine P_iast C kd_110 (fxl fx_110) hv3 dX12_place_55 ?_
    refine P_nm (fun σ4 eσ4 => ?_)
    have h := h σ4 eσ4
    obtain ⟨v5, ev5⟩ : ∃ v : Int32, v = x4 + 1 := ⟨_, rfl⟩
    have h := h v5 ev5
    refine P_iinc (v := v5) C dX12_place_56 4 rfl (by rw [ev5]; rfl) (by rw [hN]; decide) rfl ?_
    refine P_goto C dX12_place_59 (tgt := 34) (by decide +kernel) ?_
    exact P_sub [1, 2, 3, 4, 0] rfl h
set_option maxRecDepth 100000 in
set_option maxHeartbeats 4000000 in
theorem s_X12_place_65 {M : Mx} {Qk : Int32 → Sg → Prop} (C : Cx M cX12_place (some .int) RX12 wsX12_place (rmz 2) 0 0 (QI (mV M) Qk)) (hN : mN M = 5) {x1 : Int32} {x2 : Int32} {x3 : Int32} {x4 : Int32} {σ : Sg} (h : ((x4 ≤ x2 → (vp_in x2 6 ∧ (∀ σ3 : Sg, σ3 = si σ 110 x2.toNatClampNeg x1 → Qk x3 σ3))) ∧ (¬ x4 ≤ x2 → (vp_in (x4 - (1 : Int32)) 6 ∧ (vp_in x4 6 ∧ (∀ σ6 : Sg, σ6 = si σ 110 x4.toNatClampNeg (gi σ 110 (x4 - (1 : Int32)).toNatClampNeg) → (∀ v7 : Int32, v7 = x4 - 1 → PS M 65 [(0, .ref 74), (1, .int x1), (2, .int x2), (3, .int x3), (4, .int v7)] [] σ6 (0, 0)))))))) : PS M 65 [(0, .ref 74), (1, .int x1), (2, .int x2), (3, .int x3), (4, .int x4)] [] σ (0, 0) := by
  refine P_iload C dX12_place_65 4 rfl ?_
  refine P_iload_n C dX12_place_67 2 rfl ?_
  refine P_icmp_le C dX12_place_68 (tgt := 93) (by decide +kernel) (fun q1 => ?_) (fun q1 => ?_)
  · have h := h.1 q1
    refine P_aload_n C dX12_place_93 0 rfl ?_
    refine P_getS C (e := 110) fa_X12_place_41 kd_74 (d := 36) rfl (fxl fx_74) rfl dX12_place_94 ?_
    refine P_iload_n C dX12_place_97 2 rfl ?_
    refine P_iload_n C dX12_place_98 1 rfl ?_
    obtain ⟨hv2, h⟩ := h
    refine P_iast C kd_110 (fxl fx_110) hv2 dX12_place_99 ?_
    refine P_nm (fun σ3 eσ3 => ?_)
    have h := h σ3 eσ3
    refine P_iload_n C dX12_place_100 3 rfl ?_
    exact P_iret C dX12_place_101 h
  · have h := h.2 q1
    refine P_aload_n C dX12_place_71 0 rfl ?_
    refine P_getS C (e := 110) fa_X12_place_41 kd_74 (d := 36) rfl (fxl fx_74) rfl dX12_place_72 ?_
    refine P_iload C dX12_place_75 4 rfl ?_
    refine P_aload_n C dX12_place_77 0 rfl ?_
    refine P_getS C (e := 110) fa_X12_place_41 kd_74 (d := 36) rfl (fxl fx_74) rfl dX12_place_78 ?_
    refine P_iload C dX12_place_81 4 rfl ?_
    refine P_iconst C dX12_place_83 (v := (1 : Int32)) rfl ?_
    refine P_isub C dX12_place_84 ?_
    obtain ⟨hv4, h⟩ := h
    refine P_iald C kd_110 (fxl fx_110) hv4 dX12_place_85 ?_
    obtain ⟨hv5, h⟩ := h
    refine P_iast C kd_110 (fxl fx_110) hv5 dX12_place_86 ?_
    refine P_nm (fun σ6 eσ6 => ?_)
    have h := h σ6 eσ6
    obtain ⟨v7, ev7⟩ : ∃ v : Int32, v = x4 - 1 := ⟨_, rfl⟩
    have h := h v7 ev7
    refine P_iinc (v := v7) C dX12_place_87 4 rfl (by rw [ev7]; exact sub_one _) (by rw [hN]; decide) rfl ?_
    refine P_goto C dX12_place_90 (tgt := 65) (by decide +kernel) ?_
    exact P_sub [1, 2, 3, 4, 0] rfl h
theorem kv_X12_takesWord_X12_takes : KV RX12 wsX12_takesWord (rmz 2) 255 RX12 yX12_takes wsX12_takes (rmz 1) 1 := ⟨_, _, _, _, gX12_takesWord_X12_takes, rfl, by decide +kernel, by decide +kernel⟩
theorem fa_X12_takesWord_92 : FA RX12 wsX12_takesWord 92 12 27 "NineMowersModel" := by
  show _ ∧ _ ∧ _ ∧ _
  exact ⟨by decide +kernel, fun _ h => List.mem_cons_of_mem _ (List.mem_append_right _ h), List.mem_of_getElem? (i := 1) rfl, Or.inl rfl⟩
noncomputable def K_X12_takesWord (l : Launch) (V : Vx) (a1 : Int32) (a2 : Int32) (σ : Sg) (Qk : Int32 → Sg → Prop) : Prop := Ka l V yX12_takesWord wsX12_takesWord (rmz 2) 0 0 [.ref 74, .int a1, .int a2] σ (QI V Qk)
theorem e_X12_takesWord {l : Launch} {V : Vx} {a1 : Int32} {a2 : Int32} {σ : Sg} {Qk : Int32 → Sg → Prop} (h : ∀ M : Mx, mL M = l → mV M = V → mN M = 4 → Cx M cX12_takesWord (some .boolean) RX12 wsX12_takesWord (rmz 2) 0 0 (QI (mV M) Qk) → PS M 0 [(0, .ref 74), (1, .int a1), (2, .int a2)] [] σ (0, 0)) : K_X12_takesWord l V a1 a2 σ Qk :=
  Ka_of (by decide +kernel) rfl rfl (Nat.le_of_ble_eq_true rfl) (fun M h1 h2 h3 C => h M h1 h2 h3 (by rw [h2]; exact C))
set_option maxRecDepth 100000 in
set_option maxHeartbeats 4000000 in
theorem s_X12_takesWord_0 {M : Mx} {Qk : Int32 → Sg → Prop} (C : Cx M cX12_takesWord (some .boolean) RX12 wsX12_takesWord (rmz 2) 0 0 (QI (mV M) Qk)) (hN : mN M = 4) {a1 : Int32} {a2 : Int32} {σ : Sg} (h : PS M 2 [(0, .ref 74), (1, .int a1), (2, .int a2), (3, .int (0 : Int32))] [] σ (0, 0)) : PS M 0 [(0, .ref 74), (1, .int a1), (2, .int a2)] [] σ (0, 0) := by
  refine P_iconst C dX12_takesWord_0 (v := (0 : Int32)) rfl ?_
  refine P_istore_n C dX12_takesWord_1 (by rw [hN]; decide) rfl ?_
  exact P_sub [1, 2, 3, 0] rfl h
set_option maxRecDepth 100000 in
set_option maxHeartbeats 4000000 in
theorem s_X12_takesWord_2 {M : Mx} {Qk : Int32 → Sg → Prop} (C : Cx M cX12_takesWord (some .boolean) RX12 wsX12_takesWord (rmz 2) 0 0 (QI (mV M) Qk)) (hN : mN M = 4) {x1 : Int32} {x2 : Int32} {x3 : Int32} {σ : Sg} (h : ((x2 ≤ x3 → K_X12_takes (mL M) (mV M) (32 : Int32) σ (fun r3 σ2 => (narrow .boolean (.int r3) = .int r3 ∧ Qk r3 σ2))) ∧ (¬ x2 ≤ x3 → (vp_in (x1 + x3) 19 ∧ K_X12_takes (mL M) (mV M) (gi σ 127 (x1 + x3).toNatClampNeg) σ (fun r6 σ5 => ((¬ r6 = 0 → (∀ v8 : Int32, v8 = x3 + 1 → PS M 2 [(0, .ref 74), (1, .int x1), (2, .int x2), (3, .int v8)] [] σ5 (0, 0))) ∧ (r6 = 0 → Qk (0 : Int32) σ5))))))) : PS M 2 [(0, .ref 74), (1, .int x1), (2, .int x2), (3, .int x3)] [] σ (0, 0) := by
  refine P_iload_n C dX12_takesWord_2 3 rfl ?_
  refine P_iload_n C dX12_takesWord_3 2 rfl ?_
  refine P_icmp_ge C dX12_takesWord_4 (tgt := 30) (by decide +kernel) (fun q1 => ?_) (fun q1 => ?_)
  · have h := h.1 q1
    refine P_aload_n C dX12_takesWord_30 0 rfl ?_
    refine P_bipush C dX12_takesWord_31 (v := (32 : Int32)) rfl ?_
    refine P_ci (R_v (ci := 12) C kv_X12_takesWord_X12_takes (As := [.int (32 : Int32)]) rfl kd_74 rfl (fxl fx_74) (Nat.le_of_ble_eq_true rfl) dX12_takesWord_33 ⟨Nat.le_refl _, Nat.le_refl _⟩ h) (fun r3 σ2 h => ?_)
    exact P_zret C h.1 dX12_takesWord_36 h.2
  · have h := h.2 q1
    refine P_aload_n C dX12_takesWord_7 0 rfl ?_
    refine P_aload_n C dX12_takesWord_8 0 rfl ?_
    refine P_getS C (e := 127) fa_X12_takesWord_92 kd_74 (d := 53) rfl (fxl fx_74) rfl dX12_takesWord_9 ?_
    refine P_iload_n C dX12_takesWord_12 1 rfl ?_
    refine P_iload_n C dX12_takesWord_13 3 rfl ?_
    refine P_iadd C dX12_takesWord_14 ?_
    obtain ⟨hv4, h⟩ := h
    refine P_iald C kd_127 (fxl fx_127) hv4 dX12_takesWord_15 ?_
    refine P_ci (R_v (ci := 12) C kv_X12_takesWord_X12_takes (As := [.int (gi σ 127 (x1 + x3).toNatClampNeg)]) rfl kd_74 rfl (fxl fx_74) (Nat.le_of_ble_eq_true rfl) dX12_takesWord_16 ⟨Nat.le_refl _, Nat.le_refl _⟩ h) (fun r6 σ5 h => ?_)
    refine P_if_ne C dX12_takesWord_19 (tgt := 24) (by decide +kernel) (fun q7 => ?_) (fun q7 => ?_)
    · have h := h.1 q7
      obtain ⟨v8, ev8⟩ : ∃ v : Int32, v = x3 + 1 := ⟨_, rfl⟩
      have h := h v8 ev8
      refine P_iinc (v := v8) C dX12_takesWord_24 3 rfl (by rw [ev8]; rfl) (by rw [hN]; decide) rfl ?_
      refine P_goto C dX12_takesWord_27 (tgt := 2) (by decide +kernel) ?_
      exact P_sub [1, 2, 3, 0] rfl h
    · have h := h.2 q7
      refine P_iconst C dX12_takesWord_22 (v := (0 : Int32)) rfl ?_
      exact P_zret C (by decide +kernel) dX12_takesWord_23 h
theorem kv_X12_takesNumber_X12_isDigit : KV RX12 wsX12_takesNumber (rmz 2) 258 RX12 yX12_isDigit wsX12_isDigit (rmz 1) 0 := ⟨_, _, _, _, gX12_takesNumber_X12_isDigit, rfl, by decide +kernel, by decide +kernel⟩
theorem pa_X12_takesNumber_56 : PA RX12 wsX12_takesNumber 56 12 15 "NineMowersModel" .int := by
  show _ ∧ _ ∧ _ ∧ _ ∧ _ ∧ _ ∧ _ ∧ _
  exact ⟨by decide +kernel, fun _ h => List.mem_cons_of_mem _ (List.mem_append_right _ h), List.mem_of_getElem? (i := 1) rfl, rfl, rfl, by decide +kernel, ⟨tyX12, tyX12_ok⟩, nmX12⟩
theorem fa_X12_takesNumber_56 : FA RX12 wsX12_takesNumber 56 12 15 "NineMowersModel" := by
  show _ ∧ _ ∧ _ ∧ _
  exact ⟨by decide +kernel, fun _ h => List.mem_cons_of_mem _ (List.mem_append_right _ h), List.mem_of_getElem? (i := 1) rfl, Or.inl rfl⟩
theorem kv_X12_takesNumber_X12_next : KV RX12 wsX12_takesNumber (rmz 2) 251 RX12 yX12_next wsX12_next (rmz 0) 0 := ⟨_, _, _, _, gX12_takesNumber_X12_next, rfl, by decide +kernel, by decide +kernel⟩
theorem fa_X12_takesNumber_53 : FA RX12 wsX12_takesNumber 53 12 14 "NineMowersModel" := by
  show _ ∧ _ ∧ _ ∧ _
  exact ⟨by decide +kernel, fun _ h => List.mem_cons_of_mem _ (List.mem_append_right _ h), List.mem_of_getElem? (i := 2) rfl, Or.inl rfl⟩
theorem pa_X12_takesNumber_53 : PA RX12 wsX12_takesNumber 53 12 14 "NineMowersModel" .int := by
  show _ ∧ _ ∧ _ ∧ _ ∧ _ ∧ _ ∧ _ ∧ _
  exact ⟨by decide +kernel, fun _ h => List.mem_cons_of_mem _ (List.mem_append_right _ h), List.mem_of_getElem? (i := 2) rfl, rfl, rfl, by decide +kernel, ⟨tyX12, tyX12_ok⟩, nmX12⟩
noncomputable def K_X12_takesNumber (l : Launch) (V : Vx) (σ : Sg) (Qk : Int32 → Sg → Prop) : Prop := Ka l V yX12_takesNumber wsX12_takesNumber (rmz 2) 0 0 [.ref 74] σ (QI V Qk)
theorem e_X12_takesNumber {l : Launch} {V : Vx} {σ : Sg} {Qk : Int32 → Sg → Prop} (h : ∀ M : Mx, mL M = l → mV M = V → mN M = 2 → Cx M cX12_takesNumber (some .boolean) RX12 wsX12_takesNumber (rmz 2) 0 0 (QI (mV M) Qk) → PS M 0 [(0, .ref 74)] [] σ (0, 0)) : K_X12_takesNumber l V σ Qk :=
  Ka_of (by decide +kernel) rfl rfl (Nat.le_of_ble_eq_true rfl) (fun M h1 h2 h3 C => h M h1 h2 h3 (by rw [h2]; exact C))
set_option maxRecDepth 100000 in
set_option maxHeartbeats 4000000 in
theorem s_X12_takesNumber_0 {M : Mx} {Qk : Int32 → Sg → Prop} (C : Cx M cX12_takesNumber (some .boolean) RX12 wsX12_takesNumber (rmz 2) 0 0 (QI (mV M) Qk)) (hN : mN M = 2) {σ : Sg} (h : K_X12_isDigit (mL M) (mV M) σ (fun r2 σ1 => ((¬ r2 = 0 → (∀ σ4 : Sg, σ4 = si σ1 74 15 (0 : Int32) → PS M 16 [(0, .ref 74), (1, .int (0 : Int32))] [] σ4 (0, 0))) ∧ (r2 = 0 → Qk (0 : Int32) σ1)))) : PS M 0 [(0, .ref 74)] [] σ (0, 0) := by
  refine P_aload_n C dX12_takesNumber_0 0 rfl ?_
  refine P_ci (R_v (ci := 12) C kv_X12_takesNumber_X12_isDigit (As := []) rfl kd_74 rfl (fxl fx_74) (Nat.le_of_ble_eq_true rfl) dX12_takesNumber_1 ⟨Nat.le_refl _, Nat.le_refl _⟩ h) (fun r2 σ1 h => ?_)
  refine P_if_ne C dX12_takesNumber_4 (tgt := 9) (by decide +kernel) (fun q3 => ?_) (fun q3 => ?_)
  · have h := h.1 q3
    refine P_aload_n C dX12_takesNumber_9 0 rfl ?_
    refine P_iconst C dX12_takesNumber_10 (v := (0 : Int32)) rfl ?_
    refine P_putI C pa_X12_takesNumber_56 kd_74 rfl (fxl fx_74) dX12_takesNumber_11 ?_
    refine P_nm (fun σ4 eσ4 => ?_)
    have h := h σ4 eσ4
    refine P_iconst C dX12_takesNumber_14 (v := (0 : Int32)) rfl ?_
    refine P_istore_n C dX12_takesNumber_15 (by rw [hN]; decide) rfl ?_
    exact P_sub [1, 0] rfl h
  · have h := h.2 q3
    refine P_iconst C dX12_takesNumber_7 (v := (0 : Int32)) rfl ?_
    exact P_zret C (by decide +kernel) dX12_takesNumber_8 h
set_option maxRecDepth 100000 in
set_option maxHeartbeats 4000000 in
theorem s_X12_takesNumber_16 {M : Mx} {Qk : Int32 → Sg → Prop} (C : Cx M cX12_takesNumber (some .boolean) RX12 wsX12_takesNumber (rmz 2) 0 0 (QI (mV M) Qk)) (hN : mN M = 2) {x1 : Int32} {σ : Sg} (h : (((2 : Int32) ≤ x1 → Qk (1 : Int32) σ) ∧ (¬ (2 : Int32) ≤ x1 → K_X12_isDigit (mL M) (mV M) σ (fun r3 σ2 => ((r3 = 0 → Qk (1 : Int32) σ2) ∧ (¬ r3 = 0 → K_X12_next (mL M) (mV M) σ2 (fun r6 σ5 => (∀ σ7 : Sg, σ7 = si σ5 74 15 ((((10 : Int32) * (gi σ2 74 15)) + r6) - (48 : Int32)) → (∀ σ8 : Sg, σ8 = si σ7 74 14 ((gi σ7 74 14) + (1 : Int32)) → (∀ v9 : Int32, v9 = x1 + 1 → PS M 16 [(0, .ref 74), (1, .int v9)] [] σ8 (0, 0))))))))))) : PS M 16 [(0, .ref 74), (1, .int x1)] [] σ (0, 0) := by
  refine P_iload_n C dX12_takesNumber_16 1 rfl ?_
  refine P_iconst C dX12_takesNumber_17 (v := (2 : Int32)) rfl ?_
  refine P_icmp_ge C dX12_takesNumber_18 (tgt := 63) (by decide +kernel) (fun q1 => ?_) (fun q1 => ?_)
  · have h := h.1 q1
    refine P_iconst C dX12_takesNumber_63 (v := (1 : Int32)) rfl ?_
    exact P_zret C (by decide +kernel) dX12_takesNumber_64 h
  · have h := h.2 q1
    refine P_aload_n C dX12_takesNumber_21 0 rfl ?_
    refine P_ci (R_v (ci := 12) C kv_X12_takesNumber_X12_isDigit (As := []) rfl kd_74 rfl (fxl fx_74) (Nat.le_of_ble_eq_true rfl) dX12_takesNumber_22 ⟨Nat.le_refl _, Nat.le_refl _⟩ h) (fun r3 σ2 h => ?_)
    refine P_if_eq C dX12_takesNumber_25 (tgt := 63) (by decide +kernel) (fun q4 => ?_) (fun q4 => ?_)
    · have h := h.1 q4
      refine P_iconst C dX12_takesNumber_63 (v := (1 : Int32)) rfl ?_
      exact P_zret C (by decide +kernel) dX12_takesNumber_64 h
    · have h := h.2 q4
      refine P_aload_n C dX12_takesNumber_28 0 rfl ?_
      refine P_bipush C dX12_takesNumber_29 (v := (10 : Int32)) rfl ?_
      refine P_aload_n C dX12_takesNumber_31 0 rfl ?_
      refine P_getI C fa_X12_takesNumber_56 kd_74 rfl (fxl fx_74) dX12_takesNumber_32 ?_
      refine P_imul C dX12_takesNumber_35 ?_
      refine P_aload_n C dX12_takesNumber_36 0 rfl ?_
      refine P_ci (R_v (ci := 12) C kv_X12_takesNumber_X12_next (As := []) rfl kd_74 rfl (fxl fx_74) (Nat.le_of_ble_eq_true rfl) dX12_takesNumber_37 ⟨Nat.le_refl _, Nat.le_refl _⟩ h) (fun r6 σ5 h => ?_)
      refine P_iadd C dX12_takesNumber_40 ?_
      refine P_bipush C dX12_takesNumber_41 (v := (48 : Int32)) rfl ?_
      refine P_isub C dX12_takesNumber_43 ?_
      refine P_putI C pa_X12_takesNumber_56 kd_74 rfl (fxl fx_74) dX12_takesNumber_44 ?_
      refine P_nm (fun σ7 eσ7 => ?_)
      have h := h σ7 eσ7
      refine P_aload_n C dX12_takesNumber_47 0 rfl ?_
      refine P_dup C dX12_takesNumber_48 rfl ?_
      refine P_getI C fa_X12_takesNumber_53 kd_74 rfl (fxl fx_74) dX12_takesNumber_49 ?_
      refine P_iconst C dX12_takesNumber_52 (v := (1 : Int32)) rfl ?_
      refine P_iadd C dX12_takesNumber_53 ?_
      refine P_putI C pa_X12_takesNumber_53 kd_74 rfl (fxl fx_74) dX12_takesNumber_54 ?_
      refine P_nm (fun σ8 eσ8 => ?_)
      have h := h σ8 eσ8
      obtain ⟨v9, ev9⟩ : ∃ v : Int32, v = x1 + 1 := ⟨_, rfl⟩
      have h := h v9 ev9
      refine P_iinc (v := v9) C dX12_takesNumber_57 1 rfl (by rw [ev9]; rfl) (by rw [hN]; decide) rfl ?_
      refine P_goto C dX12_takesNumber_60 (tgt := 16) (by decide +kernel) ?_
      exact P_sub [1, 0] rfl h
theorem fa_X12_gap_95 : FA RX12 wsX12_gap 95 12 28 "NineMowersModel" := by
  show _ ∧ _ ∧ _ ∧ _
  exact ⟨by decide +kernel, fun _ h => List.mem_cons_of_mem _ (List.mem_append_right _ h), List.mem_of_getElem? (i := 1) rfl, Or.inl rfl⟩
theorem kv_X12_gap_X12_lastOf : KV RX12 wsX12_gap (rmz 2) 303 RX12 yX12_lastOf wsX12_lastOf (rmz 1) 2 := ⟨_, _, _, _, gX12_gap_X12_lastOf, rfl, by decide +kernel, by decide +kernel⟩
noncomputable def K_X12_gap (l : Launch) (V : Vx) (σ : Sg) (Qk : Int32 → Sg → Prop) : Prop := Ka l V yX12_gap wsX12_gap (rmz 2) 0 0 [.ref 74] σ (QI V Qk)
theorem e_X12_gap {l : Launch} {V : Vx} {σ : Sg} {Qk : Int32 → Sg → Prop} (h : ∀ M : Mx, mL M = l → mV M = V → mN M = 1 → Cx M cX12_gap (some .int) RX12 wsX12_gap (rmz 2) 0 0 (QI (mV M) Qk) → PS M 0 [(0, .ref 74)] [] σ (0, 0)) : K_X12_gap l V σ Qk :=
  Ka_of (by decide +kernel) rfl rfl (Nat.le_of_ble_eq_true rfl) (fun M h1 h2 h3 C => h M h1 h2 h3 (by rw [h2]; exact C))
set_option maxRecDepth 100000 in
set_option maxHeartbeats 4000000 in
theorem s_X12_gap_0 {M : Mx} {Qk : Int32 → Sg → Prop} (C : Cx M cX12_gap (some .int) RX12 wsX12_gap (rmz 2) 0 0 (QI (mV M) Qk)) (hN : mN M = 1) {σ : Sg} (h : ((0 ≤ (gi σ 74 28) → Qk (gi σ 74 28) σ) ∧ (¬ 0 ≤ (gi σ 74 28) → K_X12_lastOf (mL M) (mV M) (2 : Int32) (2 : Int32) σ (fun r3 σ2 => Qk r3 σ2)))) : PS M 0 [(0, .ref 74)] [] σ (0, 0) := by
  refine P_aload_n C dX12_gap_0 0 rfl ?_
  refine P_getI C fa_X12_gap_95 kd_74 rfl (fxl fx_74) dX12_gap_1 ?_
  refine P_if_ge C dX12_gap_4 (tgt := 16) (by decide +kernel) (fun q1 => ?_) (fun q1 => ?_)
  · have h := h.1 q1
    refine P_aload_n C dX12_gap_16 0 rfl ?_
    refine P_getI C fa_X12_gap_95 kd_74 rfl (fxl fx_74) dX12_gap_17 ?_
    exact P_iret C dX12_gap_20 h
  · have h := h.2 q1
    refine P_aload_n C dX12_gap_7 0 rfl ?_
    refine P_iconst C dX12_gap_8 (v := (2 : Int32)) rfl ?_
    refine P_iconst C dX12_gap_9 (v := (2 : Int32)) rfl ?_
    refine P_ci (R_v (ci := 12) C kv_X12_gap_X12_lastOf (As := [.int (2 : Int32), .int (2 : Int32)]) rfl kd_74 rfl (fxl fx_74) (Nat.le_of_ble_eq_true rfl) dX12_gap_10 ⟨Nat.le_refl _, Nat.le_refl _⟩ h) (fun r3 σ2 h => ?_)
    refine P_goto C dX12_gap_13 (tgt := 20) (by decide +kernel) ?_
    exact P_iret C dX12_gap_20 h
theorem kv_X12_fieldLong_X12_lastOf : KV RX12 wsX12_fieldLong (rmz 2) 303 RX12 yX12_lastOf wsX12_lastOf (rmz 1) 2 := ⟨_, _, _, _, gX12_fieldLong_X12_lastOf, rfl, by decide +kernel, by decide +kernel⟩
theorem kv_X12_fieldLong_X12_most : KV RX12 wsX12_fieldLong (rmz 2) 307 RX12 yX12_most wsX12_most (rmz 0) 2 := ⟨_, _, _, _, gX12_fieldLong_X12_most, rfl, by decide +kernel, by decide +kernel⟩
noncomputable def K_X12_fieldLong (l : Launch) (V : Vx) (σ : Sg) (Qk : Int32 → Sg → Prop) : Prop := Ka l V yX12_fieldLong wsX12_fieldLong (rmz 2) 0 0 [.ref 74] σ (QI V Qk)
theorem e_X12_fieldLong {l : Launch} {V : Vx} {σ : Sg} {Qk : Int32 → Sg → Prop} (h : ∀ M : Mx, mL M = l → mV M = V → mN M = 1 → Cx M cX12_fieldLong (some .int) RX12 wsX12_fieldLong (rmz 2) 0 0 (QI (mV M) Qk) → PS M 0 [(0, .ref 74)] [] σ (0, 0)) : K_X12_fieldLong l V σ Qk :=
  Ka_of (by decide +kernel) rfl rfl (Nat.le_of_ble_eq_true rfl) (fun M h1 h2 h3 C => h M h1 h2 h3 (by rw [h2]; exact C))
set_option maxRecDepth 100000 in
set_option maxHeartbeats 4000000 in
theorem s_X12_fieldLong_0 {M : Mx} {Qk : Int32 → Sg → Prop} (C : Cx M cX12_fieldLong (some .int) RX12 wsX12_fieldLong (rmz 2) 0 0 (QI (mV M) Qk)) (hN : mN M = 1) {σ : Sg} (h : K_X12_lastOf (mL M) (mV M) (4 : Int32) (60 : Int32) σ (fun r2 σ1 => K_X12_most (mL M) (mV M) (1 : Int32) r2 σ1 (fun r4 σ3 => Qk r4 σ3))) : PS M 0 [(0, .ref 74)] [] σ (0, 0) := by
  refine P_aload_n C dX12_fieldLong_0 0 rfl ?_
  refine P_iconst C dX12_fieldLong_1 (v := (1 : Int32)) rfl ?_
  refine P_aload_n C dX12_fieldLong_2 0 rfl ?_
  refine P_iconst C dX12_fieldLong_3 (v := (4 : Int32)) rfl ?_
  refine P_bipush C dX12_fieldLong_4 (v := (60 : Int32)) rfl ?_
  refine P_ci (R_v (ci := 12) C kv_X12_fieldLong_X12_lastOf (As := [.int (4 : Int32), .int (60 : Int32)]) rfl kd_74 rfl (fxl fx_74) (Nat.le_of_ble_eq_true rfl) dX12_fieldLong_6 ⟨Nat.le_refl _, Nat.le_refl _⟩ h) (fun r2 σ1 h => ?_)
  refine P_ci (R_v (ci := 12) C kv_X12_fieldLong_X12_most (As := [.int (1 : Int32), .int r2]) rfl kd_74 rfl (fxl fx_74) (Nat.le_of_ble_eq_true rfl) dX12_fieldLong_9 ⟨Nat.le_refl _, Nat.le_refl _⟩ h) (fun r4 σ3 h => ?_)
  exact P_iret C dX12_fieldLong_12 h
theorem pa_X12_paceAt_102 : PA RX12 wsX12_paceAt 102 12 30 "NineMowersModel" .int := by
  show _ ∧ _ ∧ _ ∧ _ ∧ _ ∧ _ ∧ _ ∧ _
  exact ⟨by decide +kernel, fun _ h => List.mem_cons_of_mem _ (List.mem_append_right _ h), List.mem_of_getElem? (i := 1) rfl, rfl, rfl, by decide +kernel, ⟨tyX12, tyX12_ok⟩, nmX12⟩
theorem kv_X12_paceAt_X12_begin : KV RX12 wsX12_paceAt (rmz 2) 297 RX12 yX12_begin wsX12_begin (rmz 0) 0 := ⟨_, _, _, _, gX12_paceAt_X12_begin, rfl, by decide +kernel, by decide +kernel⟩
theorem kv_X12_paceAt_X12_behind : KV RX12 wsX12_paceAt (rmz 2) 300 RX12 yX12_behind wsX12_behind (rmz 0) 0 := ⟨_, _, _, _, gX12_paceAt_X12_behind, rfl, by decide +kernel, by decide +kernel⟩
theorem kv_X12_paceAt_X12_most : KV RX12 wsX12_paceAt (rmz 2) 307 RX12 yX12_most wsX12_most (rmz 0) 2 := ⟨_, _, _, _, gX12_paceAt_X12_most, rfl, by decide +kernel, by decide +kernel⟩
theorem fa_X12_paceAt_65 : FA RX12 wsX12_paceAt 65 12 18 "NineMowersModel" := by
  show _ ∧ _ ∧ _ ∧ _
  exact ⟨by decide +kernel, fun _ h => List.mem_cons_of_mem _ (List.mem_append_right _ h), List.mem_of_getElem? (i := 2) rfl, Or.inl rfl⟩
theorem fa_X12_paceAt_41 : FA RX12 wsX12_paceAt 41 12 10 "NineMowersModel" := by
  show _ ∧ _ ∧ _ ∧ _
  exact ⟨by decide +kernel, fun _ h => List.mem_cons_of_mem _ (List.mem_append_right _ h), List.mem_of_getElem? (i := 3) rfl, Or.inl rfl⟩
theorem kv_X12_paceAt_X12_holds : KV RX12 wsX12_paceAt (rmz 2) 313 RX12 yX12_holds wsX12_holds (rmz 1) 2 := ⟨_, _, _, _, gX12_paceAt_X12_holds, rfl, by decide +kernel, by decide +kernel⟩
theorem fa_X12_paceAt_68 : FA RX12 wsX12_paceAt 68 12 19 "NineMowersModel" := by
  show _ ∧ _ ∧ _ ∧ _
  exact ⟨by decide +kernel, fun _ h => List.mem_cons_of_mem _ (List.mem_append_right _ h), List.mem_of_getElem? (i := 4) rfl, Or.inl rfl⟩
noncomputable def K_X12_paceAt (l : Launch) (V : Vx) (a1 : Int32) (σ : Sg) (Qk : Int32 → Sg → Prop) : Prop := Ka l V yX12_paceAt wsX12_paceAt (rmz 2) 0 0 [.ref 74, .int a1] σ (QI V Qk)
theorem e_X12_paceAt {l : Launch} {V : Vx} {a1 : Int32} {σ : Sg} {Qk : Int32 → Sg → Prop} (h : ∀ M : Mx, mL M = l → mV M = V → mN M = 4 → Cx M cX12_paceAt (some .int) RX12 wsX12_paceAt (rmz 2) 0 0 (QI (mV M) Qk) → PS M 0 [(0, .ref 74), (1, .int a1)] [] σ (0, 0)) : K_X12_paceAt l V a1 σ Qk :=
  Ka_of (by decide +kernel) rfl rfl (Nat.le_of_ble_eq_true rfl) (fun M h1 h2 h3 C => h M h1 h2 h3 (by rw [h2]; exact C))
set_option maxRecDepth 100000 in
set_option maxHeartbeats 4000000 in
theorem s_X12_paceAt_0 {M : Mx} {Qk : Int32 → Sg → Prop} (C : Cx M cX12_paceAt (some .int) RX12 wsX12_paceAt (rmz 2) 0 0 (QI (mV M) Qk)) (hN : mN M = 4) {a1 : Int32} {σ : Sg} (h : (∀ σ1 : Sg, σ1 = si σ 74 30 a1 → K_X12_begin (mL M) (mV M) σ1 (fun r3 σ2 => PS M 13 [(0, .ref 74), (1, .int a1), (2, .int (6 : Int32)), (3, .int r3)] [] σ2 (0, 0)))) : PS M 0 [(0, .ref 74), (1, .int a1)] [] σ (0, 0) := by
  refine P_aload_n C dX12_paceAt_0 0 rfl ?_
  refine P_iload_n C dX12_paceAt_1 1 rfl ?_
  refine P_putI C pa_X12_paceAt_102 kd_74 rfl (fxl fx_74) dX12_paceAt_2 ?_
  refine P_nm (fun σ1 eσ1 => ?_)
  have h := h σ1 eσ1
  refine P_bipush C dX12_paceAt_5 (v := (6 : Int32)) rfl ?_
  refine P_istore_n C dX12_paceAt_7 (by rw [hN]; decide) rfl ?_
  refine P_aload_n C dX12_paceAt_8 1 rfl ?_
  refine P_ci (R_v (ci := 12) C kv_X12_paceAt_X12_begin (As := []) rfl kd_74 rfl (fxl fx_74) (Nat.le_of_ble_eq_true rfl) dX12_paceAt_9 ⟨Nat.le_refl _, Nat.le_refl _⟩ h) (fun r3 σ2 h => ?_)
  refine P_istore_n C dX12_paceAt_12 (by rw [hN]; decide) rfl ?_
  exact P_sub [2, 3, 1, 0] rfl h
set_option maxRecDepth 100000 in
set_option maxHeartbeats 4000000 in
theorem s_X12_paceAt_13 {M : Mx} {Qk : Int32 → Sg → Prop} (C : Cx M cX12_paceAt (some .int) RX12 wsX12_paceAt (rmz 2) 0 0 (QI (mV M) Qk)) (hN : mN M = 4) {x1 : Int32} {x2 : Int32} {x3 : Int32} {σ : Sg} (h : K_X12_behind (mL M) (mV M) σ (fun r2 σ1 => ((r2 ≤ x3 → K_X12_most (mL M) (mV M) (0 : Int32) x2 σ1 (fun r5 σ4 => Qk r5 σ4)) ∧ (¬ r2 ≤ x3 → (vp_in x3 60 ∧ (((1 : Int32) < (gi σ1 118 x3.toNatClampNeg) → (∀ v8 : Int32, v8 = x3 + 1 → PS M 13 [(0, .ref 74), (1, .int x1), (2, .int x2), (3, .int v8)] [] σ1 (0, 0))) ∧ (¬ (1 : Int32) < (gi σ1 118 x3.toNatClampNeg) → (vp_in x1 6 ∧ K_X12_holds (mL M) (mV M) x3 (gi σ1 110 x1.toNatClampNeg) σ1 (fun r11 σ10 => ((¬ r11 = 0 → (vp_in x3 60 ∧ ((¬ (gi σ10 118 x3.toNatClampNeg) = 0 → (vp_in x3 60 ∧ (∀ v16 : Int32, v16 = x2 + (-(gi σ10 119 x3.toNatClampNeg)) → (∀ v17 : Int32, v17 = x3 + 1 → PS M 13 [(0, .ref 74), (1, .int x1), (2, .int v16), (3, .int v17)] [] σ10 (0, 0))))) ∧ ((gi σ10 118 x3.toNatClampNeg) = 0 → (vp_in x3 60 ∧ (∀ v19 : Int32, v19 = x2 + (gi σ10 119 x3.toNatClampNeg) → (∀ v20 : Int32, v20 = x3 + 1 → PS M 13 [(0, .ref 74), (1, .int x1), (2, .int v19), (3, .int v20)] [] σ10 (0, 0)))))))) ∧ (r11 = 0 → (∀ v21 : Int32, v21 = x3 + 1 → PS M 13 [(0, .ref 74), (1, .int x1), (2, .int x2), (3, .int v21)] [] σ10 (0, 0))))))))))))) : PS M 13 [(0, .ref 74), (1, .int x1), (2, .int x2), (3, .int x3)] [] σ (0, 0) := by
  refine P_iload_n C dX12_paceAt_13 3 rfl ?_
  refine P_aload_n C dX12_paceAt_14 0 rfl ?_
  refine P_ci (R_v (ci := 12) C kv_X12_paceAt_X12_behind (As := []) rfl kd_74 rfl (fxl fx_74) (Nat.le_of_ble_eq_true rfl) dX12_paceAt_15 ⟨Nat.le_refl _, Nat.le_refl _⟩ h) (fun r2 σ1 h => ?_)
  refine P_icmp_ge C dX12_paceAt_18 (tgt := 82) (by decide +kernel) (fun q3 => ?_) (fun q3 => ?_)
  · have h := h.1 q3
    refine P_aload_n C dX12_paceAt_82 0 rfl ?_
    refine P_iconst C dX12_paceAt_83 (v := (0 : Int32)) rfl ?_
    refine P_iload_n C dX12_paceAt_84 2 rfl ?_
    refine P_ci (R_v (ci := 12) C kv_X12_paceAt_X12_most (As := [.int (0 : Int32), .int x2]) rfl kd_74 rfl (fxl fx_74) (Nat.le_of_ble_eq_true rfl) dX12_paceAt_85 ⟨Nat.le_refl _, Nat.le_refl _⟩ h) (fun r5 σ4 h => ?_)
    exact P_iret C dX12_paceAt_88 h
  · have h := h.2 q3
    refine P_aload_n C dX12_paceAt_21 0 rfl ?_
    refine P_getS C (e := 118) fa_X12_paceAt_65 kd_74 (d := 44) rfl (fxl fx_74) rfl dX12_paceAt_22 ?_
    refine P_iload_n C dX12_paceAt_25 3 rfl ?_
    obtain ⟨hv6, h⟩ := h
    refine P_iald C kd_118 (fxl fx_118) hv6 dX12_paceAt_26 ?_
    refine P_iconst C dX12_paceAt_27 (v := (1 : Int32)) rfl ?_
    refine P_icmp_gt C dX12_paceAt_28 (tgt := 76) (by decide +kernel) (fun q7 => ?_) (fun q7 => ?_)
    · have h := h.1 q7
      obtain ⟨v8, ev8⟩ : ∃ v : Int32, v = x3 + 1 := ⟨_, rfl⟩
      have h := h v8 ev8
      refine P_iinc (v := v8) C dX12_paceAt_76 3 rfl (by rw [ev8]; rfl) (by rw [hN]; decide) rfl ?_
      refine P_goto C dX12_paceAt_79 (tgt := 13) (by decide +kernel) ?_
      exact P_sub [1, 2, 3, 0] rfl h
    · have h := h.2 q7
      refine P_aload_n C dX12_paceAt_31 0 rfl ?_
      refine P_iload_n C dX12_paceAt_32 3 rfl ?_
      refine P_aload_n C dX12_paceAt_33 0 rfl ?_
      refine P_getS C (e := 110) fa_X12_paceAt_41 kd_74 (d := 36) rfl (fxl fx_74) rfl dX12_paceAt_34 ?_
      refine P_iload_n C dX12_paceAt_37 1 rfl ?_
      obtain ⟨hv9, h⟩ := h
      refine P_iald C kd_110 (fxl fx_110) hv9 dX12_paceAt_38 ?_
      refine P_ci (R_v (ci := 12) C kv_X12_paceAt_X12_holds (As := [.int x3, .int (gi σ1 110 x1.toNatClampNeg)]) rfl kd_74 rfl (fxl fx_74) (Nat.le_of_ble_eq_true rfl) dX12_paceAt_39 ⟨Nat.le_refl _, Nat.le_refl _⟩ h) (fun r11 σ10 h => ?_)
      refine P_if_ne C dX12_paceAt_42 (tgt := 48) (by decide +kernel) (fun q12 => ?_) (fun q12 => ?_)
      · have h := h.1 q12
        refine P_iload_n C dX12_paceAt_48 2 rfl ?_
        refine P_aload_n C dX12_paceAt_49 0 rfl ?_
        refine P_getS C (e := 118) fa_X12_paceAt_65 kd_74 (d := 44) rfl (fxl fx_74) rfl dX12_paceAt_50 ?_
        refine P_iload_n C dX12_paceAt_53 3 rfl ?_
        obtain ⟨hv13, h⟩ := h
        refine P_iald C kd_118 (fxl fx_118) hv13 dX12_paceAt_54 ?_
        refine P_if_ne C dX12_paceAt_55 (tgt := 67) (by decide +kernel) (fun q14 => ?_) (fun q14 => ?_)
        · have h := h.1 q14
          refine P_aload_n C dX12_paceAt_67 0 rfl ?_
          refine P_getS C (e := 119) fa_X12_paceAt_68 kd_74 (d := 45) rfl (fxl fx_74) rfl dX12_paceAt_68 ?_
          refine P_iload_n C dX12_paceAt_71 3 rfl ?_
          obtain ⟨hv15, h⟩ := h
          refine P_iald C kd_119 (fxl fx_119) hv15 dX12_paceAt_72 ?_
          refine P_ineg C dX12_paceAt_73 ?_
          refine P_iadd C dX12_paceAt_74 ?_
          refine P_nmi (fun v16 ev16 => ?_)
          have h := h v16 ev16
          refine P_istore_n C dX12_paceAt_75 (by rw [hN]; decide) rfl ?_
          obtain ⟨v17, ev17⟩ : ∃ v : Int32, v = x3 + 1 := ⟨_, rfl⟩
          have h := h v17 ev17
          refine P_iinc (v := v17) C dX12_paceAt_76 3 rfl (by rw [ev17]; rfl) (by rw [hN]; decide) rfl ?_
          refine P_goto C dX12_paceAt_79 (tgt := 13) (by decide +kernel) ?_
          exact P_sub [2, 3, 1, 0] rfl h
        · have h := h.2 q14
          refine P_aload_n C dX12_paceAt_58 0 rfl ?_
          refine P_getS C (e := 119) fa_X12_paceAt_68 kd_74 (d := 45) rfl (fxl fx_74) rfl dX12_paceAt_59 ?_
          refine P_iload_n C dX12_paceAt_62 3 rfl ?_
          obtain ⟨hv18, h⟩ := h
          refine P_iald C kd_119 (fxl fx_119) hv18 dX12_paceAt_63 ?_
          refine P_goto C dX12_paceAt_64 (tgt := 74) (by decide +kernel) ?_
          refine P_iadd C dX12_paceAt_74 ?_
          refine P_nmi (fun v19 ev19 => ?_)
          have h := h v19 ev19
          refine P_istore_n C dX12_paceAt_75 (by rw [hN]; decide) rfl ?_
          obtain ⟨v20, ev20⟩ : ∃ v : Int32, v = x3 + 1 := ⟨_, rfl⟩
          have h := h v20 ev20
          refine P_iinc (v := v20) C dX12_paceAt_76 3 rfl (by rw [ev20]; rfl) (by rw [hN]; decide) rfl ?_
          refine P_goto C dX12_paceAt_79 (tgt := 13) (by decide +kernel) ?_
          exact P_sub [2, 3, 1, 0] rfl h
      · have h := h.2 q12
        refine P_goto C dX12_paceAt_45 (tgt := 76) (by decide +kernel) ?_
        obtain ⟨v21, ev21⟩ : ∃ v : Int32, v = x3 + 1 := ⟨_, rfl⟩
        have h := h v21 ev21
        refine P_iinc (v := v21) C dX12_paceAt_76 3 rfl (by rw [ev21]; rfl) (by rw [hN]; decide) rfl ?_
        refine P_goto C dX12_paceAt_79 (tgt := 13) (by decide +kernel) ?_
        exact P_sub [1, 2, 3, 0] rfl h
theorem fa_X12_whet_13 : FA RX12 wsX12_whet 13 12 1 "NineMowersModel" := by
  show _ ∧ _ ∧ _ ∧ _
  exact ⟨by decide +kernel, fun _ h => List.mem_cons_of_mem _ (List.mem_append_right _ h), List.mem_of_getElem? (i := 1) rfl, Or.inl rfl⟩
theorem kv_X12_whet_X12_goWhet : KV RX12 wsX12_whet (rmz 2) 347 RX12 yX12_goWhet wsX12_goWhet (rmz 1) 0 := ⟨_, _, _, _, gX12_whet_X12_goWhet, rfl, by decide +kernel, by decide +kernel⟩
noncomputable def K_X12_whet (l : Launch) (V : Vx) (σ : Sg) (Qk : Int32 → Sg → Prop) : Prop := Ka l V yX12_whet wsX12_whet (rmz 2) 0 0 [.ref 74] σ (QI V Qk)
theorem e_X12_whet {l : Launch} {V : Vx} {σ : Sg} {Qk : Int32 → Sg → Prop} (h : ∀ M : Mx, mL M = l → mV M = V → mN M = 1 → Cx M cX12_whet (some .int) RX12 wsX12_whet (rmz 2) 0 0 (QI (mV M) Qk) → PS M 0 [(0, .ref 74)] [] σ (0, 0)) : K_X12_whet l V σ Qk :=
  Ka_of (by decide +kernel) rfl rfl (Nat.le_of_ble_eq_true rfl) (fun M h1 h2 h3 C => h M h1 h2 h3 (by rw [h2]; exact C))
set_option maxRecDepth 100000 in
set_option maxHeartbeats 4000000 in
theorem s_X12_whet_0 {M : Mx} {Qk : Int32 → Sg → Prop} (C : Cx M cX12_whet (some .int) RX12 wsX12_whet (rmz 2) 0 0 (QI (mV M) Qk)) (hN : mN M = 1) {σ : Sg} (h : ((¬ (gi σ 74 1) = (9999 : Int32) → K_X12_goWhet (mL M) (mV M) σ (fun σ2 => Qk (gi σ2 74 1) σ2)) ∧ ((gi σ 74 1) = (9999 : Int32) → Qk (-3 : Int32) σ))) : PS M 0 [(0, .ref 74)] [] σ (0, 0) := by
  refine P_aload_n C dX12_whet_0 0 rfl ?_
  refine P_getI C fa_X12_whet_13 kd_74 rfl (fxl fx_74) dX12_whet_1 ?_
  refine P_sipush C dX12_whet_4 (v := (9999 : Int32)) rfl ?_
  refine P_icmp_ne C dX12_whet_7 (tgt := 13) (by decide +kernel) (fun q1 => ?_) (fun q1 => ?_)
  · have h := h.1 q1
    refine P_aload_n C dX12_whet_13 0 rfl ?_
    refine P_cv (R_v (ci := 12) C kv_X12_whet_X12_goWhet (As := []) rfl kd_74 rfl (fxl fx_74) (Nat.le_of_ble_eq_true rfl) dX12_whet_14 ⟨Nat.le_refl _, Nat.le_refl _⟩ h) (fun σ2 h => ?_)
    refine P_aload_n C dX12_whet_17 0 rfl ?_
    refine P_getI C fa_X12_whet_13 kd_74 rfl (fxl fx_74) dX12_whet_18 ?_
    exact P_iret C dX12_whet_21 h
  · have h := h.2 q1
    refine P_bipush C dX12_whet_10 (v := (-3 : Int32)) rfl ?_
    exact P_iret C dX12_whet_12 h
theorem kv_X12_pause_X12_in : KV RX12 wsX12_pause (rmz 2) 239 RX12 yX12_in wsX12_in (rmz 0) 3 := ⟨_, _, _, _, gX12_pause_X12_in, rfl, by decide +kernel, by decide +kernel⟩
theorem fa_X12_pause_13 : FA RX12 wsX12_pause 13 12 1 "NineMowersModel" := by
  show _ ∧ _ ∧ _ ∧ _
  exact ⟨by decide +kernel, fun _ h => List.mem_cons_of_mem _ (List.mem_append_right _ h), List.mem_of_getElem? (i := 1) rfl, Or.inl rfl⟩
theorem kv_X12_pause_X12_goPause : KV RX12 wsX12_pause (rmz 2) 350 RX12 yX12_goPause wsX12_goPause (rmz 1) 1 := ⟨_, _, _, _, gX12_pause_X12_goPause, rfl, by decide +kernel, by decide +kernel⟩
noncomputable def K_X12_pause (l : Launch) (V : Vx) (a1 : Int32) (σ : Sg) (Qk : Int32 → Sg → Prop) : Prop := Ka l V yX12_pause wsX12_pause (rmz 2) 0 0 [.ref 74, .int a1] σ (QI V Qk)
theorem e_X12_pause {l : Launch} {V : Vx} {a1 : Int32} {σ : Sg} {Qk : Int32 → Sg → Prop} (h : ∀ M : Mx, mL M = l → mV M = V → mN M = 2 → Cx M cX12_pause (some .int) RX12 wsX12_pause (rmz 2) 0 0 (QI (mV M) Qk) → PS M 0 [(0, .ref 74), (1, .int a1)] [] σ (0, 0)) : K_X12_pause l V a1 σ Qk :=
  Ka_of (by decide +kernel) rfl rfl (Nat.le_of_ble_eq_true rfl) (fun M h1 h2 h3 C => h M h1 h2 h3 (by rw [h2]; exact C))
set_option maxRecDepth 100000 in
set_option maxHeartbeats 4000000 in
theorem s_X12_pause_0 {M : Mx} {Qk : Int32 → Sg → Prop} (C : Cx M cX12_pause (some .int) RX12 wsX12_pause (rmz 2) 0 0 (QI (mV M) Qk)) (hN : mN M = 2) {a1 : Int32} {σ : Sg} (h : K_X12_in (mL M) (mV M) a1 (1 : Int32) (60 : Int32) σ (fun r2 σ1 => ((¬ r2 = 0 → ((((gi σ1 74 1) + a1) ≤ (9999 : Int32) → K_X12_goPause (mL M) (mV M) a1 σ1 (fun σ5 => Qk (gi σ5 74 1) σ5)) ∧ (¬ ((gi σ1 74 1) + a1) ≤ (9999 : Int32) → Qk (-3 : Int32) σ1))) ∧ (r2 = 0 → Qk (-2 : Int32) σ1)))) : PS M 0 [(0, .ref 74), (1, .int a1)] [] σ (0, 0) := by
  refine P_aload_n C dX12_pause_0 0 rfl ?_
  refine P_iload_n C dX12_pause_1 1 rfl ?_
  refine P_iconst C dX12_pause_2 (v := (1 : Int32)) rfl ?_
  refine P_bipush C dX12_pause_3 (v := (60 : Int32)) rfl ?_
  refine P_ci (R_v (ci := 12) C kv_X12_pause_X12_in (As := [.int a1, .int (1 : Int32), .int (60 : Int32)]) rfl kd_74 rfl (fxl fx_74) (Nat.le_of_ble_eq_true rfl) dX12_pause_5 ⟨Nat.le_refl _, Nat.le_refl _⟩ h) (fun r2 σ1 h => ?_)
  refine P_if_ne C dX12_pause_8 (tgt := 14) (by decide +kernel) (fun q3 => ?_) (fun q3 => ?_)
  · have h := h.1 q3
    refine P_aload_n C dX12_pause_14 0 rfl ?_
    refine P_getI C fa_X12_pause_13 kd_74 rfl (fxl fx_74) dX12_pause_15 ?_
    refine P_iload_n C dX12_pause_18 1 rfl ?_
    refine P_iadd C dX12_pause_19 ?_
    refine P_sipush C dX12_pause_20 (v := (9999 : Int32)) rfl ?_
    refine P_icmp_le C dX12_pause_23 (tgt := 29) (by decide +kernel) (fun q4 => ?_) (fun q4 => ?_)
    · have h := h.1 q4
      refine P_aload_n C dX12_pause_29 0 rfl ?_
      refine P_iload_n C dX12_pause_30 1 rfl ?_
      refine P_cv (R_v (ci := 12) C kv_X12_pause_X12_goPause (As := [.int a1]) rfl kd_74 rfl (fxl fx_74) (Nat.le_of_ble_eq_true rfl) dX12_pause_31 ⟨Nat.le_refl _, Nat.le_refl _⟩ h) (fun σ5 h => ?_)
      refine P_aload_n C dX12_pause_34 0 rfl ?_
      refine P_getI C fa_X12_pause_13 kd_74 rfl (fxl fx_74) dX12_pause_35 ?_
      exact P_iret C dX12_pause_38 h
    · have h := h.2 q4
      refine P_bipush C dX12_pause_26 (v := (-3 : Int32)) rfl ?_
      exact P_iret C dX12_pause_28 h
  · have h := h.2 q3
    refine P_bipush C dX12_pause_11 (v := (-2 : Int32)) rfl ?_
    exact P_iret C dX12_pause_13 h
theorem kv_X12_see_X12_isMower : KV RX12 wsX12_see (rmz 2) 243 RX12 yX12_isMower wsX12_isMower (rmz 1) 1 := ⟨_, _, _, _, gX12_see_X12_isMower, rfl, by decide +kernel, by decide +kernel⟩
theorem kv_X12_see_X12_in : KV RX12 wsX12_see (rmz 2) 239 RX12 yX12_in wsX12_in (rmz 0) 3 := ⟨_, _, _, _, gX12_see_X12_in, rfl, by decide +kernel, by decide +kernel⟩
theorem fa_X12_see_135 : FA RX12 wsX12_see 135 12 41 "NineMowersModel" := by
  show _ ∧ _ ∧ _ ∧ _
  exact ⟨by decide +kernel, fun _ h => List.mem_cons_of_mem _ (List.mem_append_right _ h), List.mem_of_getElem? (i := 1) rfl, Or.inl rfl⟩
theorem fa_X12_see_138 : FA RX12 wsX12_see 138 12 42 "NineMowersModel" := by
  show _ ∧ _ ∧ _ ∧ _
  exact ⟨by decide +kernel, fun _ h => List.mem_cons_of_mem _ (List.mem_append_right _ h), List.mem_of_getElem? (i := 2) rfl, Or.inl rfl⟩
theorem fa_X12_see_141 : FA RX12 wsX12_see 141 12 43 "NineMowersModel" := by
  show _ ∧ _ ∧ _ ∧ _
  exact ⟨by decide +kernel, fun _ h => List.mem_cons_of_mem _ (List.mem_append_right _ h), List.mem_of_getElem? (i := 3) rfl, Or.inl rfl⟩
theorem fa_X12_see_144 : FA RX12 wsX12_see 144 12 44 "NineMowersModel" := by
  show _ ∧ _ ∧ _ ∧ _
  exact ⟨by decide +kernel, fun _ h => List.mem_cons_of_mem _ (List.mem_append_right _ h), List.mem_of_getElem? (i := 4) rfl, Or.inl rfl⟩
theorem pa_X12_see_135 : PA RX12 wsX12_see 135 12 41 "NineMowersModel" .int := by
  show _ ∧ _ ∧ _ ∧ _ ∧ _ ∧ _ ∧ _ ∧ _
  exact ⟨by decide +kernel, fun _ h => List.mem_cons_of_mem _ (List.mem_append_right _ h), List.mem_of_getElem? (i := 1) rfl, rfl, rfl, by decide +kernel, ⟨tyX12, tyX12_ok⟩, nmX12⟩
noncomputable def K_X12_see (l : Launch) (V : Vx) (a1 : Int32) (a2 : Int32) (a3 : Int32) (σ : Sg) (Qk : Int32 → Sg → Prop) : Prop := Ka l V yX12_see wsX12_see (rmz 2) 0 0 [.ref 74, .int a1, .int a2, .int a3] σ (QI V Qk)
theorem e_X12_see {l : Launch} {V : Vx} {a1 : Int32} {a2 : Int32} {a3 : Int32} {σ : Sg} {Qk : Int32 → Sg → Prop} (h : ∀ M : Mx, mL M = l → mV M = V → mN M = 4 → Cx M cX12_see (some .int) RX12 wsX12_see (rmz 2) 0 0 (QI (mV M) Qk) → PS M 0 [(0, .ref 74), (1, .int a1), (2, .int a2), (3, .int a3)] [] σ (0, 0)) : K_X12_see l V a1 a2 a3 σ Qk :=
  Ka_of (by decide +kernel) rfl rfl (Nat.le_of_ble_eq_true rfl) (fun M h1 h2 h3 C => h M h1 h2 h3 (by rw [h2]; exact C))
set_option maxRecDepth 100000 in
set_option maxHeartbeats 4000000 in
theorem s_X12_see_0 {M : Mx} {Qk : Int32 → Sg → Prop} (C : Cx M cX12_see (some .int) RX12 wsX12_see (rmz 2) 0 0 (QI (mV M) Qk)) (hN : mN M = 4) {a1 : Int32} {a2 : Int32} {a3 : Int32} {σ : Sg} (h : ((¬ a1 = (-1 : Int32) → K_X12_isMower (mL M) (mV M) a1 σ (fun r3 σ2 => ((¬ r3 = 0 → K_X12_in (mL M) (mV M) a2 (0 : Int32) (30 : Int32) σ2 (fun r6 σ5 => ((r6 = 0 → Qk (-2 : Int32) σ5) ∧ (¬ r6 = 0 → K_X12_in (mL M) (mV M) a3 (0 : Int32) (9999 : Int32) σ5 (fun r9 σ8 => ((¬ r9 = 0 → ((¬ (gi σ8 74 41) = (6 : Int32) → (vp_in (gi σ8 74 41) 6 ∧ (∀ σ13 : Sg, σ13 = si σ8 142 (gi σ8 74 41).toNatClampNeg a1 → (vp_in (gi σ13 74 41) 6 ∧ (∀ σ15 : Sg, σ15 = si σ13 143 (gi σ13 74 41).toNatClampNeg a2 → (vp_in (gi σ15 74 41) 6 ∧ (∀ σ17 : Sg, σ17 = si σ15 144 (gi σ15 74 41).toNatClampNeg a3 → (∀ σ18 : Sg, σ18 = si σ17 74 41 ((gi σ17 74 41) + (1 : Int32)) → Qk (gi σ18 74 41) σ18)))))))) ∧ ((gi σ8 74 41) = (6 : Int32) → Qk (-4 : Int32) σ8))) ∧ (r9 = 0 → Qk (-2 : Int32) σ8))))))) ∧ (r3 = 0 → Qk (-1 : Int32) σ2)))) ∧ (a1 = (-1 : Int32) → (∀ σ19 : Sg, σ19 = si σ 74 41 (0 : Int32) → Qk (0 : Int32) σ19)))) : PS M 0 [(0, .ref 74), (1, .int a1), (2, .int a2), (3, .int a3)] [] σ (0, 0) := by
  refine P_iload_n C dX12_see_0 1 rfl ?_
  refine P_iconst C dX12_see_1 (v := (-1 : Int32)) rfl ?_
  refine P_icmp_ne C dX12_see_2 (tgt := 12) (by decide +kernel) (fun q1 => ?_) (fun q1 => ?_)
  · have h := h.1 q1
    refine P_aload_n C dX12_see_12 0 rfl ?_
    refine P_iload_n C dX12_see_13 1 rfl ?_
    refine P_ci (R_v (ci := 12) C kv_X12_see_X12_isMower (As := [.int a1]) rfl kd_74 rfl (fxl fx_74) (Nat.le_of_ble_eq_true rfl) dX12_see_14 ⟨Nat.le_refl _, Nat.le_refl _⟩ h) (fun r3 σ2 h => ?_)
    refine P_if_ne C dX12_see_17 (tgt := 22) (by decide +kernel) (fun q4 => ?_) (fun q4 => ?_)
    · have h := h.1 q4
      refine P_aload_n C dX12_see_22 0 rfl ?_
      refine P_iload_n C dX12_see_23 2 rfl ?_
      refine P_iconst C dX12_see_24 (v := (0 : Int32)) rfl ?_
      refine P_bipush C dX12_see_25 (v := (30 : Int32)) rfl ?_
      refine P_ci (R_v (ci := 12) C kv_X12_see_X12_in (As := [.int a2, .int (0 : Int32), .int (30 : Int32)]) rfl kd_74 rfl (fxl fx_74) (Nat.le_of_ble_eq_true rfl) dX12_see_27 ⟨Nat.le_refl _, Nat.le_refl _⟩ h) (fun r6 σ5 h => ?_)
      refine P_if_eq C dX12_see_30 (tgt := 45) (by decide +kernel) (fun q7 => ?_) (fun q7 => ?_)
      · have h := h.1 q7
        refine P_bipush C dX12_see_45 (v := (-2 : Int32)) rfl ?_
        exact P_iret C dX12_see_47 h
      · have h := h.2 q7
        refine P_aload_n C dX12_see_33 0 rfl ?_
        refine P_iload_n C dX12_see_34 3 rfl ?_
        refine P_iconst C dX12_see_35 (v := (0 : Int32)) rfl ?_
        refine P_sipush C dX12_see_36 (v := (9999 : Int32)) rfl ?_
        refine P_ci (R_v (ci := 12) C kv_X12_see_X12_in (As := [.int a3, .int (0 : Int32), .int (9999 : Int32)]) rfl kd_74 rfl (fxl fx_74) (Nat.le_of_ble_eq_true rfl) dX12_see_39 ⟨Nat.le_refl _, Nat.le_refl _⟩ h) (fun r9 σ8 h => ?_)
        refine P_if_ne C dX12_see_42 (tgt := 48) (by decide +kernel) (fun q10 => ?_) (fun q10 => ?_)
        · have h := h.1 q10
          refine P_aload_n C dX12_see_48 0 rfl ?_
          refine P_getI C fa_X12_see_135 kd_74 rfl (fxl fx_74) dX12_see_49 ?_
          refine P_bipush C dX12_see_52 (v := (6 : Int32)) rfl ?_
          refine P_icmp_ne C dX12_see_54 (tgt := 60) (by decide +kernel) (fun q11 => ?_) (fun q11 => ?_)
          · have h := h.1 q11
            refine P_aload_n C dX12_see_60 0 rfl ?_
            refine P_getS C (e := 142) fa_X12_see_138 kd_74 (d := 68) rfl (fxl fx_74) rfl dX12_see_61 ?_
            refine P_aload_n C dX12_see_64 0 rfl ?_
            refine P_getI C fa_X12_see_135 kd_74 rfl (fxl fx_74) dX12_see_65 ?_
            refine P_iload_n C dX12_see_68 1 rfl ?_
            obtain ⟨hv12, h⟩ := h
            refine P_iast C kd_142 (fxl fx_142) hv12 dX12_see_69 ?_
            refine P_nm (fun σ13 eσ13 => ?_)
            have h := h σ13 eσ13
            refine P_aload_n C dX12_see_70 0 rfl ?_
            refine P_getS C (e := 143) fa_X12_see_141 kd_74 (d := 69) rfl (fxl fx_74) rfl dX12_see_71 ?_
            refine P_aload_n C dX12_see_74 0 rfl ?_
            refine P_getI C fa_X12_see_135 kd_74 rfl (fxl fx_74) dX12_see_75 ?_
            refine P_iload_n C dX12_see_78 2 rfl ?_
            obtain ⟨hv14, h⟩ := h
            refine P_iast C kd_143 (fxl fx_143) hv14 dX12_see_79 ?_
            refine P_nm (fun σ15 eσ15 => ?_)
            have h := h σ15 eσ15
            refine P_aload_n C dX12_see_80 0 rfl ?_
            refine P_getS C (e := 144) fa_X12_see_144 kd_74 (d := 70) rfl (fxl fx_74) rfl dX12_see_81 ?_
            refine P_aload_n C dX12_see_84 0 rfl ?_
            refine P_getI C fa_X12_see_135 kd_74 rfl (fxl fx_74) dX12_see_85 ?_
            refine P_iload_n C dX12_see_88 3 rfl ?_
            obtain ⟨hv16, h⟩ := h
            refine P_iast C kd_144 (fxl fx_144) hv16 dX12_see_89 ?_
            refine P_nm (fun σ17 eσ17 => ?_)
            have h := h σ17 eσ17
            refine P_aload_n C dX12_see_90 0 rfl ?_
            refine P_dup C dX12_see_91 rfl ?_
            refine P_getI C fa_X12_see_135 kd_74 rfl (fxl fx_74) dX12_see_92 ?_
            refine P_iconst C dX12_see_95 (v := (1 : Int32)) rfl ?_
            refine P_iadd C dX12_see_96 ?_
            refine P_putI C pa_X12_see_135 kd_74 rfl (fxl fx_74) dX12_see_97 ?_
            refine P_nm (fun σ18 eσ18 => ?_)
            have h := h σ18 eσ18
            refine P_aload_n C dX12_see_100 0 rfl ?_
            refine P_getI C fa_X12_see_135 kd_74 rfl (fxl fx_74) dX12_see_101 ?_
            exact P_iret C dX12_see_104 h
          · have h := h.2 q11
            refine P_bipush C dX12_see_57 (v := (-4 : Int32)) rfl ?_
            exact P_iret C dX12_see_59 h
        · have h := h.2 q10
          refine P_bipush C dX12_see_45 (v := (-2 : Int32)) rfl ?_
          exact P_iret C dX12_see_47 h
    · have h := h.2 q4
      refine P_iconst C dX12_see_20 (v := (-1 : Int32)) rfl ?_
      exact P_iret C dX12_see_21 h
  · have h := h.2 q1
    refine P_aload_n C dX12_see_5 0 rfl ?_
    refine P_iconst C dX12_see_6 (v := (0 : Int32)) rfl ?_
    refine P_putI C pa_X12_see_135 kd_74 rfl (fxl fx_74) dX12_see_7 ?_
    refine P_nm (fun σ19 eσ19 => ?_)
    have h := h σ19 eσ19
    refine P_iconst C dX12_see_10 (v := (0 : Int32)) rfl ?_
    exact P_iret C dX12_see_11 h
theorem kv_X12_book_X12_isMower : KV RX12 wsX12_book (rmz 2) 243 RX12 yX12_isMower wsX12_isMower (rmz 1) 1 := ⟨_, _, _, _, gX12_book_X12_isMower, rfl, by decide +kernel, by decide +kernel⟩
theorem fa_X12_book_150 : FA RX12 wsX12_book 150 12 46 "NineMowersModel" := by
  show _ ∧ _ ∧ _ ∧ _
  exact ⟨by decide +kernel, fun _ h => List.mem_cons_of_mem _ (List.mem_append_right _ h), List.mem_of_getElem? (i := 1) rfl, Or.inl rfl⟩
theorem fa_X12_book_156 : FA RX12 wsX12_book 156 12 48 "NineMowersModel" := by
  show _ ∧ _ ∧ _ ∧ _
  exact ⟨by decide +kernel, fun _ h => List.mem_cons_of_mem _ (List.mem_append_right _ h), List.mem_of_getElem? (i := 2) rfl, Or.inl rfl⟩
theorem pa_X12_book_150 : PA RX12 wsX12_book 150 12 46 "NineMowersModel" .int := by
  show _ ∧ _ ∧ _ ∧ _ ∧ _ ∧ _ ∧ _ ∧ _
  exact ⟨by decide +kernel, fun _ h => List.mem_cons_of_mem _ (List.mem_append_right _ h), List.mem_of_getElem? (i := 1) rfl, rfl, rfl, by decide +kernel, ⟨tyX12, tyX12_ok⟩, nmX12⟩
noncomputable def K_X12_book (l : Launch) (V : Vx) (a1 : Int32) (σ : Sg) (Qk : Int32 → Sg → Prop) : Prop := Ka l V yX12_book wsX12_book (rmz 2) 0 0 [.ref 74, .int a1] σ (QI V Qk)
theorem e_X12_book {l : Launch} {V : Vx} {a1 : Int32} {σ : Sg} {Qk : Int32 → Sg → Prop} (h : ∀ M : Mx, mL M = l → mV M = V → mN M = 2 → Cx M cX12_book (some .int) RX12 wsX12_book (rmz 2) 0 0 (QI (mV M) Qk) → PS M 0 [(0, .ref 74), (1, .int a1)] [] σ (0, 0)) : K_X12_book l V a1 σ Qk :=
  Ka_of (by decide +kernel) rfl rfl (Nat.le_of_ble_eq_true rfl) (fun M h1 h2 h3 C => h M h1 h2 h3 (by rw [h2]; exact C))
set_option maxRecDepth 100000 in
set_option maxHeartbeats 4000000 in
theorem s_X12_book_0 {M : Mx} {Qk : Int32 → Sg → Prop} (C : Cx M cX12_book (some .int) RX12 wsX12_book (rmz 2) 0 0 (QI (mV M) Qk)) (hN : mN M = 2) {a1 : Int32} {σ : Sg} (h : ((¬ a1 = (-1 : Int32) → K_X12_isMower (mL M) (mV M) a1 σ (fun r3 σ2 => ((¬ r3 = 0 → ((¬ (gi σ2 74 46) = (8 : Int32) → (vp_in (gi σ2 74 46) 8 ∧ (∀ σ7 : Sg, σ7 = si σ2 148 (gi σ2 74 46).toNatClampNeg a1 → (∀ σ8 : Sg, σ8 = si σ7 74 46 ((gi σ7 74 46) + (1 : Int32)) → Qk (gi σ8 74 46) σ8)))) ∧ ((gi σ2 74 46) = (8 : Int32) → Qk (-4 : Int32) σ2))) ∧ (r3 = 0 → Qk (-1 : Int32) σ2)))) ∧ (a1 = (-1 : Int32) → (∀ σ9 : Sg, σ9 = si σ 74 46 (0 : Int32) → Qk (0 : Int32) σ9)))) : PS M 0 [(0, .ref 74), (1, .int a1)] [] σ (0, 0) := by
  refine P_iload_n C dX12_book_0 1 rfl ?_
  refine P_iconst C dX12_book_1 (v := (-1 : Int32)) rfl ?_
  refine P_icmp_ne C dX12_book_2 (tgt := 12) (by decide +kernel) (fun q1 => ?_) (fun q1 => ?_)
  · have h := h.1 q1
    refine P_aload_n C dX12_book_12 0 rfl ?_
    refine P_iload_n C dX12_book_13 1 rfl ?_
    refine P_ci (R_v (ci := 12) C kv_X12_book_X12_isMower (As := [.int a1]) rfl kd_74 rfl (fxl fx_74) (Nat.le_of_ble_eq_true rfl) dX12_book_14 ⟨Nat.le_refl _, Nat.le_refl _⟩ h) (fun r3 σ2 h => ?_)
    refine P_if_ne C dX12_book_17 (tgt := 22) (by decide +kernel) (fun q4 => ?_) (fun q4 => ?_)
    · have h := h.1 q4
      refine P_aload_n C dX12_book_22 0 rfl ?_
      refine P_getI C fa_X12_book_150 kd_74 rfl (fxl fx_74) dX12_book_23 ?_
      refine P_bipush C dX12_book_26 (v := (8 : Int32)) rfl ?_
      refine P_icmp_ne C dX12_book_28 (tgt := 34) (by decide +kernel) (fun q5 => ?_) (fun q5 => ?_)
      · have h := h.1 q5
        refine P_aload_n C dX12_book_34 0 rfl ?_
        refine P_getS C (e := 148) fa_X12_book_156 kd_74 (d := 74) rfl (fxl fx_74) rfl dX12_book_35 ?_
        refine P_aload_n C dX12_book_38 0 rfl ?_
        refine P_getI C fa_X12_book_150 kd_74 rfl (fxl fx_74) dX12_book_39 ?_
        refine P_iload_n C dX12_book_42 1 rfl ?_
        obtain ⟨hv6, h⟩ := h
        refine P_iast C kd_148 (fxl fx_148) hv6 dX12_book_43 ?_
        refine P_nm (fun σ7 eσ7 => ?_)
        have h := h σ7 eσ7
        refine P_aload_n C dX12_book_44 0 rfl ?_
        refine P_dup C dX12_book_45 rfl ?_
        refine P_getI C fa_X12_book_150 kd_74 rfl (fxl fx_74) dX12_book_46 ?_
        refine P_iconst C dX12_book_49 (v := (1 : Int32)) rfl ?_
        refine P_iadd C dX12_book_50 ?_
        refine P_putI C pa_X12_book_150 kd_74 rfl (fxl fx_74) dX12_book_51 ?_
        refine P_nm (fun σ8 eσ8 => ?_)
        have h := h σ8 eσ8
        refine P_aload_n C dX12_book_54 0 rfl ?_
        refine P_getI C fa_X12_book_150 kd_74 rfl (fxl fx_74) dX12_book_55 ?_
        exact P_iret C dX12_book_58 h
      · have h := h.2 q5
        refine P_bipush C dX12_book_31 (v := (-4 : Int32)) rfl ?_
        exact P_iret C dX12_book_33 h
    · have h := h.2 q4
      refine P_iconst C dX12_book_20 (v := (-1 : Int32)) rfl ?_
      exact P_iret C dX12_book_21 h
  · have h := h.2 q1
    refine P_aload_n C dX12_book_5 0 rfl ?_
    refine P_iconst C dX12_book_6 (v := (0 : Int32)) rfl ?_
    refine P_putI C pa_X12_book_150 kd_74 rfl (fxl fx_74) dX12_book_7 ?_
    refine P_nm (fun σ9 eσ9 => ?_)
    have h := h σ9 eσ9
    refine P_iconst C dX12_book_10 (v := (0 : Int32)) rfl ?_
    exact P_iret C dX12_book_11 h
theorem kv_X12_judge_X12_isTape : KV RX12 wsX12_judge (rmz 2) 403 RX12 yX12_isTape wsX12_isTape (rmz 1) 1 := ⟨_, _, _, _, gX12_judge_X12_isTape, rfl, by decide +kernel, by decide +kernel⟩
theorem fa_X12_judge_226 : FA RX12 wsX12_judge 226 12 71 "NineMowersModel" := by
  show _ ∧ _ ∧ _ ∧ _
  exact ⟨by decide +kernel, fun _ h => List.mem_cons_of_mem _ (List.mem_append_right _ h), List.mem_of_getElem? (i := 1) rfl, Or.inl rfl⟩
theorem fa_X12_judge_7 : FA RX12 wsX12_judge 7 12 0 "NineMowersModel" := by
  show _ ∧ _ ∧ _ ∧ _
  exact ⟨by decide +kernel, fun _ h => List.mem_cons_of_mem _ (List.mem_append_right _ h), List.mem_of_getElem? (i := 2) rfl, Or.inl rfl⟩
theorem fa_X12_judge_229 : FA RX12 wsX12_judge 229 12 72 "NineMowersModel" := by
  show _ ∧ _ ∧ _ ∧ _
  exact ⟨by decide +kernel, fun _ h => List.mem_cons_of_mem _ (List.mem_append_right _ h), List.mem_of_getElem? (i := 3) rfl, Or.inl rfl⟩
theorem fa_X12_judge_232 : FA RX12 wsX12_judge 232 12 73 "NineMowersModel" := by
  show _ ∧ _ ∧ _ ∧ _
  exact ⟨by decide +kernel, fun _ h => List.mem_cons_of_mem _ (List.mem_append_right _ h), List.mem_of_getElem? (i := 4) rfl, Or.inl rfl⟩
theorem fa_X12_judge_26 : FA RX12 wsX12_judge 26 12 5 "NineMowersModel" := by
  show _ ∧ _ ∧ _ ∧ _
  exact ⟨by decide +kernel, fun _ h => List.mem_cons_of_mem _ (List.mem_append_right _ h), List.mem_of_getElem? (i := 5) rfl, Or.inl rfl⟩
noncomputable def K_X12_judge (l : Launch) (V : Vx) (a1 : Int32) (a2 : Int32) (σ : Sg) (Qk : Int32 → Sg → Prop) : Prop := Ka l V yX12_judge wsX12_judge (rmz 2) 0 0 [.ref 74, .int a1, .int a2] σ (QI V Qk)
theorem e_X12_judge {l : Launch} {V : Vx} {a1 : Int32} {a2 : Int32} {σ : Sg} {Qk : Int32 → Sg → Prop} (h : ∀ M : Mx, mL M = l → mV M = V → mN M = 4 → Cx M cX12_judge (some .int) RX12 wsX12_judge (rmz 2) 0 0 (QI (mV M) Qk) → PS M 0 [(0, .ref 74), (1, .int a1), (2, .int a2)] [] σ (0, 0)) : K_X12_judge l V a1 a2 σ Qk :=
  Ka_of (by decide +kernel) rfl rfl (Nat.le_of_ble_eq_true rfl) (fun M h1 h2 h3 C => h M h1 h2 h3 (by rw [h2]; exact C))
set_option maxRecDepth 100000 in
set_option maxHeartbeats 4000000 in
theorem s_X12_judge_0 {M : Mx} {Qk : Int32 → Sg → Prop} (C : Cx M cX12_judge (some .int) RX12 wsX12_judge (rmz 2) 0 0 (QI (mV M) Qk)) (hN : mN M = 4) {a1 : Int32} {a2 : Int32} {σ : Sg} (h : K_X12_isTape (mL M) (mV M) a1 σ (fun r2 σ1 => ((¬ r2 = 0 → (vp_in a1 6 ∧ (((gi σ1 171 a1.toNatClampNeg) < 0 → PS M 34 [(0, .ref 74), (1, .int a1), (2, .int a2), (3, .int (0 : Int32))] [] σ1 (0, 0)) ∧ (¬ (gi σ1 171 a1.toNatClampNeg) < 0 → (vp_in a1 6 ∧ (((gi σ1 171 a1.toNatClampNeg) = (1 : Int32) → PS M 34 [(0, .ref 74), (1, .int a1), (2, .int a2), (3, .int (0 : Int32))] [] σ1 (0, 0)) ∧ (¬ (gi σ1 171 a1.toNatClampNeg) = (1 : Int32) → Qk (-12 : Int32) σ1))))))) ∧ (r2 = 0 → Qk (-1 : Int32) σ1)))) : PS M 0 [(0, .ref 74), (1, .int a1), (2, .int a2)] [] σ (0, 0) := by
  refine P_aload_n C dX12_judge_0 0 rfl ?_
  refine P_iload_n C dX12_judge_1 1 rfl ?_
  refine P_ci (R_v (ci := 12) C kv_X12_judge_X12_isTape (As := [.int a1]) rfl kd_74 rfl (fxl fx_74) (Nat.le_of_ble_eq_true rfl) dX12_judge_2 ⟨Nat.le_refl _, Nat.le_refl _⟩ h) (fun r2 σ1 h => ?_)
  refine P_if_ne C dX12_judge_5 (tgt := 10) (by decide +kernel) (fun q3 => ?_) (fun q3 => ?_)
  · have h := h.1 q3
    refine P_aload_n C dX12_judge_10 0 rfl ?_
    refine P_getS C (e := 171) fa_X12_judge_226 kd_74 (d := 97) rfl (fxl fx_74) rfl dX12_judge_11 ?_
    refine P_iload_n C dX12_judge_14 1 rfl ?_
    obtain ⟨hv4, h⟩ := h
    refine P_iald C kd_171 (fxl fx_171) hv4 dX12_judge_15 ?_
    refine P_if_lt C dX12_judge_16 (tgt := 32) (by decide +kernel) (fun q5 => ?_) (fun q5 => ?_)
    · have h := h.1 q5
      refine P_iconst C dX12_judge_32 (v := (0 : Int32)) rfl ?_
      refine P_istore_n C dX12_judge_33 (by rw [hN]; decide) rfl ?_
      exact P_sub [1, 2, 3, 0] rfl h
    · have h := h.2 q5
      refine P_aload_n C dX12_judge_19 0 rfl ?_
      refine P_getS C (e := 171) fa_X12_judge_226 kd_74 (d := 97) rfl (fxl fx_74) rfl dX12_judge_20 ?_
      refine P_iload_n C dX12_judge_23 1 rfl ?_
      obtain ⟨hv6, h⟩ := h
      refine P_iald C kd_171 (fxl fx_171) hv6 dX12_judge_24 ?_
      refine P_iconst C dX12_judge_25 (v := (1 : Int32)) rfl ?_
      refine P_icmp_eq C dX12_judge_26 (tgt := 32) (by decide +kernel) (fun q7 => ?_) (fun q7 => ?_)
      · have h := h.1 q7
        refine P_iconst C dX12_judge_32 (v := (0 : Int32)) rfl ?_
        refine P_istore_n C dX12_judge_33 (by rw [hN]; decide) rfl ?_
        exact P_sub [1, 2, 3, 0] rfl h
      · have h := h.2 q7
        refine P_bipush C dX12_judge_29 (v := (-12 : Int32)) rfl ?_
        exact P_iret C dX12_judge_31 h
  · have h := h.2 q3
    refine P_iconst C dX12_judge_8 (v := (-1 : Int32)) rfl ?_
    exact P_iret C dX12_judge_9 h
set_option maxRecDepth 100000 in
set_option maxHeartbeats 4000000 in
theorem s_X12_judge_34 {M : Mx} {Qk : Int32 → Sg → Prop} (C : Cx M cX12_judge (some .int) RX12 wsX12_judge (rmz 2) 0 0 (QI (mV M) Qk)) (hN : mN M = 4) {x1 : Int32} {x2 : Int32} {x3 : Int32} {σ : Sg} (h : (((gi σ 74 0) ≤ x3 → Qk (-5 : Int32) σ) ∧ (¬ (gi σ 74 0) ≤ x3 → (vp_in x1 6 ∧ (((gi σ 171 x1.toNatClampNeg) < 0 → Qk ((100 : Int32) + x3) σ) ∧ (¬ (gi σ 171 x1.toNatClampNeg) < 0 → ((x2 < 0 → Qk ((100 : Int32) + x3) σ) ∧ (¬ x2 < 0 → (vp_in x1 6 ∧ ((x2 ≤ (((gi σ 172 x1.toNatClampNeg) - x3) - (1 : Int32)) → (vp_in ((((60 : Int32) * x1) + x2) + x3) 360 ∧ (vp_in x3 6 ∧ (((lg_cmp (gl σ 173 ((((60 : Int32) * x1) + x2) + x3).toNatClampNeg) ((gi σ 105 x3.toNatClampNeg).toInt64)) = 0 → (∀ v10 : Int32, v10 = x3 + 1 → PS M 34 [(0, .ref 74), (1, .int x1), (2, .int x2), (3, .int v10)] [] σ (0, 0))) ∧ (¬ (lg_cmp (gl σ 173 ((((60 : Int32) * x1) + x2) + x3).toNatClampNeg) ((gi σ 105 x3.toNatClampNeg).toInt64)) = 0 → Qk x3 σ))))) ∧ (¬ x2 ≤ (((gi σ 172 x1.toNatClampNeg) - x3) - (1 : Int32)) → Qk ((100 : Int32) + x3) σ))))))))))) : PS M 34 [(0, .ref 74), (1, .int x1), (2, .int x2), (3, .int x3)] [] σ (0, 0) := by
  refine P_iload_n C dX12_judge_34 3 rfl ?_
  refine P_aload_n C dX12_judge_35 0 rfl ?_
  refine P_getI C fa_X12_judge_7 kd_74 rfl (fxl fx_74) dX12_judge_36 ?_
  refine P_icmp_ge C dX12_judge_39 (tgt := 106) (by decide +kernel) (fun q1 => ?_) (fun q1 => ?_)
  · have h := h.1 q1
    refine P_bipush C dX12_judge_106 (v := (-5 : Int32)) rfl ?_
    exact P_iret C dX12_judge_108 h
  · have h := h.2 q1
    refine P_aload_n C dX12_judge_42 0 rfl ?_
    refine P_getS C (e := 171) fa_X12_judge_226 kd_74 (d := 97) rfl (fxl fx_74) rfl dX12_judge_43 ?_
    refine P_iload_n C dX12_judge_46 1 rfl ?_
    obtain ⟨hv2, h⟩ := h
    refine P_iald C kd_171 (fxl fx_171) hv2 dX12_judge_47 ?_
    refine P_if_lt C dX12_judge_48 (tgt := 69) (by decide +kernel) (fun q3 => ?_) (fun q3 => ?_)
    · have h := h.1 q3
      refine P_bipush C dX12_judge_69 (v := (100 : Int32)) rfl ?_
      refine P_iload_n C dX12_judge_71 3 rfl ?_
      refine P_iadd C dX12_judge_72 ?_
      exact P_iret C dX12_judge_73 h
    · have h := h.2 q3
      refine P_iload_n C dX12_judge_51 2 rfl ?_
      refine P_if_lt C dX12_judge_52 (tgt := 69) (by decide +kernel) (fun q4 => ?_) (fun q4 => ?_)
      · have h := h.1 q4
        refine P_bipush C dX12_judge_69 (v := (100 : Int32)) rfl ?_
        refine P_iload_n C dX12_judge_71 3 rfl ?_
        refine P_iadd C dX12_judge_72 ?_
        exact P_iret C dX12_judge_73 h
      · have h := h.2 q4
        refine P_iload_n C dX12_judge_55 2 rfl ?_
        refine P_aload_n C dX12_judge_56 0 rfl ?_
        refine P_getS C (e := 172) fa_X12_judge_229 kd_74 (d := 98) rfl (fxl fx_74) rfl dX12_judge_57 ?_
        refine P_iload_n C dX12_judge_60 1 rfl ?_
        obtain ⟨hv5, h⟩ := h
        refine P_iald C kd_172 (fxl fx_172) hv5 dX12_judge_61 ?_
        refine P_iload_n C dX12_judge_62 3 rfl ?_
        refine P_isub C dX12_judge_63 ?_
        refine P_iconst C dX12_judge_64 (v := (1 : Int32)) rfl ?_
        refine P_isub C dX12_judge_65 ?_
        refine P_icmp_le C dX12_judge_66 (tgt := 74) (by decide +kernel) (fun q6 => ?_) (fun q6 => ?_)
        · have h := h.1 q6
          refine P_aload_n C dX12_judge_74 0 rfl ?_
          refine P_getS C (e := 173) fa_X12_judge_232 kd_74 (d := 99) rfl (fxl fx_74) rfl dX12_judge_75 ?_
          refine P_bipush C dX12_judge_78 (v := (60 : Int32)) rfl ?_
          refine P_iload_n C dX12_judge_80 1 rfl ?_
          refine P_imul C dX12_judge_81 ?_
          refine P_iload_n C dX12_judge_82 2 rfl ?_
          refine P_iadd C dX12_judge_83 ?_
          refine P_iload_n C dX12_judge_84 3 rfl ?_
          refine P_iadd C dX12_judge_85 ?_
          obtain ⟨hv7, h⟩ := h
          refine P_lald C kd_173 (fxl fx_173) hv7 dX12_judge_86 ?_
          refine P_aload_n C dX12_judge_87 0 rfl ?_
          refine P_getS C (e := 105) fa_X12_judge_26 kd_74 (d := 31) rfl (fxl fx_74) rfl dX12_judge_88 ?_
          refine P_iload_n C dX12_judge_91 3 rfl ?_
          obtain ⟨hv8, h⟩ := h
          refine P_iald C kd_105 (fxl fx_105) hv8 dX12_judge_92 ?_
          refine P_i2l C dX12_judge_93 ?_
          refine P_lcmp C dX12_judge_94 ?_
          refine P_if_eq C dX12_judge_95 (tgt := 100) (by decide +kernel) (fun q9 => ?_) (fun q9 => ?_)
          · have h := h.1 q9
            obtain ⟨v10, ev10⟩ : ∃ v : Int32, v = x3 + 1 := ⟨_, rfl⟩
            have h := h v10 ev10
            refine P_iinc (v := v10) C dX12_judge_100 3 rfl (by rw [ev10]; rfl) (by rw [hN]; decide) rfl ?_
            refine P_goto C dX12_judge_103 (tgt := 34) (by decide +kernel) ?_
            exact P_sub [1, 2, 3, 0] rfl h
          · have h := h.2 q9
            refine P_iload_n C dX12_judge_98 3 rfl ?_
            exact P_iret C dX12_judge_99 h
        · have h := h.2 q6
          refine P_bipush C dX12_judge_69 (v := (100 : Int32)) rfl ?_
          refine P_iload_n C dX12_judge_71 3 rfl ?_
          refine P_iadd C dX12_judge_72 ?_
          exact P_iret C dX12_judge_73 h
theorem fa_X12_mowsAct_19 : FA RX12 wsX12_mowsAct 19 12 3 "NineMowersModel" := by
  show _ ∧ _ ∧ _ ∧ _
  exact ⟨by decide +kernel, fun _ h => List.mem_cons_of_mem _ (List.mem_append_right _ h), List.mem_of_getElem? (i := 1) rfl, Or.inl rfl⟩
theorem kv_X12_mowsAct_X12_mowerMows : KV RX12 wsX12_mowsAct (rmz 2) 409 RX12 yX12_mowerMows wsX12_mowerMows (rmz 1) 2 := ⟨_, _, _, _, gX12_mowsAct_X12_mowerMows, rfl, by decide +kernel, by decide +kernel⟩
theorem kv_X12_mowsAct_X12_body : KV RX12 wsX12_mowsAct (rmz 2) 406 RX12 yX12_body wsX12_body (rmz 0) 1 := ⟨_, _, _, _, gX12_mowsAct_X12_body, rfl, by decide +kernel, by decide +kernel⟩
theorem fa_X12_mowsAct_23 : FA RX12 wsX12_mowsAct 23 12 4 "NineMowersModel" := by
  show _ ∧ _ ∧ _ ∧ _
  exact ⟨by decide +kernel, fun _ h => List.mem_cons_of_mem _ (List.mem_append_right _ h), List.mem_of_getElem? (i := 2) rfl, Or.inl rfl⟩
noncomputable def K_X12_mowsAct (l : Launch) (V : Vx) (a1 : Int32) (a2 : Int32) (σ : Sg) (Qk : Int32 → Sg → Prop) : Prop := Ka l V yX12_mowsAct wsX12_mowsAct (rmz 2) 0 0 [.ref 74, .int a1, .int a2] σ (QI V Qk)
theorem e_X12_mowsAct {l : Launch} {V : Vx} {a1 : Int32} {a2 : Int32} {σ : Sg} {Qk : Int32 → Sg → Prop} (h : ∀ M : Mx, mL M = l → mV M = V → mN M = 3 → Cx M cX12_mowsAct (some .int) RX12 wsX12_mowsAct (rmz 2) 0 0 (QI (mV M) Qk) → PS M 0 [(0, .ref 74), (1, .int a1), (2, .int a2)] [] σ (0, 0)) : K_X12_mowsAct l V a1 a2 σ Qk :=
  Ka_of (by decide +kernel) rfl rfl (Nat.le_of_ble_eq_true rfl) (fun M h1 h2 h3 C => h M h1 h2 h3 (by rw [h2]; exact C))
set_option maxRecDepth 100000 in
set_option maxHeartbeats 4000000 in
theorem s_X12_mowsAct_0 {M : Mx} {Qk : Int32 → Sg → Prop} (C : Cx M cX12_mowsAct (some .int) RX12 wsX12_mowsAct (rmz 2) 0 0 (QI (mV M) Qk)) (hN : mN M = 3) {a1 : Int32} {a2 : Int32} {σ : Sg} (h : (vp_in a1 6 ∧ (((gi σ 103 a1.toNatClampNeg).toInt < 2 ∨ 6 < (gi σ 103 a1.toNatClampNeg).toInt → K_X12_mowerMows (mL M) (mV M) a1 a2 σ (fun r3 σ2 => Qk r3 σ2)) ∧ ((gi σ 103 a1.toNatClampNeg).toInt = 2 → PS M 40 [(0, .ref 74), (1, .int a1), (2, .int a2)] [] σ (0, 0)) ∧ ((gi σ 103 a1.toNatClampNeg).toInt = 3 → K_X12_mowerMows (mL M) (mV M) a1 a2 σ (fun r6 σ5 => Qk r6 σ5)) ∧ ((gi σ 103 a1.toNatClampNeg).toInt = 4 → K_X12_body (mL M) (mV M) (50 : Int32) σ (fun σ7 => K_X12_mowerMows (mL M) (mV M) a1 a2 σ7 (fun r9 σ8 => Qk (-r9) σ8))) ∧ ((gi σ 103 a1.toNatClampNeg).toInt = 5 → PS M 40 [(0, .ref 74), (1, .int a1), (2, .int a2)] [] σ (0, 0)) ∧ ((gi σ 103 a1.toNatClampNeg).toInt = 6 → K_X12_body (mL M) (mV M) (71 : Int32) σ (fun σ10 => K_X12_mowerMows (mL M) (mV M) a1 a2 σ10 (fun r12 σ11 => (vp_in a1 6 ∧ Qk (r12 ^^^ (gi σ11 104 a1.toNatClampNeg)) σ11))))))) : PS M 0 [(0, .ref 74), (1, .int a1), (2, .int a2)] [] σ (0, 0) := by
  refine P_aload_n C dX12_mowsAct_0 0 rfl ?_
  refine P_getS C (e := 103) fa_X12_mowsAct_19 kd_74 (d := 29) rfl (fxl fx_74) rfl dX12_mowsAct_1 ?_
  refine P_iload_n C dX12_mowsAct_4 1 rfl ?_
  obtain ⟨hv1, h⟩ := h
  refine P_iald C kd_103 (fxl fx_103) hv1 dX12_mowsAct_5 ?_
  refine P_tsw C dX12_mowsAct_6 89 (by decide +kernel) (fun q4 => ?_) (by decide +kernel) (fun i off ho q4 => ?_)
  · have h := h.1 q4
    refine P_aload_n C dX12_mowsAct_89 0 rfl ?_
    refine P_iload_n C dX12_mowsAct_90 1 rfl ?_
    refine P_iload_n C dX12_mowsAct_91 2 rfl ?_
    refine P_ci (R_v (ci := 12) C kv_X12_mowsAct_X12_mowerMows (As := [.int a1, .int a2]) rfl kd_74 rfl (fxl fx_74) (Nat.le_of_ble_eq_true rfl) dX12_mowsAct_92 ⟨Nat.le_refl _, Nat.le_refl _⟩ h) (fun r3 σ2 h => ?_)
    exact P_iret C dX12_mowsAct_95 h
  · rcases i with _ | _ | _ | _ | _ | i
    · obtain rfl : (34 : Int) = off := Option.some.inj ho
      refine ⟨?_, by decide +kernel⟩
      show PS M 40 _ _ _ _
      have h := h.2.1 (by have q := q4; simp at q; omega)
      exact P_sub [0, 1, 2] rfl h
    · obtain rfl : (83 : Int) = off := Option.some.inj ho
      refine ⟨?_, by decide +kernel⟩
      show PS M 89 _ _ _ _
      have h := h.2.2.1 (by have q := q4; simp at q; omega)
      refine P_aload_n C dX12_mowsAct_89 0 rfl ?_
      refine P_iload_n C dX12_mowsAct_90 1 rfl ?_
      refine P_iload_n C dX12_mowsAct_91 2 rfl ?_
      refine P_ci (R_v (ci := 12) C kv_X12_mowsAct_X12_mowerMows (As := [.int a1, .int a2]) rfl kd_74 rfl (fxl fx_74) (Nat.le_of_ble_eq_true rfl) dX12_mowsAct_92 ⟨Nat.le_refl _, Nat.le_refl _⟩ h) (fun r6 σ5 h => ?_)
      exact P_iret C dX12_mowsAct_95 h
    · obtain rfl : (49 : Int) = off := Option.some.inj ho
      refine ⟨?_, by decide +kernel⟩
      show PS M 55 _ _ _ _
      have h := h.2.2.2.1 (by have q := q4; simp at q; omega)
      refine P_aload_n C dX12_mowsAct_55 0 rfl ?_
      refine P_bipush C dX12_mowsAct_56 (v := (50 : Int32)) rfl ?_
      refine P_cv (R_v (ci := 12) C kv_X12_mowsAct_X12_body (As := [.int (50 : Int32)]) rfl kd_74 rfl (fxl fx_74) (Nat.le_of_ble_eq_true rfl) dX12_mowsAct_58 ⟨Nat.le_refl _, Nat.le_refl _⟩ h) (fun σ7 h => ?_)
      refine P_aload_n C dX12_mowsAct_61 0 rfl ?_
      refine P_iload_n C dX12_mowsAct_62 1 rfl ?_
      refine P_iload_n C dX12_mowsAct_63 2 rfl ?_
      refine P_ci (R_v (ci := 12) C kv_X12_mowsAct_X12_mowerMows (As := [.int a1, .int a2]) rfl kd_74 rfl (fxl fx_74) (Nat.le_of_ble_eq_true rfl) dX12_mowsAct_64 ⟨Nat.le_refl _, Nat.le_refl _⟩ h) (fun r9 σ8 h => ?_)
      refine P_ineg C dX12_mowsAct_67 ?_
      exact P_iret C dX12_mowsAct_68 h
    · obtain rfl : (34 : Int) = off := Option.some.inj ho
      refine ⟨?_, by decide +kernel⟩
      show PS M 40 _ _ _ _
      have h := h.2.2.2.2.1 (by have q := q4; simp at q; omega)
      exact P_sub [0, 1, 2] rfl h
    · obtain rfl : (63 : Int) = off := Option.some.inj ho
      refine ⟨?_, by decide +kernel⟩
      show PS M 69 _ _ _ _
      have h := h.2.2.2.2.2 (by have q := q4; simp at q; omega)
      refine P_aload_n C dX12_mowsAct_69 0 rfl ?_
      refine P_bipush C dX12_mowsAct_70 (v := (71 : Int32)) rfl ?_
      refine P_cv (R_v (ci := 12) C kv_X12_mowsAct_X12_body (As := [.int (71 : Int32)]) rfl kd_74 rfl (fxl fx_74) (Nat.le_of_ble_eq_true rfl) dX12_mowsAct_72 ⟨Nat.le_refl _, Nat.le_refl _⟩ h) (fun σ10 h => ?_)
      refine P_aload_n C dX12_mowsAct_75 0 rfl ?_
      refine P_iload_n C dX12_mowsAct_76 1 rfl ?_
      refine P_iload_n C dX12_mowsAct_77 2 rfl ?_
      refine P_ci (R_v (ci := 12) C kv_X12_mowsAct_X12_mowerMows (As := [.int a1, .int a2]) rfl kd_74 rfl (fxl fx_74) (Nat.le_of_ble_eq_true rfl) dX12_mowsAct_78 ⟨Nat.le_refl _, Nat.le_refl _⟩ h) (fun r12 σ11 h => ?_)
      refine P_aload_n C dX12_mowsAct_81 0 rfl ?_
      refine P_getS C (e := 104) fa_X12_mowsAct_23 kd_74 (d := 30) rfl (fxl fx_74) rfl dX12_mowsAct_82 ?_
      refine P_iload_n C dX12_mowsAct_85 1 rfl ?_
      obtain ⟨hv13, h⟩ := h
      refine P_iald C kd_104 (fxl fx_104) hv13 dX12_mowsAct_86 ?_
      refine P_ixor C dX12_mowsAct_87 ?_
      exact P_iret C dX12_mowsAct_88 h
    · exact absurd (Array.getElem?_eq_some_iff.mp ho).1 (Nat.not_lt.mpr (by show 5 ≤ _; omega))
set_option maxRecDepth 100000 in
set_option maxHeartbeats 4000000 in
theorem s_X12_mowsAct_40 {M : Mx} {Qk : Int32 → Sg → Prop} (C : Cx M cX12_mowsAct (some .int) RX12 wsX12_mowsAct (rmz 2) 0 0 (QI (mV M) Qk)) (hN : mN M = 3) {x1 : Int32} {x2 : Int32} {σ : Sg} (h : K_X12_body (mL M) (mV M) (30 : Int32) σ (fun σ1 => K_X12_mowerMows (mL M) (mV M) x1 (x2 * (3 : Int32)) σ1 (fun r3 σ2 => Qk r3 σ2))) : PS M 40 [(0, .ref 74), (1, .int x1), (2, .int x2)] [] σ (0, 0) := by
  refine P_aload_n C dX12_mowsAct_40 0 rfl ?_
  refine P_bipush C dX12_mowsAct_41 (v := (30 : Int32)) rfl ?_
  refine P_cv (R_v (ci := 12) C kv_X12_mowsAct_X12_body (As := [.int (30 : Int32)]) rfl kd_74 rfl (fxl fx_74) (Nat.le_of_ble_eq_true rfl) dX12_mowsAct_43 ⟨Nat.le_refl _, Nat.le_refl _⟩ h) (fun σ1 h => ?_)
  refine P_aload_n C dX12_mowsAct_46 0 rfl ?_
  refine P_iload_n C dX12_mowsAct_47 1 rfl ?_
  refine P_iload_n C dX12_mowsAct_48 2 rfl ?_
  refine P_iconst C dX12_mowsAct_49 (v := (3 : Int32)) rfl ?_
  refine P_imul C dX12_mowsAct_50 ?_
  refine P_ci (R_v (ci := 12) C kv_X12_mowsAct_X12_mowerMows (As := [.int x1, .int (x2 * (3 : Int32))]) rfl kd_74 rfl (fxl fx_74) (Nat.le_of_ble_eq_true rfl) dX12_mowsAct_51 ⟨Nat.le_refl _, Nat.le_refl _⟩ h) (fun r3 σ2 h => ?_)
  exact P_iret C dX12_mowsAct_54 h
theorem kv_X12_taken_X12_in : KV RX12 wsX12_taken (rmz 2) 239 RX12 yX12_in wsX12_in (rmz 0) 3 := ⟨_, _, _, _, gX12_taken_X12_in, rfl, by decide +kernel, by decide +kernel⟩
theorem kv_X12_taken_X12_isMower : KV RX12 wsX12_taken (rmz 2) 243 RX12 yX12_isMower wsX12_isMower (rmz 1) 1 := ⟨_, _, _, _, gX12_taken_X12_isMower, rfl, by decide +kernel, by decide +kernel⟩
theorem fa_X12_taken_19 : FA RX12 wsX12_taken 19 12 3 "NineMowersModel" := by
  show _ ∧ _ ∧ _ ∧ _
  exact ⟨by decide +kernel, fun _ h => List.mem_cons_of_mem _ (List.mem_append_right _ h), List.mem_of_getElem? (i := 1) rfl, Or.inl rfl⟩
noncomputable def K_X12_taken (l : Launch) (V : Vx) (a1 : Int32) (a2 : Int32) (σ : Sg) (Qk : Int32 → Sg → Prop) : Prop := Ka l V yX12_taken wsX12_taken (rmz 2) 0 0 [.ref 74, .int a1, .int a2] σ (QI V Qk)
theorem e_X12_taken {l : Launch} {V : Vx} {a1 : Int32} {a2 : Int32} {σ : Sg} {Qk : Int32 → Sg → Prop} (h : ∀ M : Mx, mL M = l → mV M = V → mN M = 4 → Cx M cX12_taken (some .int) RX12 wsX12_taken (rmz 2) 0 0 (QI (mV M) Qk) → PS M 0 [(0, .ref 74), (1, .int a1), (2, .int a2)] [] σ (0, 0)) : K_X12_taken l V a1 a2 σ Qk :=
  Ka_of (by decide +kernel) rfl rfl (Nat.le_of_ble_eq_true rfl) (fun M h1 h2 h3 C => h M h1 h2 h3 (by rw [h2]; exact C))
set_option maxRecDepth 100000 in
set_option maxHeartbeats 4000000 in
theorem s_X12_taken_0 {M : Mx} {Qk : Int32 → Sg → Prop} (C : Cx M cX12_taken (some .int) RX12 wsX12_taken (rmz 2) 0 0 (QI (mV M) Qk)) (hN : mN M = 4) {a1 : Int32} {a2 : Int32} {σ : Sg} (h : K_X12_in (mL M) (mV M) a2 (0 : Int32) (6 : Int32) σ (fun r2 σ1 => ((¬ r2 = 0 → K_X12_isMower (mL M) (mV M) a1 σ1 (fun r5 σ4 => ((¬ r5 = 0 → (vp_in a1 6 ∧ (∀ v8 : Int32, v8 = gi σ4 103 a1.toNatClampNeg → ((a2 = 0 → Qk v8 σ4) ∧ (¬ a2 = 0 → ((v8 = a2 → Qk v8 σ4) ∧ (¬ v8 = a2 → ((¬ a2 = (1 : Int32) → PS M 51 [(2, .int a2), (3, .int v8)] [] σ4 (0, 0)) ∧ (a2 = (1 : Int32) → ((v8 = (4 : Int32) → Qk v8 σ4) ∧ (¬ v8 = (4 : Int32) → PS M 51 [(2, .int a2), (3, .int v8)] [] σ4 (0, 0)))))))))))) ∧ (r5 = 0 → Qk (-11 : Int32) σ4)))) ∧ (r2 = 0 → Qk (-2 : Int32) σ1)))) : PS M 0 [(0, .ref 74), (1, .int a1), (2, .int a2)] [] σ (0, 0) := by
  refine P_aload_n C dX12_taken_0 0 rfl ?_
  refine P_iload_n C dX12_taken_1 2 rfl ?_
  refine P_iconst C dX12_taken_2 (v := (0 : Int32)) rfl ?_
  refine P_bipush C dX12_taken_3 (v := (6 : Int32)) rfl ?_
  refine P_ci (R_v (ci := 12) C kv_X12_taken_X12_in (As := [.int a2, .int (0 : Int32), .int (6 : Int32)]) rfl kd_74 rfl (fxl fx_74) (Nat.le_of_ble_eq_true rfl) dX12_taken_5 ⟨Nat.le_refl _, Nat.le_refl _⟩ h) (fun r2 σ1 h => ?_)
  refine P_if_ne C dX12_taken_8 (tgt := 14) (by decide +kernel) (fun q3 => ?_) (fun q3 => ?_)
  · have h := h.1 q3
    refine P_aload_n C dX12_taken_14 0 rfl ?_
    refine P_iload_n C dX12_taken_15 1 rfl ?_
    refine P_ci (R_v (ci := 12) C kv_X12_taken_X12_isMower (As := [.int a1]) rfl kd_74 rfl (fxl fx_74) (Nat.le_of_ble_eq_true rfl) dX12_taken_16 ⟨Nat.le_refl _, Nat.le_refl _⟩ h) (fun r5 σ4 h => ?_)
    refine P_if_ne C dX12_taken_19 (tgt := 25) (by decide +kernel) (fun q6 => ?_) (fun q6 => ?_)
    · have h := h.1 q6
      refine P_aload_n C dX12_taken_25 0 rfl ?_
      refine P_getS C (e := 103) fa_X12_taken_19 kd_74 (d := 29) rfl (fxl fx_74) rfl dX12_taken_26 ?_
      refine P_iload_n C dX12_taken_29 1 rfl ?_
      obtain ⟨hv7, h⟩ := h
      refine P_iald C kd_103 (fxl fx_103) hv7 dX12_taken_30 ?_
      refine P_nmi (fun v8 ev8 => ?_)
      have h := h v8 ev8
      refine P_istore_n C dX12_taken_31 (by rw [hN]; decide) rfl ?_
      refine P_iload_n C dX12_taken_32 3 rfl ?_
      refine P_if_eq C dX12_taken_33 (tgt := 72) (by decide +kernel) (fun q9 => ?_) (fun q9 => ?_)
      · have h := h.1 q9
        refine P_iload_n C dX12_taken_72 0 rfl ?_
        refine P_goto C dX12_taken_73 (tgt := 78) (by decide +kernel) ?_
        exact P_iret C dX12_taken_78 h
      · have h := h.2 q9
        refine P_iload_n C dX12_taken_36 0 rfl ?_
        refine P_iload_n C dX12_taken_37 3 rfl ?_
        refine P_icmp_eq C dX12_taken_38 (tgt := 72) (by decide +kernel) (fun q10 => ?_) (fun q10 => ?_)
        · have h := h.1 q10
          refine P_iload_n C dX12_taken_72 0 rfl ?_
          refine P_goto C dX12_taken_73 (tgt := 78) (by decide +kernel) ?_
          exact P_iret C dX12_taken_78 h
        · have h := h.2 q10
          refine P_iload_n C dX12_taken_41 3 rfl ?_
          refine P_iconst C dX12_taken_42 (v := (1 : Int32)) rfl ?_
          refine P_icmp_ne C dX12_taken_43 (tgt := 51) (by decide +kernel) (fun q11 => ?_) (fun q11 => ?_)
          · have h := h.1 q11
            exact P_sub [3, 0] rfl h
          · have h := h.2 q11
            refine P_iload_n C dX12_taken_46 0 rfl ?_
            refine P_iconst C dX12_taken_47 (v := (4 : Int32)) rfl ?_
            refine P_icmp_eq C dX12_taken_48 (tgt := 72) (by decide +kernel) (fun q12 => ?_) (fun q12 => ?_)
            · have h := h.1 q12
              refine P_iload_n C dX12_taken_72 0 rfl ?_
              refine P_goto C dX12_taken_73 (tgt := 78) (by decide +kernel) ?_
              exact P_iret C dX12_taken_78 h
            · have h := h.2 q12
              exact P_sub [3, 0] rfl h
    · have h := h.2 q6
      refine P_bipush C dX12_taken_22 (v := (-11 : Int32)) rfl ?_
      exact P_iret C dX12_taken_24 h
  · have h := h.2 q3
    refine P_bipush C dX12_taken_11 (v := (-2 : Int32)) rfl ?_
    exact P_iret C dX12_taken_13 h
set_option maxRecDepth 100000 in
set_option maxHeartbeats 4000000 in
theorem s_X12_taken_51 {M : Mx} {Qk : Int32 → Sg → Prop} (C : Cx M cX12_taken (some .int) RX12 wsX12_taken (rmz 2) 0 0 (QI (mV M) Qk)) (hN : mN M = 4) {x2 : Int32} {x3 : Int32} {σ : Sg} (h : ((¬ x2 = (2 : Int32) → PS M 61 [(2, .int x2), (3, .int x3)] [] σ (0, 0)) ∧ (x2 = (2 : Int32) → ((x3 = (5 : Int32) → Qk x3 σ) ∧ (¬ x3 = (5 : Int32) → PS M 61 [(2, .int x2), (3, .int x3)] [] σ (0, 0)))))) : PS M 51 [(2, .int x2), (3, .int x3)] [] σ (0, 0) := by
  refine P_iload_n C dX12_taken_51 0 rfl ?_
  refine P_iconst C dX12_taken_52 (v := (2 : Int32)) rfl ?_
  refine P_icmp_ne C dX12_taken_53 (tgt := 61) (by decide +kernel) (fun q1 => ?_) (fun q1 => ?_)
  · have h := h.1 q1
    exact P_sub [0, 1] rfl h
  · have h := h.2 q1
    refine P_iload_n C dX12_taken_56 1 rfl ?_
    refine P_iconst C dX12_taken_57 (v := (5 : Int32)) rfl ?_
    refine P_icmp_eq C dX12_taken_58 (tgt := 72) (by decide +kernel) (fun q2 => ?_) (fun q2 => ?_)
    · have h := h.1 q2
      refine P_iload_n C dX12_taken_72 1 rfl ?_
      refine P_goto C dX12_taken_73 (tgt := 78) (by decide +kernel) ?_
      exact P_iret C dX12_taken_78 h
    · have h := h.2 q2
      exact P_sub [0, 1] rfl h
set_option maxRecDepth 100000 in
set_option maxHeartbeats 4000000 in
theorem s_X12_taken_61 {M : Mx} {Qk : Int32 → Sg → Prop} (C : Cx M cX12_taken (some .int) RX12 wsX12_taken (rmz 2) 0 0 (QI (mV M) Qk)) (hN : mN M = 4) {x2 : Int32} {x3 : Int32} {σ : Sg} (h : ((¬ x2 = (3 : Int32) → Qk (-12 : Int32) σ) ∧ (x2 = (3 : Int32) → ((¬ x3 = (6 : Int32) → Qk (-12 : Int32) σ) ∧ (x3 = (6 : Int32) → Qk x3 σ))))) : PS M 61 [(2, .int x2), (3, .int x3)] [] σ (0, 0) := by
  refine P_iload_n C dX12_taken_61 0 rfl ?_
  refine P_iconst C dX12_taken_62 (v := (3 : Int32)) rfl ?_
  refine P_icmp_ne C dX12_taken_63 (tgt := 76) (by decide +kernel) (fun q1 => ?_) (fun q1 => ?_)
  · have h := h.1 q1
    refine P_bipush C dX12_taken_76 (v := (-12 : Int32)) rfl ?_
    exact P_iret C dX12_taken_78 h
  · have h := h.2 q1
    refine P_iload_n C dX12_taken_66 1 rfl ?_
    refine P_bipush C dX12_taken_67 (v := (6 : Int32)) rfl ?_
    refine P_icmp_ne C dX12_taken_69 (tgt := 76) (by decide +kernel) (fun q2 => ?_) (fun q2 => ?_)
    · have h := h.1 q2
      refine P_bipush C dX12_taken_76 (v := (-12 : Int32)) rfl ?_
      exact P_iret C dX12_taken_78 h
    · have h := h.2 q2
      refine P_iload_n C dX12_taken_72 1 rfl ?_
      refine P_goto C dX12_taken_73 (tgt := 78) (by decide +kernel) ?_
      exact P_iret C dX12_taken_78 h
theorem kv_X12_tape_X12_isTape : KV RX12 wsX12_tape (rmz 2) 403 RX12 yX12_isTape wsX12_isTape (rmz 1) 1 := ⟨_, _, _, _, gX12_tape_X12_isTape, rfl, by decide +kernel, by decide +kernel⟩
theorem kv_X12_tape_X12_in : KV RX12 wsX12_tape (rmz 2) 239 RX12 yX12_in wsX12_in (rmz 0) 3 := ⟨_, _, _, _, gX12_tape_X12_in, rfl, by decide +kernel, by decide +kernel⟩
theorem fa_X12_tape_226 : FA RX12 wsX12_tape 226 12 71 "NineMowersModel" := by
  show _ ∧ _ ∧ _ ∧ _
  exact ⟨by decide +kernel, fun _ h => List.mem_cons_of_mem _ (List.mem_append_right _ h), List.mem_of_getElem? (i := 1) rfl, Or.inl rfl⟩
theorem fa_X12_tape_229 : FA RX12 wsX12_tape 229 12 72 "NineMowersModel" := by
  show _ ∧ _ ∧ _ ∧ _
  exact ⟨by decide +kernel, fun _ h => List.mem_cons_of_mem _ (List.mem_append_right _ h), List.mem_of_getElem? (i := 2) rfl, Or.inl rfl⟩
theorem fa_X12_tape_232 : FA RX12 wsX12_tape 232 12 73 "NineMowersModel" := by
  show _ ∧ _ ∧ _ ∧ _
  exact ⟨by decide +kernel, fun _ h => List.mem_cons_of_mem _ (List.mem_append_right _ h), List.mem_of_getElem? (i := 3) rfl, Or.inl rfl⟩
noncomputable def K_X12_tape (l : Launch) (V : Vx) (a1 : Int32) (a2 : Int32) (a3 : Int32) (σ : Sg) (Qk : Int32 → Sg → Prop) : Prop := Ka l V yX12_tape wsX12_tape (rmz 2) 0 0 [.ref 74, .int a1, .int a2, .int a3] σ (QI V Qk)
theorem e_X12_tape {l : Launch} {V : Vx} {a1 : Int32} {a2 : Int32} {a3 : Int32} {σ : Sg} {Qk : Int32 → Sg → Prop} (h : ∀ M : Mx, mL M = l → mV M = V → mN M = 5 → Cx M cX12_tape (some .int) RX12 wsX12_tape (rmz 2) 0 0 (QI (mV M) Qk) → PS M 0 [(0, .ref 74), (1, .int a1), (2, .int a2), (3, .int a3)] [] σ (0, 0)) : K_X12_tape l V a1 a2 a3 σ Qk :=
  Ka_of (by decide +kernel) rfl rfl (Nat.le_of_ble_eq_true rfl) (fun M h1 h2 h3 C => h M h1 h2 h3 (by rw [h2]; exact C))
set_option maxRecDepth 100000 in
set_option maxHeartbeats 4000000 in
theorem s_X12_tape_0 {M : Mx} {Qk : Int32 → Sg → Prop} (C : Cx M cX12_tape (some .int) RX12 wsX12_tape (rmz 2) 0 0 (QI (mV M) Qk)) (hN : mN M = 5) {a1 : Int32} {a2 : Int32} {a3 : Int32} {σ : Sg} (h : K_X12_isTape (mL M) (mV M) a1 σ (fun r2 σ1 => ((¬ r2 = 0 → K_X12_in (mL M) (mV M) a2 (-1 : Int32) (4 : Int32) σ1 (fun r5 σ4 => ((r5 = 0 → Qk (-2 : Int32) σ4) ∧ (¬ r5 = 0 → ((a2 < 0 → ((a2 < 0 → PS M 44 [(0, .ref 74), (1, .int a1), (2, .int a2), (3, .int a3)] [] σ4 (0, 0)) ∧ (¬ a2 < 0 → ((0 ≤ a3 → PS M 44 [(0, .ref 74), (1, .int a1), (2, .int a2), (3, .int a3)] [] σ4 (0, 0)) ∧ (¬ 0 ≤ a3 → Qk (-14 : Int32) σ4))))) ∧ (¬ a2 < 0 → ((a3 ≤ (60 : Int32) → ((a2 < 0 → PS M 44 [(0, .ref 74), (1, .int a1), (2, .int a2), (3, .int a3)] [] σ4 (0, 0)) ∧ (¬ a2 < 0 → ((0 ≤ a3 → PS M 44 [(0, .ref 74), (1, .int a1), (2, .int a2), (3, .int a3)] [] σ4 (0, 0)) ∧ (¬ 0 ≤ a3 → Qk (-14 : Int32) σ4))))) ∧ (¬ a3 ≤ (60 : Int32) → Qk (-2 : Int32) σ4)))))))) ∧ (r2 = 0 → Qk (-1 : Int32) σ1)))) : PS M 0 [(0, .ref 74), (1, .int a1), (2, .int a2), (3, .int a3)] [] σ (0, 0) := by
  refine P_aload_n C dX12_tape_0 0 rfl ?_
  refine P_iload_n C dX12_tape_1 1 rfl ?_
  refine P_ci (R_v (ci := 12) C kv_X12_tape_X12_isTape (As := [.int a1]) rfl kd_74 rfl (fxl fx_74) (Nat.le_of_ble_eq_true rfl) dX12_tape_2 ⟨Nat.le_refl _, Nat.le_refl _⟩ h) (fun r2 σ1 h => ?_)
  refine P_if_ne C dX12_tape_5 (tgt := 10) (by decide +kernel) (fun q3 => ?_) (fun q3 => ?_)
  · have h := h.1 q3
    refine P_aload_n C dX12_tape_10 0 rfl ?_
    refine P_iload_n C dX12_tape_11 2 rfl ?_
    refine P_iconst C dX12_tape_12 (v := (-1 : Int32)) rfl ?_
    refine P_iconst C dX12_tape_13 (v := (4 : Int32)) rfl ?_
    refine P_ci (R_v (ci := 12) C kv_X12_tape_X12_in (As := [.int a2, .int (-1 : Int32), .int (4 : Int32)]) rfl kd_74 rfl (fxl fx_74) (Nat.le_of_ble_eq_true rfl) dX12_tape_14 ⟨Nat.le_refl _, Nat.le_refl _⟩ h) (fun r5 σ4 h => ?_)
    refine P_if_eq C dX12_tape_17 (tgt := 30) (by decide +kernel) (fun q6 => ?_) (fun q6 => ?_)
    · have h := h.1 q6
      refine P_bipush C dX12_tape_30 (v := (-2 : Int32)) rfl ?_
      exact P_iret C dX12_tape_32 h
    · have h := h.2 q6
      refine P_iload_n C dX12_tape_20 2 rfl ?_
      refine P_if_lt C dX12_tape_21 (tgt := 33) (by decide +kernel) (fun q7 => ?_) (fun q7 => ?_)
      · have h := h.1 q7
        refine P_iload_n C dX12_tape_33 2 rfl ?_
        refine P_if_lt C dX12_tape_34 (tgt := 44) (by decide +kernel) (fun q8 => ?_) (fun q8 => ?_)
        · have h := h.1 q8
          exact P_sub [0, 1, 2, 3] rfl h
        · have h := h.2 q8
          refine P_iload_n C dX12_tape_37 3 rfl ?_
          refine P_if_ge C dX12_tape_38 (tgt := 44) (by decide +kernel) (fun q9 => ?_) (fun q9 => ?_)
          · have h := h.1 q9
            exact P_sub [0, 1, 2, 3] rfl h
          · have h := h.2 q9
            refine P_bipush C dX12_tape_41 (v := (-14 : Int32)) rfl ?_
            exact P_iret C dX12_tape_43 h
      · have h := h.2 q7
        refine P_iload_n C dX12_tape_24 3 rfl ?_
        refine P_bipush C dX12_tape_25 (v := (60 : Int32)) rfl ?_
        refine P_icmp_le C dX12_tape_27 (tgt := 33) (by decide +kernel) (fun q10 => ?_) (fun q10 => ?_)
        · have h := h.1 q10
          refine P_iload_n C dX12_tape_33 2 rfl ?_
          refine P_if_lt C dX12_tape_34 (tgt := 44) (by decide +kernel) (fun q11 => ?_) (fun q11 => ?_)
          · have h := h.1 q11
            exact P_sub [0, 1, 2, 3] rfl h
          · have h := h.2 q11
            refine P_iload_n C dX12_tape_37 3 rfl ?_
            refine P_if_ge C dX12_tape_38 (tgt := 44) (by decide +kernel) (fun q12 => ?_) (fun q12 => ?_)
            · have h := h.1 q12
              exact P_sub [0, 1, 2, 3] rfl h
            · have h := h.2 q12
              refine P_bipush C dX12_tape_41 (v := (-14 : Int32)) rfl ?_
              exact P_iret C dX12_tape_43 h
        · have h := h.2 q10
          refine P_bipush C dX12_tape_30 (v := (-2 : Int32)) rfl ?_
          exact P_iret C dX12_tape_32 h
  · have h := h.2 q3
    refine P_iconst C dX12_tape_8 (v := (-1 : Int32)) rfl ?_
    exact P_iret C dX12_tape_9 h
set_option maxRecDepth 100000 in
set_option maxHeartbeats 4000000 in
theorem s_X12_tape_44 {M : Mx} {Qk : Int32 → Sg → Prop} (C : Cx M cX12_tape (some .int) RX12 wsX12_tape (rmz 2) 0 0 (QI (mV M) Qk)) (hN : mN M = 5) {x1 : Int32} {x2 : Int32} {x3 : Int32} {σ : Sg} (h : (vp_in x1 6 ∧ (∀ σ2 : Sg, σ2 = si σ 171 x1.toNatClampNeg x2 → ((0 ≤ x2 → (vp_in x1 6 ∧ (∀ σ5 : Sg, σ5 = si σ2 172 x1.toNatClampNeg x3 → PS M 69 [(0, .ref 74), (1, .int x1), (4, .int (0 : Int32))] [] σ5 (0, 0)))) ∧ (¬ 0 ≤ x2 → (vp_in x1 6 ∧ (∀ σ7 : Sg, σ7 = si σ2 172 x1.toNatClampNeg (0 : Int32) → PS M 69 [(0, .ref 74), (1, .int x1), (4, .int (0 : Int32))] [] σ7 (0, 0)))))))) : PS M 44 [(0, .ref 74), (1, .int x1), (2, .int x2), (3, .int x3)] [] σ (0, 0) := by
  refine P_aload_n C dX12_tape_44 0 rfl ?_
  refine P_getS C (e := 171) fa_X12_tape_226 kd_74 (d := 97) rfl (fxl fx_74) rfl dX12_tape_45 ?_
  refine P_iload_n C dX12_tape_48 1 rfl ?_
  refine P_iload_n C dX12_tape_49 2 rfl ?_
  obtain ⟨hv1, h⟩ := h
  refine P_iast C kd_171 (fxl fx_171) hv1 dX12_tape_50 ?_
  refine P_nm (fun σ2 eσ2 => ?_)
  have h := h σ2 eσ2
  refine P_aload_n C dX12_tape_51 0 rfl ?_
  refine P_getS C (e := 172) fa_X12_tape_229 kd_74 (d := 98) rfl (fxl fx_74) rfl dX12_tape_52 ?_
  refine P_iload_n C dX12_tape_55 1 rfl ?_
  refine P_iload_n C dX12_tape_56 2 rfl ?_
  refine P_if_ge C dX12_tape_57 (tgt := 64) (by decide +kernel) (fun q3 => ?_) (fun q3 => ?_)
  · have h := h.1 q3
    refine P_iload_n C dX12_tape_64 3 rfl ?_
    obtain ⟨hv4, h⟩ := h
    refine P_iast C kd_172 (fxl fx_172) hv4 dX12_tape_65 ?_
    refine P_nm (fun σ5 eσ5 => ?_)
    have h := h σ5 eσ5
    refine P_iconst C dX12_tape_66 (v := (0 : Int32)) rfl ?_
    refine P_istore C dX12_tape_67 (by rw [hN]; decide) rfl ?_
    exact P_sub [1, 2, 0] rfl h
  · have h := h.2 q3
    refine P_iconst C dX12_tape_60 (v := (0 : Int32)) rfl ?_
    refine P_goto C dX12_tape_61 (tgt := 65) (by decide +kernel) ?_
    obtain ⟨hv6, h⟩ := h
    refine P_iast C kd_172 (fxl fx_172) hv6 dX12_tape_65 ?_
    refine P_nm (fun σ7 eσ7 => ?_)
    have h := h σ7 eσ7
    refine P_iconst C dX12_tape_66 (v := (0 : Int32)) rfl ?_
    refine P_istore C dX12_tape_67 (by rw [hN]; decide) rfl ?_
    exact P_sub [1, 2, 0] rfl h
set_option maxRecDepth 100000 in
set_option maxHeartbeats 4000000 in
theorem s_X12_tape_69 {M : Mx} {Qk : Int32 → Sg → Prop} (C : Cx M cX12_tape (some .int) RX12 wsX12_tape (rmz 2) 0 0 (QI (mV M) Qk)) (hN : mN M = 5) {x1 : Int32} {x4 : Int32} {σ : Sg} (h : (((60 : Int32) ≤ x4 → Qk (1 : Int32) σ) ∧ (¬ (60 : Int32) ≤ x4 → (vp_in (((60 : Int32) * x1) + x4) 360 ∧ (∀ σ3 : Sg, σ3 = sl σ 173 (((60 : Int32) * x1) + x4).toNatClampNeg (0 : Int64) → (∀ v4 : Int32, v4 = x4 + 1 → PS M 69 [(0, .ref 74), (1, .int x1), (4, .int v4)] [] σ3 (0, 0))))))) : PS M 69 [(0, .ref 74), (1, .int x1), (4, .int x4)] [] σ (0, 0) := by
  refine P_iload C dX12_tape_69 2 rfl ?_
  refine P_bipush C dX12_tape_71 (v := (60 : Int32)) rfl ?_
  refine P_icmp_ge C dX12_tape_73 (tgt := 95) (by decide +kernel) (fun q1 => ?_) (fun q1 => ?_)
  · have h := h.1 q1
    refine P_iconst C dX12_tape_95 (v := (1 : Int32)) rfl ?_
    exact P_iret C dX12_tape_96 h
  · have h := h.2 q1
    refine P_aload_n C dX12_tape_76 0 rfl ?_
    refine P_getS C (e := 173) fa_X12_tape_232 kd_74 (d := 99) rfl (fxl fx_74) rfl dX12_tape_77 ?_
    refine P_bipush C dX12_tape_80 (v := (60 : Int32)) rfl ?_
    refine P_iload_n C dX12_tape_82 1 rfl ?_
    refine P_imul C dX12_tape_83 ?_
    refine P_iload C dX12_tape_84 2 rfl ?_
    refine P_iadd C dX12_tape_86 ?_
    refine P_lconst C dX12_tape_87 (v := (0 : Int64)) rfl ?_
    obtain ⟨hv2, h⟩ := h
    refine P_last C kd_173 (fxl fx_173) hv2 dX12_tape_88 ?_
    refine P_nm (fun σ3 eσ3 => ?_)
    have h := h σ3 eσ3
    obtain ⟨v4, ev4⟩ : ∃ v : Int32, v = x4 + 1 := ⟨_, rfl⟩
    have h := h v4 ev4
    refine P_iinc (v := v4) C dX12_tape_89 2 rfl (by rw [ev4]; rfl) (by rw [hN]; decide) rfl ?_
    refine P_goto C dX12_tape_92 (tgt := 69) (by decide +kernel) ?_
    exact P_sub [1, 2, 0] rfl h
theorem kv_X12_item_X12_isTape : KV RX12 wsX12_item (rmz 2) 403 RX12 yX12_isTape wsX12_isTape (rmz 1) 1 := ⟨_, _, _, _, gX12_item_X12_isTape, rfl, by decide +kernel, by decide +kernel⟩
theorem fa_X12_item_226 : FA RX12 wsX12_item 226 12 71 "NineMowersModel" := by
  show _ ∧ _ ∧ _ ∧ _
  exact ⟨by decide +kernel, fun _ h => List.mem_cons_of_mem _ (List.mem_append_right _ h), List.mem_of_getElem? (i := 1) rfl, Or.inl rfl⟩
theorem fa_X12_item_229 : FA RX12 wsX12_item 229 12 72 "NineMowersModel" := by
  show _ ∧ _ ∧ _ ∧ _
  exact ⟨by decide +kernel, fun _ h => List.mem_cons_of_mem _ (List.mem_append_right _ h), List.mem_of_getElem? (i := 2) rfl, Or.inl rfl⟩
theorem kv_X12_item_X12_in : KV RX12 wsX12_item (rmz 2) 239 RX12 yX12_in wsX12_in (rmz 0) 3 := ⟨_, _, _, _, gX12_item_X12_in, rfl, by decide +kernel, by decide +kernel⟩
theorem fa_X12_item_232 : FA RX12 wsX12_item 232 12 73 "NineMowersModel" := by
  show _ ∧ _ ∧ _ ∧ _
  exact ⟨by decide +kernel, fun _ h => List.mem_cons_of_mem _ (List.mem_append_right _ h), List.mem_of_getElem? (i := 3) rfl, Or.inl rfl⟩
theorem kv_X12_item_X12_narrow : KV RX12 wsX12_item (rmz 2) 430 RX12 yX12_narrow wsX12_narrow (rmz 0) 2 := ⟨_, _, _, _, gX12_item_X12_narrow, rfl, by decide +kernel, by decide +kernel⟩
noncomputable def K_X12_item (l : Launch) (V : Vx) (a1 : Int32) (a2 : Int32) (a3 : Int64) (σ : Sg) (Qk : Int32 → Sg → Prop) : Prop := Ka l V yX12_item wsX12_item (rmz 2) 0 0 [.ref 74, .int a1, .int a2, .long a3] σ (QI V Qk)
theorem e_X12_item {l : Launch} {V : Vx} {a1 : Int32} {a2 : Int32} {a3 : Int64} {σ : Sg} {Qk : Int32 → Sg → Prop} (h : ∀ M : Mx, mL M = l → mV M = V → mN M = 5 → Cx M cX12_item (some .int) RX12 wsX12_item (rmz 2) 0 0 (QI (mV M) Qk) → PS M 0 [(0, .ref 74), (1, .int a1), (2, .int a2), (3, .long a3)] [] σ (0, 0)) : K_X12_item l V a1 a2 a3 σ Qk :=
  Ka_of (by decide +kernel) rfl rfl (Nat.le_of_ble_eq_true rfl) (fun M h1 h2 h3 C => h M h1 h2 h3 (by rw [h2]; exact C))
set_option maxRecDepth 100000 in
set_option maxHeartbeats 4000000 in
theorem s_X12_item_0 {M : Mx} {Qk : Int32 → Sg → Prop} (C : Cx M cX12_item (some .int) RX12 wsX12_item (rmz 2) 0 0 (QI (mV M) Qk)) (hN : mN M = 5) {a1 : Int32} {a2 : Int32} {a3 : Int64} {σ : Sg} (h : K_X12_isTape (mL M) (mV M) a1 σ (fun r2 σ1 => ((¬ r2 = 0 → (vp_in a1 6 ∧ ((0 ≤ (gi σ1 171 a1.toNatClampNeg) → (vp_in a1 6 ∧ K_X12_in (mL M) (mV M) a2 (0 : Int32) ((gi σ1 172 a1.toNatClampNeg) - (1 : Int32)) σ1 (fun r8 σ7 => ((¬ r8 = 0 → (vp_in a1 6 ∧ K_X12_narrow (mL M) (mV M) (gi σ7 171 a1.toNatClampNeg) a3 σ7 (fun r12 σ11 => (vp_in (((60 : Int32) * a1) + a2) 360 ∧ (∀ σ14 : Sg, σ14 = sl σ11 173 (((60 : Int32) * a1) + a2).toNatClampNeg r12 → Qk (1 : Int32) σ14))))) ∧ (r8 = 0 → Qk (-13 : Int32) σ7))))) ∧ (¬ 0 ≤ (gi σ1 171 a1.toNatClampNeg) → Qk (-11 : Int32) σ1)))) ∧ (r2 = 0 → Qk (-1 : Int32) σ1)))) : PS M 0 [(0, .ref 74), (1, .int a1), (2, .int a2), (3, .long a3)] [] σ (0, 0) := by
  refine P_aload_n C dX12_item_0 0 rfl ?_
  refine P_iload_n C dX12_item_1 1 rfl ?_
  refine P_ci (R_v (ci := 12) C kv_X12_item_X12_isTape (As := [.int a1]) rfl kd_74 rfl (fxl fx_74) (Nat.le_of_ble_eq_true rfl) dX12_item_2 ⟨Nat.le_refl _, Nat.le_refl _⟩ h) (fun r2 σ1 h => ?_)
  refine P_if_ne C dX12_item_5 (tgt := 10) (by decide +kernel) (fun q3 => ?_) (fun q3 => ?_)
  · have h := h.1 q3
    refine P_aload_n C dX12_item_10 0 rfl ?_
    refine P_getS C (e := 171) fa_X12_item_226 kd_74 (d := 97) rfl (fxl fx_74) rfl dX12_item_11 ?_
    refine P_iload_n C dX12_item_14 1 rfl ?_
    obtain ⟨hv4, h⟩ := h
    refine P_iald C kd_171 (fxl fx_171) hv4 dX12_item_15 ?_
    refine P_if_ge C dX12_item_16 (tgt := 22) (by decide +kernel) (fun q5 => ?_) (fun q5 => ?_)
    · have h := h.1 q5
      refine P_aload_n C dX12_item_22 0 rfl ?_
      refine P_iload_n C dX12_item_23 2 rfl ?_
      refine P_iconst C dX12_item_24 (v := (0 : Int32)) rfl ?_
      refine P_aload_n C dX12_item_25 0 rfl ?_
      refine P_getS C (e := 172) fa_X12_item_229 kd_74 (d := 98) rfl (fxl fx_74) rfl dX12_item_26 ?_
      refine P_iload_n C dX12_item_29 1 rfl ?_
      obtain ⟨hv6, h⟩ := h
      refine P_iald C kd_172 (fxl fx_172) hv6 dX12_item_30 ?_
      refine P_iconst C dX12_item_31 (v := (1 : Int32)) rfl ?_
      refine P_isub C dX12_item_32 ?_
      refine P_ci (R_v (ci := 12) C kv_X12_item_X12_in (As := [.int a2, .int (0 : Int32), .int ((gi σ1 172 a1.toNatClampNeg) - (1 : Int32))]) rfl kd_74 rfl (fxl fx_74) (Nat.le_of_ble_eq_true rfl) dX12_item_33 ⟨Nat.le_refl _, Nat.le_refl _⟩ h) (fun r8 σ7 h => ?_)
      refine P_if_ne C dX12_item_36 (tgt := 42) (by decide +kernel) (fun q9 => ?_) (fun q9 => ?_)
      · have h := h.1 q9
        refine P_aload_n C dX12_item_42 0 rfl ?_
        refine P_getS C (e := 173) fa_X12_item_232 kd_74 (d := 99) rfl (fxl fx_74) rfl dX12_item_43 ?_
        refine P_bipush C dX12_item_46 (v := (60 : Int32)) rfl ?_
        refine P_iload_n C dX12_item_48 1 rfl ?_
        refine P_imul C dX12_item_49 ?_
        refine P_iload_n C dX12_item_50 2 rfl ?_
        refine P_iadd C dX12_item_51 ?_
        refine P_aload_n C dX12_item_52 0 rfl ?_
        refine P_aload_n C dX12_item_53 0 rfl ?_
        refine P_getS C (e := 171) fa_X12_item_226 kd_74 (d := 97) rfl (fxl fx_74) rfl dX12_item_54 ?_
        refine P_iload_n C dX12_item_57 1 rfl ?_
        obtain ⟨hv10, h⟩ := h
        refine P_iald C kd_171 (fxl fx_171) hv10 dX12_item_58 ?_
        refine P_lload_n C dX12_item_59 3 rfl ?_
        refine P_cl (R_v (ci := 12) C kv_X12_item_X12_narrow (As := [.int (gi σ7 171 a1.toNatClampNeg), .long a3]) rfl kd_74 rfl (fxl fx_74) (Nat.le_of_ble_eq_true rfl) dX12_item_60 ⟨Nat.le_refl _, Nat.le_refl _⟩ h) (fun r12 σ11 h => ?_)
        obtain ⟨hv13, h⟩ := h
        refine P_last C kd_173 (fxl fx_173) hv13 dX12_item_63 ?_
        refine P_nm (fun σ14 eσ14 => ?_)
        have h := h σ14 eσ14
        refine P_iconst C dX12_item_64 (v := (1 : Int32)) rfl ?_
        exact P_iret C dX12_item_65 h
      · have h := h.2 q9
        refine P_bipush C dX12_item_39 (v := (-13 : Int32)) rfl ?_
        exact P_iret C dX12_item_41 h
    · have h := h.2 q5
      refine P_bipush C dX12_item_19 (v := (-11 : Int32)) rfl ?_
      exact P_iret C dX12_item_21 h
  · have h := h.2 q3
    refine P_iconst C dX12_item_8 (v := (-1 : Int32)) rfl ?_
    exact P_iret C dX12_item_9 h
theorem kv_X12_read_X12_isTape : KV RX12 wsX12_read (rmz 2) 403 RX12 yX12_isTape wsX12_isTape (rmz 1) 1 := ⟨_, _, _, _, gX12_read_X12_isTape, rfl, by decide +kernel, by decide +kernel⟩
theorem fa_X12_read_226 : FA RX12 wsX12_read 226 12 71 "NineMowersModel" := by
  show _ ∧ _ ∧ _ ∧ _
  exact ⟨by decide +kernel, fun _ h => List.mem_cons_of_mem _ (List.mem_append_right _ h), List.mem_of_getElem? (i := 1) rfl, Or.inl rfl⟩
theorem fa_X12_read_229 : FA RX12 wsX12_read 229 12 72 "NineMowersModel" := by
  show _ ∧ _ ∧ _ ∧ _
  exact ⟨by decide +kernel, fun _ h => List.mem_cons_of_mem _ (List.mem_append_right _ h), List.mem_of_getElem? (i := 2) rfl, Or.inl rfl⟩
theorem kv_X12_read_X12_in : KV RX12 wsX12_read (rmz 2) 239 RX12 yX12_in wsX12_in (rmz 0) 3 := ⟨_, _, _, _, gX12_read_X12_in, rfl, by decide +kernel, by decide +kernel⟩
theorem fa_X12_read_232 : FA RX12 wsX12_read 232 12 73 "NineMowersModel" := by
  show _ ∧ _ ∧ _ ∧ _
  exact ⟨by decide +kernel, fun _ h => List.mem_cons_of_mem _ (List.mem_append_right _ h), List.mem_of_getElem? (i := 4) rfl, Or.inl rfl⟩
noncomputable def K_X12_read (l : Launch) (V : Vx) (a1 : Int32) (a2 : Int32) (σ : Sg) (Qk : Int64 → Sg → Prop) : Prop := Ka l V yX12_read wsX12_read (rmz 2) 0 0 [.ref 74, .int a1, .int a2] σ (QL V Qk)
theorem e_X12_read {l : Launch} {V : Vx} {a1 : Int32} {a2 : Int32} {σ : Sg} {Qk : Int64 → Sg → Prop} (h : ∀ M : Mx, mL M = l → mV M = V → mN M = 3 → Cx M cX12_read (some .long) RX12 wsX12_read (rmz 2) 0 0 (QL (mV M) Qk) → PS M 0 [(0, .ref 74), (1, .int a1), (2, .int a2)] [] σ (0, 0)) : K_X12_read l V a1 a2 σ Qk :=
  Ka_of (by decide +kernel) rfl rfl (Nat.le_of_ble_eq_true rfl) (fun M h1 h2 h3 C => h M h1 h2 h3 (by rw [h2]; exact C))
set_option maxRecDepth 100000 in
set_option maxHeartbeats 4000000 in
theorem s_X12_read_0 {M : Mx} {Qk : Int64 → Sg → Prop} (C : Cx M cX12_read (some .long) RX12 wsX12_read (rmz 2) 0 0 (QL (mV M) Qk)) (hN : mN M = 3) {a1 : Int32} {a2 : Int32} {σ : Sg} (h : K_X12_isTape (mL M) (mV M) a1 σ (fun r2 σ1 => ((r2 = 0 → Qk (-9223372036854775808 : Int64) σ1) ∧ (¬ r2 = 0 → (vp_in a1 6 ∧ (((gi σ1 171 a1.toNatClampNeg) < 0 → Qk (-9223372036854775808 : Int64) σ1) ∧ (¬ (gi σ1 171 a1.toNatClampNeg) < 0 → (vp_in a1 6 ∧ K_X12_in (mL M) (mV M) a2 (0 : Int32) ((gi σ1 172 a1.toNatClampNeg) - (1 : Int32)) σ1 (fun r8 σ7 => ((¬ r8 = 0 → (vp_in (((60 : Int32) * a1) + a2) 360 ∧ Qk (gl σ7 173 (((60 : Int32) * a1) + a2).toNatClampNeg) σ7)) ∧ (r8 = 0 → Qk (-9223372036854775808 : Int64) σ7))))))))))) : PS M 0 [(0, .ref 74), (1, .int a1), (2, .int a2)] [] σ (0, 0) := by
  refine P_aload_n C dX12_read_0 0 rfl ?_
  refine P_iload_n C dX12_read_1 1 rfl ?_
  refine P_ci (R_v (ci := 12) C kv_X12_read_X12_isTape (As := [.int a1]) rfl kd_74 rfl (fxl fx_74) (Nat.le_of_ble_eq_true rfl) dX12_read_2 ⟨Nat.le_refl _, Nat.le_refl _⟩ h) (fun r2 σ1 h => ?_)
  refine P_if_eq C dX12_read_5 (tgt := 34) (by decide +kernel) (fun q3 => ?_) (fun q3 => ?_)
  · have h := h.1 q3
    refine P_ldc2 C (v := (-9223372036854775808 : Int64)) (List.mem_of_getElem? (i := 3) rfl) dX12_read_34 ?_
    refine P_goto C dX12_read_37 (tgt := 51) (by decide +kernel) ?_
    exact P_lret C dX12_read_51 h
  · have h := h.2 q3
    refine P_aload_n C dX12_read_8 0 rfl ?_
    refine P_getS C (e := 171) fa_X12_read_226 kd_74 (d := 97) rfl (fxl fx_74) rfl dX12_read_9 ?_
    refine P_iload_n C dX12_read_12 1 rfl ?_
    obtain ⟨hv4, h⟩ := h
    refine P_iald C kd_171 (fxl fx_171) hv4 dX12_read_13 ?_
    refine P_if_lt C dX12_read_14 (tgt := 34) (by decide +kernel) (fun q5 => ?_) (fun q5 => ?_)
    · have h := h.1 q5
      refine P_ldc2 C (v := (-9223372036854775808 : Int64)) (List.mem_of_getElem? (i := 3) rfl) dX12_read_34 ?_
      refine P_goto C dX12_read_37 (tgt := 51) (by decide +kernel) ?_
      exact P_lret C dX12_read_51 h
    · have h := h.2 q5
      refine P_aload_n C dX12_read_17 0 rfl ?_
      refine P_iload_n C dX12_read_18 2 rfl ?_
      refine P_iconst C dX12_read_19 (v := (0 : Int32)) rfl ?_
      refine P_aload_n C dX12_read_20 0 rfl ?_
      refine P_getS C (e := 172) fa_X12_read_229 kd_74 (d := 98) rfl (fxl fx_74) rfl dX12_read_21 ?_
      refine P_iload_n C dX12_read_24 1 rfl ?_
      obtain ⟨hv6, h⟩ := h
      refine P_iald C kd_172 (fxl fx_172) hv6 dX12_read_25 ?_
      refine P_iconst C dX12_read_26 (v := (1 : Int32)) rfl ?_
      refine P_isub C dX12_read_27 ?_
      refine P_ci (R_v (ci := 12) C kv_X12_read_X12_in (As := [.int a2, .int (0 : Int32), .int ((gi σ1 172 a1.toNatClampNeg) - (1 : Int32))]) rfl kd_74 rfl (fxl fx_74) (Nat.le_of_ble_eq_true rfl) dX12_read_28 ⟨Nat.le_refl _, Nat.le_refl _⟩ h) (fun r8 σ7 h => ?_)
      refine P_if_ne C dX12_read_31 (tgt := 40) (by decide +kernel) (fun q9 => ?_) (fun q9 => ?_)
      · have h := h.1 q9
        refine P_aload_n C dX12_read_40 0 rfl ?_
        refine P_getS C (e := 173) fa_X12_read_232 kd_74 (d := 99) rfl (fxl fx_74) rfl dX12_read_41 ?_
        refine P_bipush C dX12_read_44 (v := (60 : Int32)) rfl ?_
        refine P_iload_n C dX12_read_46 1 rfl ?_
        refine P_imul C dX12_read_47 ?_
        refine P_iload_n C dX12_read_48 2 rfl ?_
        refine P_iadd C dX12_read_49 ?_
        obtain ⟨hv10, h⟩ := h
        refine P_lald C kd_173 (fxl fx_173) hv10 dX12_read_50 ?_
        exact P_lret C dX12_read_51 h
      · have h := h.2 q9
        refine P_ldc2 C (v := (-9223372036854775808 : Int64)) (List.mem_of_getElem? (i := 3) rfl) dX12_read_34 ?_
        refine P_goto C dX12_read_37 (tgt := 51) (by decide +kernel) ?_
        exact P_lret C dX12_read_51 h
theorem kv_X12_shift_X12_isTape : KV RX12 wsX12_shift (rmz 2) 403 RX12 yX12_isTape wsX12_isTape (rmz 1) 1 := ⟨_, _, _, _, gX12_shift_X12_isTape, rfl, by decide +kernel, by decide +kernel⟩
theorem fa_X12_shift_226 : FA RX12 wsX12_shift 226 12 71 "NineMowersModel" := by
  show _ ∧ _ ∧ _ ∧ _
  exact ⟨by decide +kernel, fun _ h => List.mem_cons_of_mem _ (List.mem_append_right _ h), List.mem_of_getElem? (i := 1) rfl, Or.inl rfl⟩
theorem fa_X12_shift_229 : FA RX12 wsX12_shift 229 12 72 "NineMowersModel" := by
  show _ ∧ _ ∧ _ ∧ _
  exact ⟨by decide +kernel, fun _ h => List.mem_cons_of_mem _ (List.mem_append_right _ h), List.mem_of_getElem? (i := 2) rfl, Or.inl rfl⟩
theorem fa_X12_shift_236 : FA RX12 wsX12_shift 236 12 74 "NineMowersModel" := by
  show _ ∧ _ ∧ _ ∧ _
  exact ⟨by decide +kernel, fun _ h => List.mem_cons_of_mem _ (List.mem_append_right _ h), List.mem_of_getElem? (i := 3) rfl, Or.inl rfl⟩
theorem fa_X12_shift_232 : FA RX12 wsX12_shift 232 12 73 "NineMowersModel" := by
  show _ ∧ _ ∧ _ ∧ _
  exact ⟨by decide +kernel, fun _ h => List.mem_cons_of_mem _ (List.mem_append_right _ h), List.mem_of_getElem? (i := 4) rfl, Or.inl rfl⟩
noncomputable def K_X12_shift (l : Launch) (V : Vx) (a1 : Int32) (a2 : Int32) (a3 : Int32) (a4 : Int32) (a5 : Int32) (σ : Sg) (Qk : Int32 → Sg → Prop) : Prop := Ka l V yX12_shift wsX12_shift (rmz 2) 0 0 [.ref 74, .int a1, .int a2, .int a3, .int a4, .int a5] σ (QI V Qk)
theorem e_X12_shift {l : Launch} {V : Vx} {a1 : Int32} {a2 : Int32} {a3 : Int32} {a4 : Int32} {a5 : Int32} {σ : Sg} {Qk : Int32 → Sg → Prop} (h : ∀ M : Mx, mL M = l → mV M = V → mN M = 7 → Cx M cX12_shift (some .int) RX12 wsX12_shift (rmz 2) 0 0 (QI (mV M) Qk) → PS M 0 [(0, .ref 74), (1, .int a1), (2, .int a2), (3, .int a3), (4, .int a4), (5, .int a5)] [] σ (0, 0)) : K_X12_shift l V a1 a2 a3 a4 a5 σ Qk :=
  Ka_of (by decide +kernel) rfl rfl (Nat.le_of_ble_eq_true rfl) (fun M h1 h2 h3 C => h M h1 h2 h3 (by rw [h2]; exact C))
set_option maxRecDepth 100000 in
set_option maxHeartbeats 4000000 in
theorem s_X12_shift_0 {M : Mx} {Qk : Int32 → Sg → Prop} (C : Cx M cX12_shift (some .int) RX12 wsX12_shift (rmz 2) 0 0 (QI (mV M) Qk)) (hN : mN M = 7) {a1 : Int32} {a2 : Int32} {a3 : Int32} {a4 : Int32} {a5 : Int32} {σ : Sg} (h : K_X12_isTape (mL M) (mV M) a1 σ (fun r2 σ1 => ((r2 = 0 → Qk (-1 : Int32) σ1) ∧ (¬ r2 = 0 → K_X12_isTape (mL M) (mV M) a3 σ1 (fun r5 σ4 => ((¬ r5 = 0 → (vp_in a1 6 ∧ (((gi σ4 171 a1.toNatClampNeg) < 0 → Qk (-11 : Int32) σ4) ∧ (¬ (gi σ4 171 a1.toNatClampNeg) < 0 → (vp_in a3 6 ∧ ((0 ≤ (gi σ4 171 a3.toNatClampNeg) → (vp_in a1 6 ∧ (vp_in a3 6 ∧ (((gi σ4 171 a1.toNatClampNeg) = (gi σ4 171 a3.toNatClampNeg) → ((a5 < 0 → Qk (-13 : Int32) σ4) ∧ (¬ a5 < 0 → ((a2 < 0 → Qk (-13 : Int32) σ4) ∧ (¬ a2 < 0 → ((a4 < 0 → Qk (-13 : Int32) σ4) ∧ (¬ a4 < 0 → (vp_in a1 6 ∧ ((((gi σ4 172 a1.toNatClampNeg) - a5) < a2 → Qk (-13 : Int32) σ4) ∧ (¬ ((gi σ4 172 a1.toNatClampNeg) - a5) < a2 → (vp_in a3 6 ∧ ((a4 ≤ ((gi σ4 172 a3.toNatClampNeg) - a5) → PS M 104 [(0, .ref 74), (1, .int a1), (2, .int a2), (3, .int a3), (4, .int a4), (5, .int a5), (6, .int (0 : Int32))] [] σ4 (0, 0)) ∧ (¬ a4 ≤ ((gi σ4 172 a3.toNatClampNeg) - a5) → Qk (-13 : Int32) σ4))))))))))))) ∧ (¬ (gi σ4 171 a1.toNatClampNeg) = (gi σ4 171 a3.toNatClampNeg) → Qk (-12 : Int32) σ4))))) ∧ (¬ 0 ≤ (gi σ4 171 a3.toNatClampNeg) → Qk (-11 : Int32) σ4))))))) ∧ (r5 = 0 → Qk (-1 : Int32) σ4))))))) : PS M 0 [(0, .ref 74), (1, .int a1), (2, .int a2), (3, .int a3), (4, .int a4), (5, .int a5)] [] σ (0, 0) := by
  refine P_aload_n C dX12_shift_0 0 rfl ?_
  refine P_iload_n C dX12_shift_1 1 rfl ?_
  refine P_ci (R_v (ci := 12) C kv_X12_shift_X12_isTape (As := [.int a1]) rfl kd_74 rfl (fxl fx_74) (Nat.le_of_ble_eq_true rfl) dX12_shift_2 ⟨Nat.le_refl _, Nat.le_refl _⟩ h) (fun r2 σ1 h => ?_)
  refine P_if_eq C dX12_shift_5 (tgt := 16) (by decide +kernel) (fun q3 => ?_) (fun q3 => ?_)
  · have h := h.1 q3
    refine P_iconst C dX12_shift_16 (v := (-1 : Int32)) rfl ?_
    exact P_iret C dX12_shift_17 h
  · have h := h.2 q3
    refine P_aload_n C dX12_shift_8 0 rfl ?_
    refine P_iload_n C dX12_shift_9 3 rfl ?_
    refine P_ci (R_v (ci := 12) C kv_X12_shift_X12_isTape (As := [.int a3]) rfl kd_74 rfl (fxl fx_74) (Nat.le_of_ble_eq_true rfl) dX12_shift_10 ⟨Nat.le_refl _, Nat.le_refl _⟩ h) (fun r5 σ4 h => ?_)
    refine P_if_ne C dX12_shift_13 (tgt := 18) (by decide +kernel) (fun q6 => ?_) (fun q6 => ?_)
    · have h := h.1 q6
      refine P_aload_n C dX12_shift_18 0 rfl ?_
      refine P_getS C (e := 171) fa_X12_shift_226 kd_74 (d := 97) rfl (fxl fx_74) rfl dX12_shift_19 ?_
      refine P_iload_n C dX12_shift_22 1 rfl ?_
      obtain ⟨hv7, h⟩ := h
      refine P_iald C kd_171 (fxl fx_171) hv7 dX12_shift_23 ?_
      refine P_if_lt C dX12_shift_24 (tgt := 36) (by decide +kernel) (fun q8 => ?_) (fun q8 => ?_)
      · have h := h.1 q8
        refine P_bipush C dX12_shift_36 (v := (-11 : Int32)) rfl ?_
        exact P_iret C dX12_shift_38 h
      · have h := h.2 q8
        refine P_aload_n C dX12_shift_27 0 rfl ?_
        refine P_getS C (e := 171) fa_X12_shift_226 kd_74 (d := 97) rfl (fxl fx_74) rfl dX12_shift_28 ?_
        refine P_iload_n C dX12_shift_31 3 rfl ?_
        obtain ⟨hv9, h⟩ := h
        refine P_iald C kd_171 (fxl fx_171) hv9 dX12_shift_32 ?_
        refine P_if_ge C dX12_shift_33 (tgt := 39) (by decide +kernel) (fun q10 => ?_) (fun q10 => ?_)
        · have h := h.1 q10
          refine P_aload_n C dX12_shift_39 0 rfl ?_
          refine P_getS C (e := 171) fa_X12_shift_226 kd_74 (d := 97) rfl (fxl fx_74) rfl dX12_shift_40 ?_
          refine P_iload_n C dX12_shift_43 1 rfl ?_
          obtain ⟨hv11, h⟩ := h
          refine P_iald C kd_171 (fxl fx_171) hv11 dX12_shift_44 ?_
          refine P_aload_n C dX12_shift_45 0 rfl ?_
          refine P_getS C (e := 171) fa_X12_shift_226 kd_74 (d := 97) rfl (fxl fx_74) rfl dX12_shift_46 ?_
          refine P_iload_n C dX12_shift_49 3 rfl ?_
          obtain ⟨hv12, h⟩ := h
          refine P_iald C kd_171 (fxl fx_171) hv12 dX12_shift_50 ?_
          refine P_icmp_eq C dX12_shift_51 (tgt := 57) (by decide +kernel) (fun q13 => ?_) (fun q13 => ?_)
          · have h := h.1 q13
            refine P_iload C dX12_shift_57 5 rfl ?_
            refine P_if_lt C dX12_shift_59 (tgt := 98) (by decide +kernel) (fun q14 => ?_) (fun q14 => ?_)
            · have h := h.1 q14
              refine P_bipush C dX12_shift_98 (v := (-13 : Int32)) rfl ?_
              exact P_iret C dX12_shift_100 h
            · have h := h.2 q14
              refine P_iload_n C dX12_shift_62 2 rfl ?_
              refine P_if_lt C dX12_shift_63 (tgt := 98) (by decide +kernel) (fun q15 => ?_) (fun q15 => ?_)
              · have h := h.1 q15
                refine P_bipush C dX12_shift_98 (v := (-13 : Int32)) rfl ?_
                exact P_iret C dX12_shift_100 h
              · have h := h.2 q15
                refine P_iload C dX12_shift_66 4 rfl ?_
                refine P_if_lt C dX12_shift_68 (tgt := 98) (by decide +kernel) (fun q16 => ?_) (fun q16 => ?_)
                · have h := h.1 q16
                  refine P_bipush C dX12_shift_98 (v := (-13 : Int32)) rfl ?_
                  exact P_iret C dX12_shift_100 h
                · have h := h.2 q16
                  refine P_iload_n C dX12_shift_71 2 rfl ?_
                  refine P_aload_n C dX12_shift_72 0 rfl ?_
                  refine P_getS C (e := 172) fa_X12_shift_229 kd_74 (d := 98) rfl (fxl fx_74) rfl dX12_shift_73 ?_
                  refine P_iload_n C dX12_shift_76 1 rfl ?_
                  obtain ⟨hv17, h⟩ := h
                  refine P_iald C kd_172 (fxl fx_172) hv17 dX12_shift_77 ?_
                  refine P_iload C dX12_shift_78 5 rfl ?_
                  refine P_isub C dX12_shift_80 ?_
                  refine P_icmp_gt C dX12_shift_81 (tgt := 98) (by decide +kernel) (fun q18 => ?_) (fun q18 => ?_)
                  · have h := h.1 q18
                    refine P_bipush C dX12_shift_98 (v := (-13 : Int32)) rfl ?_
                    exact P_iret C dX12_shift_100 h
                  · have h := h.2 q18
                    refine P_iload C dX12_shift_84 4 rfl ?_
                    refine P_aload_n C dX12_shift_86 0 rfl ?_
                    refine P_getS C (e := 172) fa_X12_shift_229 kd_74 (d := 98) rfl (fxl fx_74) rfl dX12_shift_87 ?_
                    refine P_iload_n C dX12_shift_90 3 rfl ?_
                    obtain ⟨hv19, h⟩ := h
                    refine P_iald C kd_172 (fxl fx_172) hv19 dX12_shift_91 ?_
                    refine P_iload C dX12_shift_92 5 rfl ?_
                    refine P_isub C dX12_shift_94 ?_
                    refine P_icmp_le C dX12_shift_95 (tgt := 101) (by decide +kernel) (fun q20 => ?_) (fun q20 => ?_)
                    · have h := h.1 q20
                      refine P_iconst C dX12_shift_101 (v := (0 : Int32)) rfl ?_
                      refine P_istore C dX12_shift_102 (by rw [hN]; decide) rfl ?_
                      exact P_sub [1, 2, 3, 4, 5, 6, 0] rfl h
                    · have h := h.2 q20
                      refine P_bipush C dX12_shift_98 (v := (-13 : Int32)) rfl ?_
                      exact P_iret C dX12_shift_100 h
          · have h := h.2 q13
            refine P_bipush C dX12_shift_54 (v := (-12 : Int32)) rfl ?_
            exact P_iret C dX12_shift_56 h
        · have h := h.2 q10
          refine P_bipush C dX12_shift_36 (v := (-11 : Int32)) rfl ?_
          exact P_iret C dX12_shift_38 h
    · have h := h.2 q6
      refine P_iconst C dX12_shift_16 (v := (-1 : Int32)) rfl ?_
      exact P_iret C dX12_shift_17 h
set_option maxRecDepth 100000 in
set_option maxHeartbeats 4000000 in
theorem s_X12_shift_104 {M : Mx} {Qk : Int32 → Sg → Prop} (C : Cx M cX12_shift (some .int) RX12 wsX12_shift (rmz 2) 0 0 (QI (mV M) Qk)) (hN : mN M = 7) {x1 : Int32} {x2 : Int32} {x3 : Int32} {x4 : Int32} {x5 : Int32} {x6 : Int32} {σ : Sg} (h : ((x5 ≤ x6 → PS M 141 [(0, .ref 74), (3, .int x3), (4, .int x4), (5, .int x5), (6, .int (0 : Int32))] [] σ (0, 0)) ∧ (¬ x5 ≤ x6 → (vp_in ((((60 : Int32) * x1) + x2) + x6) 360 ∧ (vp_in x6 60 ∧ (∀ σ4 : Sg, σ4 = sl σ 174 x6.toNatClampNeg (gl σ 173 ((((60 : Int32) * x1) + x2) + x6).toNatClampNeg) → (∀ v5 : Int32, v5 = x6 + 1 → PS M 104 [(0, .ref 74), (1, .int x1), (2, .int x2), (3, .int x3), (4, .int x4), (5, .int x5), (6, .int v5)] [] σ4 (0, 0)))))))) : PS M 104 [(0, .ref 74), (1, .int x1), (2, .int x2), (3, .int x3), (4, .int x4), (5, .int x5), (6, .int x6)] [] σ (0, 0) := by
  refine P_iload C dX12_shift_104 6 rfl ?_
  refine P_iload C dX12_shift_106 5 rfl ?_
  refine P_icmp_ge C dX12_shift_108 (tgt := 138) (by decide +kernel) (fun q1 => ?_) (fun q1 => ?_)
  · have h := h.1 q1
    refine P_iconst C dX12_shift_138 (v := (0 : Int32)) rfl ?_
    refine P_istore C dX12_shift_139 (by rw [hN]; decide) rfl ?_
    exact P_sub [1, 4, 5, 6, 0] rfl h
  · have h := h.2 q1
    refine P_aload_n C dX12_shift_111 0 rfl ?_
    refine P_getS C (e := 174) fa_X12_shift_236 kd_74 (d := 100) rfl (fxl fx_74) rfl dX12_shift_112 ?_
    refine P_iload C dX12_shift_115 6 rfl ?_
    refine P_aload_n C dX12_shift_117 0 rfl ?_
    refine P_getS C (e := 173) fa_X12_shift_232 kd_74 (d := 99) rfl (fxl fx_74) rfl dX12_shift_118 ?_
    refine P_bipush C dX12_shift_121 (v := (60 : Int32)) rfl ?_
    refine P_iload_n C dX12_shift_123 1 rfl ?_
    refine P_imul C dX12_shift_124 ?_
    refine P_iload_n C dX12_shift_125 2 rfl ?_
    refine P_iadd C dX12_shift_126 ?_
    refine P_iload C dX12_shift_127 6 rfl ?_
    refine P_iadd C dX12_shift_129 ?_
    obtain ⟨hv2, h⟩ := h
    refine P_lald C kd_173 (fxl fx_173) hv2 dX12_shift_130 ?_
    obtain ⟨hv3, h⟩ := h
    refine P_last C kd_174 (fxl fx_174) hv3 dX12_shift_131 ?_
    refine P_nm (fun σ4 eσ4 => ?_)
    have h := h σ4 eσ4
    obtain ⟨v5, ev5⟩ : ∃ v : Int32, v = x6 + 1 := ⟨_, rfl⟩
    have h := h v5 ev5
    refine P_iinc (v := v5) C dX12_shift_132 6 rfl (by rw [ev5]; rfl) (by rw [hN]; decide) rfl ?_
    refine P_goto C dX12_shift_135 (tgt := 104) (by decide +kernel) ?_
    exact P_sub [1, 2, 3, 4, 5, 6, 0] rfl h
set_option maxRecDepth 100000 in
set_option maxHeartbeats 4000000 in
theorem s_X12_shift_141 {M : Mx} {Qk : Int32 → Sg → Prop} (C : Cx M cX12_shift (some .int) RX12 wsX12_shift (rmz 2) 0 0 (QI (mV M) Qk)) (hN : mN M = 7) {x3 : Int32} {x4 : Int32} {x5 : Int32} {x6 : Int32} {σ : Sg} (h : ((x5 ≤ x6 → Qk x5 σ) ∧ (¬ x5 ≤ x6 → (vp_in x6 60 ∧ (vp_in ((((60 : Int32) * x3) + x4) + x6) 360 ∧ (∀ σ4 : Sg, σ4 = sl σ 173 ((((60 : Int32) * x3) + x4) + x6).toNatClampNeg (gl σ 174 x6.toNatClampNeg) → (∀ v5 : Int32, v5 = x6 + 1 → PS M 141 [(0, .ref 74), (3, .int x3), (4, .int x4), (5, .int x5), (6, .int v5)] [] σ4 (0, 0)))))))) : PS M 141 [(0, .ref 74), (3, .int x3), (4, .int x4), (5, .int x5), (6, .int x6)] [] σ (0, 0) := by
  refine P_iload C dX12_shift_141 4 rfl ?_
  refine P_iload C dX12_shift_143 3 rfl ?_
  refine P_icmp_ge C dX12_shift_145 (tgt := 176) (by decide +kernel) (fun q1 => ?_) (fun q1 => ?_)
  · have h := h.1 q1
    refine P_iload C dX12_shift_176 3 rfl ?_
    exact P_iret C dX12_shift_178 h
  · have h := h.2 q1
    refine P_aload_n C dX12_shift_148 0 rfl ?_
    refine P_getS C (e := 173) fa_X12_shift_232 kd_74 (d := 99) rfl (fxl fx_74) rfl dX12_shift_149 ?_
    refine P_bipush C dX12_shift_152 (v := (60 : Int32)) rfl ?_
    refine P_iload_n C dX12_shift_154 1 rfl ?_
    refine P_imul C dX12_shift_155 ?_
    refine P_iload C dX12_shift_156 2 rfl ?_
    refine P_iadd C dX12_shift_158 ?_
    refine P_iload C dX12_shift_159 4 rfl ?_
    refine P_iadd C dX12_shift_161 ?_
    refine P_aload_n C dX12_shift_162 0 rfl ?_
    refine P_getS C (e := 174) fa_X12_shift_236 kd_74 (d := 100) rfl (fxl fx_74) rfl dX12_shift_163 ?_
    refine P_iload C dX12_shift_166 4 rfl ?_
    obtain ⟨hv2, h⟩ := h
    refine P_lald C kd_174 (fxl fx_174) hv2 dX12_shift_168 ?_
    obtain ⟨hv3, h⟩ := h
    refine P_last C kd_173 (fxl fx_173) hv3 dX12_shift_169 ?_
    refine P_nm (fun σ4 eσ4 => ?_)
    have h := h σ4 eσ4
    obtain ⟨v5, ev5⟩ : ∃ v : Int32, v = x6 + 1 := ⟨_, rfl⟩
    have h := h v5 ev5
    refine P_iinc (v := v5) C dX12_shift_170 4 rfl (by rw [ev5]; rfl) (by rw [hN]; decide) rfl ?_
    refine P_goto C dX12_shift_173 (tgt := 141) (by decide +kernel) ?_
    exact P_sub [1, 2, 3, 4, 0] rfl h
theorem kv_X12_takesTest_X12_next : KV RX12 wsX12_takesTest (rmz 3) 251 RX12 yX12_next wsX12_next (rmz 0) 0 := ⟨_, _, _, _, gX12_takesTest_X12_next, rfl, by decide +kernel, by decide +kernel⟩
theorem kv_X12_takesTest_X12_letterAt : KV RX12 wsX12_takesTest (rmz 3) 266 RX12 yX12_letterAt wsX12_letterAt (rmz 0) 1 := ⟨_, _, _, _, gX12_takesTest_X12_letterAt, rfl, by decide +kernel, by decide +kernel⟩
theorem fa_X12_takesTest_53 : FA RX12 wsX12_takesTest 53 12 14 "NineMowersModel" := by
  show _ ∧ _ ∧ _ ∧ _
  exact ⟨by decide +kernel, fun _ h => List.mem_cons_of_mem _ (List.mem_append_right _ h), List.mem_of_getElem? (i := 1) rfl, Or.inl rfl⟩
theorem pa_X12_takesTest_53 : PA RX12 wsX12_takesTest 53 12 14 "NineMowersModel" .int := by
  show _ ∧ _ ∧ _ ∧ _ ∧ _ ∧ _ ∧ _ ∧ _
  exact ⟨by decide +kernel, fun _ h => List.mem_cons_of_mem _ (List.mem_append_right _ h), List.mem_of_getElem? (i := 1) rfl, rfl, rfl, by decide +kernel, ⟨tyX12, tyX12_ok⟩, nmX12⟩
theorem kv_X12_takesTest_X12_in : KV RX12 wsX12_takesTest (rmz 3) 239 RX12 yX12_in wsX12_in (rmz 0) 3 := ⟨_, _, _, _, gX12_takesTest_X12_in, rfl, by decide +kernel, by decide +kernel⟩
theorem kv_X12_takesTest_X12_takesNumber : KV RX12 wsX12_takesTest (rmz 3) 269 RX12 yX12_takesNumber wsX12_takesNumber (rmz 2) 0 := ⟨_, _, _, _, gX12_takesTest_X12_takesNumber, rfl, by decide +kernel, by decide +kernel⟩
theorem fa_X12_takesTest_56 : FA RX12 wsX12_takesTest 56 12 15 "NineMowersModel" := by
  show _ ∧ _ ∧ _ ∧ _
  exact ⟨by decide +kernel, fun _ h => List.mem_cons_of_mem _ (List.mem_append_right _ h), List.mem_of_getElem? (i := 2) rfl, Or.inl rfl⟩
theorem kv_X12_takesTest_X12_emits : KV RX12 wsX12_takesTest (rmz 3) 262 RX12 yX12_emits wsX12_emits (rmz 0) 1 := ⟨_, _, _, _, gX12_takesTest_X12_emits, rfl, by decide +kernel, by decide +kernel⟩
theorem kv_X12_takesTest_X12_whole : KV RX12 wsX12_takesTest (rmz 3) 272 RX12 yX12_whole wsX12_whole (rmz 1) 0 := ⟨_, _, _, _, gX12_takesTest_X12_whole, rfl, by decide +kernel, by decide +kernel⟩
noncomputable def K_X12_takesTest (l : Launch) (V : Vx) (σ : Sg) (Qk : Int32 → Sg → Prop) : Prop := Ka l V yX12_takesTest wsX12_takesTest (rmz 3) 0 0 [.ref 74] σ (QI V Qk)
theorem e_X12_takesTest {l : Launch} {V : Vx} {σ : Sg} {Qk : Int32 → Sg → Prop} (h : ∀ M : Mx, mL M = l → mV M = V → mN M = 3 → Cx M cX12_takesTest (some .boolean) RX12 wsX12_takesTest (rmz 3) 0 0 (QI (mV M) Qk) → PS M 0 [(0, .ref 74)] [] σ (0, 0)) : K_X12_takesTest l V σ Qk :=
  Ka_of (by decide +kernel) rfl rfl (Nat.le_of_ble_eq_true rfl) (fun M h1 h2 h3 C => h M h1 h2 h3 (by rw [h2]; exact C))
set_option maxRecDepth 100000 in
set_option maxHeartbeats 4000000 in
theorem s_X12_takesTest_0 {M : Mx} {Qk : Int32 → Sg → Prop} (C : Cx M cX12_takesTest (some .boolean) RX12 wsX12_takesTest (rmz 3) 0 0 (QI (mV M) Qk)) (hN : mN M = 3) {σ : Sg} (h : K_X12_next (mL M) (mV M) σ (fun r2 σ1 => K_X12_letterAt (mL M) (mV M) r2 σ1 (fun r4 σ3 => ((0 ≤ r4 → (∀ σ6 : Sg, σ6 = si σ3 74 14 ((gi σ3 74 14) + (1 : Int32)) → K_X12_next (mL M) (mV M) σ6 (fun r8 σ7 => K_X12_in (mL M) (mV M) r8 (60 : Int32) (62 : Int32) σ7 (fun r10 σ9 => ((¬ r10 = 0 → (∀ σ12 : Sg, σ12 = si σ9 74 14 ((gi σ9 74 14) + (1 : Int32)) → K_X12_takesNumber (mL M) (mV M) σ12 (fun r14 σ13 => ((¬ r14 = 0 → K_X12_emits (mL M) (mV M) ((((1000 : Int32) * r4) + ((100 : Int32) * (r8 - (60 : Int32)))) + (gi σ13 74 15)) σ13 (fun σ16 => K_X12_whole (mL M) (mV M) σ16 (fun σ17 => Qk (1 : Int32) σ17))) ∧ (r14 = 0 → Qk (0 : Int32) σ13))))) ∧ (r10 = 0 → Qk (0 : Int32) σ9)))))) ∧ (¬ 0 ≤ r4 → Qk (0 : Int32) σ3))))) : PS M 0 [(0, .ref 74)] [] σ (0, 0) := by
  refine P_aload_n C dX12_takesTest_0 0 rfl ?_
  refine P_aload_n C dX12_takesTest_1 0 rfl ?_
  refine P_ci (R_v (ci := 12) C kv_X12_takesTest_X12_next (As := []) rfl kd_74 rfl (fxl fx_74) (Nat.le_of_ble_eq_true rfl) dX12_takesTest_2 ⟨Nat.le_refl _, Nat.le_refl _⟩ h) (fun r2 σ1 h => ?_)
  refine P_ci (R_v (ci := 12) C kv_X12_takesTest_X12_letterAt (As := [.int r2]) rfl kd_74 rfl (fxl fx_74) (Nat.le_of_ble_eq_true rfl) dX12_takesTest_5 ⟨Nat.le_refl _, Nat.le_refl _⟩ h) (fun r4 σ3 h => ?_)
  refine P_istore_n C dX12_takesTest_8 (by rw [hN]; decide) rfl ?_
  refine P_iload_n C dX12_takesTest_9 0 rfl ?_
  refine P_if_ge C dX12_takesTest_10 (tgt := 15) (by decide +kernel) (fun q5 => ?_) (fun q5 => ?_)
  · have h := h.1 q5
    refine P_aload_n C dX12_takesTest_15 1 rfl ?_
    refine P_dup C dX12_takesTest_16 rfl ?_
    refine P_getI C fa_X12_takesTest_53 kd_74 rfl (fxl fx_74) dX12_takesTest_17 ?_
    refine P_iconst C dX12_takesTest_20 (v := (1 : Int32)) rfl ?_
    refine P_iadd C dX12_takesTest_21 ?_
    refine P_putI C pa_X12_takesTest_53 kd_74 rfl (fxl fx_74) dX12_takesTest_22 ?_
    refine P_nm (fun σ6 eσ6 => ?_)
    have h := h σ6 eσ6
    refine P_aload_n C dX12_takesTest_25 1 rfl ?_
    refine P_ci (R_v (ci := 12) C kv_X12_takesTest_X12_next (As := []) rfl kd_74 rfl (fxl fx_74) (Nat.le_of_ble_eq_true rfl) dX12_takesTest_26 ⟨Nat.le_refl _, Nat.le_refl _⟩ h) (fun r8 σ7 h => ?_)
    refine P_istore_n C dX12_takesTest_29 (by rw [hN]; decide) rfl ?_
    refine P_aload_n C dX12_takesTest_30 2 rfl ?_
    refine P_iload_n C dX12_takesTest_31 0 rfl ?_
    refine P_bipush C dX12_takesTest_32 (v := (60 : Int32)) rfl ?_
    refine P_bipush C dX12_takesTest_34 (v := (62 : Int32)) rfl ?_
    refine P_ci (R_v (ci := 12) C kv_X12_takesTest_X12_in (As := [.int r8, .int (60 : Int32), .int (62 : Int32)]) rfl kd_74 rfl (fxl fx_74) (Nat.le_of_ble_eq_true rfl) dX12_takesTest_36 ⟨Nat.le_refl _, Nat.le_refl _⟩ h) (fun r10 σ9 h => ?_)
    refine P_if_ne C dX12_takesTest_39 (tgt := 44) (by decide +kernel) (fun q11 => ?_) (fun q11 => ?_)
    · have h := h.1 q11
      refine P_aload_n C dX12_takesTest_44 2 rfl ?_
      refine P_dup C dX12_takesTest_45 rfl ?_
      refine P_getI C fa_X12_takesTest_53 kd_74 rfl (fxl fx_74) dX12_takesTest_46 ?_
      refine P_iconst C dX12_takesTest_49 (v := (1 : Int32)) rfl ?_
      refine P_iadd C dX12_takesTest_50 ?_
      refine P_putI C pa_X12_takesTest_53 kd_74 rfl (fxl fx_74) dX12_takesTest_51 ?_
      refine P_nm (fun σ12 eσ12 => ?_)
      have h := h σ12 eσ12
      refine P_aload_n C dX12_takesTest_54 2 rfl ?_
      refine P_ci (R_v (ci := 12) C kv_X12_takesTest_X12_takesNumber (As := []) rfl kd_74 rfl (fxl fx_74) (Nat.le_of_ble_eq_true rfl) dX12_takesTest_55 ⟨Nat.le_refl _, Nat.le_refl _⟩ h) (fun r14 σ13 h => ?_)
      refine P_if_ne C dX12_takesTest_58 (tgt := 63) (by decide +kernel) (fun q15 => ?_) (fun q15 => ?_)
      · have h := h.1 q15
        refine P_aload_n C dX12_takesTest_63 2 rfl ?_
        refine P_sipush C dX12_takesTest_64 (v := (1000 : Int32)) rfl ?_
        refine P_iload_n C dX12_takesTest_67 1 rfl ?_
        refine P_imul C dX12_takesTest_68 ?_
        refine P_bipush C dX12_takesTest_69 (v := (100 : Int32)) rfl ?_
        refine P_iload_n C dX12_takesTest_71 0 rfl ?_
        refine P_bipush C dX12_takesTest_72 (v := (60 : Int32)) rfl ?_
        refine P_isub C dX12_takesTest_74 ?_
        refine P_imul C dX12_takesTest_75 ?_
        refine P_iadd C dX12_takesTest_76 ?_
        refine P_aload_n C dX12_takesTest_77 2 rfl ?_
        refine P_getI C fa_X12_takesTest_56 kd_74 rfl (fxl fx_74) dX12_takesTest_78 ?_
        refine P_iadd C dX12_takesTest_81 ?_
        refine P_cv (R_v (ci := 12) C kv_X12_takesTest_X12_emits (As := [.int ((((1000 : Int32) * r4) + ((100 : Int32) * (r8 - (60 : Int32)))) + (gi σ13 74 15))]) rfl kd_74 rfl (fxl fx_74) (Nat.le_of_ble_eq_true rfl) dX12_takesTest_82 ⟨Nat.le_refl _, Nat.le_refl _⟩ h) (fun σ16 h => ?_)
        refine P_aload_n C dX12_takesTest_85 2 rfl ?_
        refine P_cv (R_v (ci := 12) C kv_X12_takesTest_X12_whole (As := []) rfl kd_74 rfl (fxl fx_74) (Nat.le_of_ble_eq_true rfl) dX12_takesTest_86 ⟨Nat.le_refl _, Nat.le_refl _⟩ h) (fun σ17 h => ?_)
        refine P_iconst C dX12_takesTest_89 (v := (1 : Int32)) rfl ?_
        exact P_zret C (by decide +kernel) dX12_takesTest_90 h
      · have h := h.2 q15
        refine P_iconst C dX12_takesTest_61 (v := (0 : Int32)) rfl ?_
        exact P_zret C (by decide +kernel) dX12_takesTest_62 h
    · have h := h.2 q11
      refine P_iconst C dX12_takesTest_42 (v := (0 : Int32)) rfl ?_
      exact P_zret C (by decide +kernel) dX12_takesTest_43 h
  · have h := h.2 q5
    refine P_iconst C dX12_takesTest_13 (v := (0 : Int32)) rfl ?_
    exact P_zret C (by decide +kernel) dX12_takesTest_14 h
theorem kv_X12_takesHead_X12_next : KV RX12 wsX12_takesHead (rmz 3) 251 RX12 yX12_next wsX12_next (rmz 0) 0 := ⟨_, _, _, _, gX12_takesHead_X12_next, rfl, by decide +kernel, by decide +kernel⟩
theorem fa_X12_takesHead_65 : FA RX12 wsX12_takesHead 65 12 18 "NineMowersModel" := by
  show _ ∧ _ ∧ _ ∧ _
  exact ⟨by decide +kernel, fun _ h => List.mem_cons_of_mem _ (List.mem_append_right _ h), List.mem_of_getElem? (i := 1) rfl, Or.inl rfl⟩
theorem kv_X12_takesHead_X12_takesWord : KV RX12 wsX12_takesHead (rmz 3) 281 RX12 yX12_takesWord wsX12_takesWord (rmz 2) 2 := ⟨_, _, _, _, gX12_takesHead_X12_takesWord, rfl, by decide +kernel, by decide +kernel⟩
noncomputable def K_X12_takesHead (l : Launch) (V : Vx) (a1 : Int32) (σ : Sg) (Qk : Int32 → Sg → Prop) : Prop := Ka l V yX12_takesHead wsX12_takesHead (rmz 3) 0 0 [.ref 74, .int a1] σ (QI V Qk)
theorem e_X12_takesHead {l : Launch} {V : Vx} {a1 : Int32} {σ : Sg} {Qk : Int32 → Sg → Prop} (h : ∀ M : Mx, mL M = l → mV M = V → mN M = 2 → Cx M cX12_takesHead (some .boolean) RX12 wsX12_takesHead (rmz 3) 0 0 (QI (mV M) Qk) → PS M 0 [(0, .ref 74), (1, .int a1)] [] σ (0, 0)) : K_X12_takesHead l V a1 σ Qk :=
  Ka_of (by decide +kernel) rfl rfl (Nat.le_of_ble_eq_true rfl) (fun M h1 h2 h3 C => h M h1 h2 h3 (by rw [h2]; exact C))
set_option maxRecDepth 100000 in
set_option maxHeartbeats 4000000 in
theorem s_X12_takesHead_0 {M : Mx} {Qk : Int32 → Sg → Prop} (C : Cx M cX12_takesHead (some .boolean) RX12 wsX12_takesHead (rmz 3) 0 0 (QI (mV M) Qk)) (hN : mN M = 2) {a1 : Int32} {σ : Sg} (h : K_X12_next (mL M) (mV M) σ (fun r2 σ1 => ((¬ r2.toInt = 102 ∧ ¬ r2.toInt = 103 ∧ ¬ r2.toInt = 115 ∧ ¬ r2.toInt = 116 → (vp_in a1 60 ∧ (∀ σ5 : Sg, σ5 = si σ1 118 a1.toNatClampNeg (4 : Int32) → K_X12_takesWord (mL M) (mV M) (15 : Int32) (4 : Int32) σ5 (fun r7 σ6 => (narrow .boolean (.int r7) = .int r7 ∧ Qk r7 σ6))))) ∧ (r2.toInt = 102 → (vp_in a1 60 ∧ (∀ σ9 : Sg, σ9 = si σ1 118 a1.toNatClampNeg (0 : Int32) → K_X12_takesWord (mL M) (mV M) (0 : Int32) (4 : Int32) σ9 (fun r11 σ10 => (narrow .boolean (.int r11) = .int r11 ∧ Qk r11 σ10))))) ∧ (r2.toInt = 103 → (vp_in a1 60 ∧ (∀ σ13 : Sg, σ13 = si σ1 118 a1.toNatClampNeg (2 : Int32) → K_X12_takesWord (mL M) (mV M) (8 : Int32) (3 : Int32) σ13 (fun r15 σ14 => (narrow .boolean (.int r15) = .int r15 ∧ Qk r15 σ14))))) ∧ (r2.toInt = 115 → (vp_in a1 60 ∧ (∀ σ17 : Sg, σ17 = si σ1 118 a1.toNatClampNeg (1 : Int32) → K_X12_takesWord (mL M) (mV M) (4 : Int32) (4 : Int32) σ17 (fun r19 σ18 => (narrow .boolean (.int r19) = .int r19 ∧ Qk r19 σ18))))) ∧ (r2.toInt = 116 → (vp_in a1 60 ∧ (∀ σ21 : Sg, σ21 = si σ1 118 a1.toNatClampNeg (3 : Int32) → K_X12_takesWord (mL M) (mV M) (11 : Int32) (4 : Int32) σ21 (fun r23 σ22 => (narrow .boolean (.int r23) = .int r23 ∧ Qk r23 σ22)))))))) : PS M 0 [(0, .ref 74), (1, .int a1)] [] σ (0, 0) := by
  refine P_aload_n C dX12_takesHead_0 0 rfl ?_
  refine P_ci (R_v (ci := 12) C kv_X12_takesHead_X12_next (As := []) rfl kd_74 rfl (fxl fx_74) (Nat.le_of_ble_eq_true rfl) dX12_takesHead_1 ⟨Nat.le_refl _, Nat.le_refl _⟩ h) (fun r2 σ1 h => ?_)
  refine P_lsw C dX12_takesHead_4 (by decide +kernel) (fun off q3 => ?_)
  by_cases c0 : r2.toInt = 102
  · rw [c0] at q3
    obtain rfl : (44 : Int) = off := q3
    refine ⟨?_, by decide +kernel⟩
    show PS M 48 _ _ _ _
    have h := h.2.1 c0
    refine P_aload_n C dX12_takesHead_48 0 rfl ?_
    refine P_getS C (e := 118) fa_X12_takesHead_65 kd_74 (d := 44) rfl (fxl fx_74) rfl dX12_takesHead_49 ?_
    refine P_iload_n C dX12_takesHead_52 1 rfl ?_
    refine P_iconst C dX12_takesHead_53 (v := (0 : Int32)) rfl ?_
    obtain ⟨hv24, h⟩ := h
    refine P_iast C kd_118 (fxl fx_118) hv24 dX12_takesHead_54 ?_
    refine P_nm (fun σ25 eσ25 => ?_)
    have h := h σ25 eσ25
    refine P_aload_n C dX12_takesHead_55 0 rfl ?_
    refine P_iconst C dX12_takesHead_56 (v := (0 : Int32)) rfl ?_
    refine P_iconst C dX12_takesHead_57 (v := (4 : Int32)) rfl ?_
    refine P_ci (R_v (ci := 12) C kv_X12_takesHead_X12_takesWord (As := [.int (0 : Int32), .int (4 : Int32)]) rfl kd_74 rfl (fxl fx_74) (Nat.le_of_ble_eq_true rfl) dX12_takesHead_58 ⟨Nat.le_refl _, Nat.le_refl _⟩ h) (fun r27 σ26 h => ?_)
    exact P_zret C h.1 dX12_takesHead_61 h.2
  by_cases c1 : r2.toInt = 103
  · rw [c1] at q3
    obtain rfl : (72 : Int) = off := q3
    refine ⟨?_, by decide +kernel⟩
    show PS M 76 _ _ _ _
    have h := h.2.2.1 c1
    refine P_aload_n C dX12_takesHead_76 0 rfl ?_
    refine P_getS C (e := 118) fa_X12_takesHead_65 kd_74 (d := 44) rfl (fxl fx_74) rfl dX12_takesHead_77 ?_
    refine P_iload_n C dX12_takesHead_80 1 rfl ?_
    refine P_iconst C dX12_takesHead_81 (v := (2 : Int32)) rfl ?_
    obtain ⟨hv28, h⟩ := h
    refine P_iast C kd_118 (fxl fx_118) hv28 dX12_takesHead_82 ?_
    refine P_nm (fun σ29 eσ29 => ?_)
    have h := h σ29 eσ29
    refine P_aload_n C dX12_takesHead_83 0 rfl ?_
    refine P_bipush C dX12_takesHead_84 (v := (8 : Int32)) rfl ?_
    refine P_iconst C dX12_takesHead_86 (v := (3 : Int32)) rfl ?_
    refine P_ci (R_v (ci := 12) C kv_X12_takesHead_X12_takesWord (As := [.int (8 : Int32), .int (3 : Int32)]) rfl kd_74 rfl (fxl fx_74) (Nat.le_of_ble_eq_true rfl) dX12_takesHead_87 ⟨Nat.le_refl _, Nat.le_refl _⟩ h) (fun r31 σ30 h => ?_)
    exact P_zret C h.1 dX12_takesHead_90 h.2
  by_cases c2 : r2.toInt = 115
  · rw [c2] at q3
    obtain rfl : (58 : Int) = off := q3
    refine ⟨?_, by decide +kernel⟩
    show PS M 62 _ _ _ _
    have h := h.2.2.2.1 c2
    refine P_aload_n C dX12_takesHead_62 0 rfl ?_
    refine P_getS C (e := 118) fa_X12_takesHead_65 kd_74 (d := 44) rfl (fxl fx_74) rfl dX12_takesHead_63 ?_
    refine P_iload_n C dX12_takesHead_66 1 rfl ?_
    refine P_iconst C dX12_takesHead_67 (v := (1 : Int32)) rfl ?_
    obtain ⟨hv32, h⟩ := h
    refine P_iast C kd_118 (fxl fx_118) hv32 dX12_takesHead_68 ?_
    refine P_nm (fun σ33 eσ33 => ?_)
    have h := h σ33 eσ33
    refine P_aload_n C dX12_takesHead_69 0 rfl ?_
    refine P_iconst C dX12_takesHead_70 (v := (4 : Int32)) rfl ?_
    refine P_iconst C dX12_takesHead_71 (v := (4 : Int32)) rfl ?_
    refine P_ci (R_v (ci := 12) C kv_X12_takesHead_X12_takesWord (As := [.int (4 : Int32), .int (4 : Int32)]) rfl kd_74 rfl (fxl fx_74) (Nat.le_of_ble_eq_true rfl) dX12_takesHead_72 ⟨Nat.le_refl _, Nat.le_refl _⟩ h) (fun r35 σ34 h => ?_)
    exact P_zret C h.1 dX12_takesHead_75 h.2
  by_cases c3 : r2.toInt = 116
  · rw [c3] at q3
    obtain rfl : (87 : Int) = off := q3
    refine ⟨?_, by decide +kernel⟩
    show PS M 91 _ _ _ _
    have h := h.2.2.2.2 c3
    refine P_aload_n C dX12_takesHead_91 0 rfl ?_
    refine P_getS C (e := 118) fa_X12_takesHead_65 kd_74 (d := 44) rfl (fxl fx_74) rfl dX12_takesHead_92 ?_
    refine P_iload_n C dX12_takesHead_95 1 rfl ?_
    refine P_iconst C dX12_takesHead_96 (v := (3 : Int32)) rfl ?_
    obtain ⟨hv36, h⟩ := h
    refine P_iast C kd_118 (fxl fx_118) hv36 dX12_takesHead_97 ?_
    refine P_nm (fun σ37 eσ37 => ?_)
    have h := h σ37 eσ37
    refine P_aload_n C dX12_takesHead_98 0 rfl ?_
    refine P_bipush C dX12_takesHead_99 (v := (11 : Int32)) rfl ?_
    refine P_iconst C dX12_takesHead_101 (v := (4 : Int32)) rfl ?_
    refine P_ci (R_v (ci := 12) C kv_X12_takesHead_X12_takesWord (As := [.int (11 : Int32), .int (4 : Int32)]) rfl kd_74 rfl (fxl fx_74) (Nat.le_of_ble_eq_true rfl) dX12_takesHead_102 ⟨Nat.le_refl _, Nat.le_refl _⟩ h) (fun r39 σ38 h => ?_)
    exact P_zret C h.1 dX12_takesHead_105 h.2
  have q3 : (102 : Int) = off := by rw [← q3]; simp [Op.lookupswitch.offset, Ne.symm c0, Ne.symm c1, Ne.symm c2, Ne.symm c3]
  subst q3
  refine ⟨?_, by decide +kernel⟩
  show PS M 106 _ _ _ _
  have h := h.1 ⟨c0, c1, c2, c3⟩
  refine P_aload_n C dX12_takesHead_106 0 rfl ?_
  refine P_getS C (e := 118) fa_X12_takesHead_65 kd_74 (d := 44) rfl (fxl fx_74) rfl dX12_takesHead_107 ?_
  refine P_iload_n C dX12_takesHead_110 1 rfl ?_
  refine P_iconst C dX12_takesHead_111 (v := (4 : Int32)) rfl ?_
  obtain ⟨hv4, h⟩ := h
  refine P_iast C kd_118 (fxl fx_118) hv4 dX12_takesHead_112 ?_
  refine P_nm (fun σ5 eσ5 => ?_)
  have h := h σ5 eσ5
  refine P_aload_n C dX12_takesHead_113 0 rfl ?_
  refine P_bipush C dX12_takesHead_114 (v := (15 : Int32)) rfl ?_
  refine P_iconst C dX12_takesHead_116 (v := (4 : Int32)) rfl ?_
  refine P_ci (R_v (ci := 12) C kv_X12_takesHead_X12_takesWord (As := [.int (15 : Int32), .int (4 : Int32)]) rfl kd_74 rfl (fxl fx_74) (Nat.le_of_ble_eq_true rfl) dX12_takesHead_117 ⟨Nat.le_refl _, Nat.le_refl _⟩ h) (fun r7 σ6 h => ?_)
  exact P_zret C h.1 dX12_takesHead_120 h.2
theorem fa_X12_isPressed_16 : FA RX12 wsX12_isPressed 16 12 2 "NineMowersModel" := by
  show _ ∧ _ ∧ _ ∧ _
  exact ⟨by decide +kernel, fun _ h => List.mem_cons_of_mem _ (List.mem_append_right _ h), List.mem_of_getElem? (i := 1) rfl, Or.inl rfl⟩
theorem fa_X12_isPressed_26 : FA RX12 wsX12_isPressed 26 12 5 "NineMowersModel" := by
  show _ ∧ _ ∧ _ ∧ _
  exact ⟨by decide +kernel, fun _ h => List.mem_cons_of_mem _ (List.mem_append_right _ h), List.mem_of_getElem? (i := 2) rfl, Or.inl rfl⟩
theorem fa_X12_isPressed_41 : FA RX12 wsX12_isPressed 41 12 10 "NineMowersModel" := by
  show _ ∧ _ ∧ _ ∧ _
  exact ⟨by decide +kernel, fun _ h => List.mem_cons_of_mem _ (List.mem_append_right _ h), List.mem_of_getElem? (i := 3) rfl, Or.inl rfl⟩
theorem kv_X12_isPressed_X12_gap : KV RX12 wsX12_isPressed (rmz 3) 316 RX12 yX12_gap wsX12_gap (rmz 2) 0 := ⟨_, _, _, _, gX12_isPressed_X12_gap, rfl, by decide +kernel, by decide +kernel⟩
noncomputable def K_X12_isPressed (l : Launch) (V : Vx) (a1 : Int32) (σ : Sg) (Qk : Int32 → Sg → Prop) : Prop := Ka l V yX12_isPressed wsX12_isPressed (rmz 3) 0 0 [.ref 74, .int a1] σ (QI V Qk)
theorem e_X12_isPressed {l : Launch} {V : Vx} {a1 : Int32} {σ : Sg} {Qk : Int32 → Sg → Prop} (h : ∀ M : Mx, mL M = l → mV M = V → mN M = 2 → Cx M cX12_isPressed (some .boolean) RX12 wsX12_isPressed (rmz 3) 0 0 (QI (mV M) Qk) → PS M 0 [(0, .ref 74), (1, .int a1)] [] σ (0, 0)) : K_X12_isPressed l V a1 σ Qk :=
  Ka_of (by decide +kernel) rfl rfl (Nat.le_of_ble_eq_true rfl) (fun M h1 h2 h3 C => h M h1 h2 h3 (by rw [h2]; exact C))
set_option maxRecDepth 100000 in
set_option maxHeartbeats 4000000 in
theorem s_X12_isPressed_0 {M : Mx} {Qk : Int32 → Sg → Prop} (C : Cx M cX12_isPressed (some .boolean) RX12 wsX12_isPressed (rmz 3) 0 0 (QI (mV M) Qk)) (hN : mN M = 2) {a1 : Int32} {σ : Sg} (h : (((gi σ 74 2) ≤ (a1 + (1 : Int32)) → Qk (0 : Int32) σ) ∧ (¬ (gi σ 74 2) ≤ (a1 + (1 : Int32)) → (vp_in a1 6 ∧ (vp_in (gi σ 110 a1.toNatClampNeg) 6 ∧ (vp_in (a1 + (1 : Int32)) 6 ∧ (vp_in (gi σ 110 (a1 + (1 : Int32)).toNatClampNeg) 6 ∧ K_X12_gap (mL M) (mV M) σ (fun r7 σ6 => (((r7 + (3 : Int32)) ≤ ((gi σ 105 (gi σ 110 a1.toNatClampNeg).toNatClampNeg) - (gi σ 105 (gi σ 110 (a1 + (1 : Int32)).toNatClampNeg).toNatClampNeg)) → Qk (0 : Int32) σ6) ∧ (¬ (r7 + (3 : Int32)) ≤ ((gi σ 105 (gi σ 110 a1.toNatClampNeg).toNatClampNeg) - (gi σ 105 (gi σ 110 (a1 + (1 : Int32)).toNatClampNeg).toNatClampNeg)) → Qk (1 : Int32) σ6)))))))))) : PS M 0 [(0, .ref 74), (1, .int a1)] [] σ (0, 0) := by
  refine P_iload_n C dX12_isPressed_0 1 rfl ?_
  refine P_iconst C dX12_isPressed_1 (v := (1 : Int32)) rfl ?_
  refine P_iadd C dX12_isPressed_2 ?_
  refine P_aload_n C dX12_isPressed_3 0 rfl ?_
  refine P_getI C fa_X12_isPressed_16 kd_74 rfl (fxl fx_74) dX12_isPressed_4 ?_
  refine P_icmp_ge C dX12_isPressed_7 (tgt := 48) (by decide +kernel) (fun q1 => ?_) (fun q1 => ?_)
  · have h := h.1 q1
    refine P_iconst C dX12_isPressed_48 (v := (0 : Int32)) rfl ?_
    exact P_zret C (by decide +kernel) dX12_isPressed_49 h
  · have h := h.2 q1
    refine P_aload_n C dX12_isPressed_10 0 rfl ?_
    refine P_getS C (e := 105) fa_X12_isPressed_26 kd_74 (d := 31) rfl (fxl fx_74) rfl dX12_isPressed_11 ?_
    refine P_aload_n C dX12_isPressed_14 0 rfl ?_
    refine P_getS C (e := 110) fa_X12_isPressed_41 kd_74 (d := 36) rfl (fxl fx_74) rfl dX12_isPressed_15 ?_
    refine P_iload_n C dX12_isPressed_18 1 rfl ?_
    obtain ⟨hv2, h⟩ := h
    refine P_iald C kd_110 (fxl fx_110) hv2 dX12_isPressed_19 ?_
    obtain ⟨hv3, h⟩ := h
    refine P_iald C kd_105 (fxl fx_105) hv3 dX12_isPressed_20 ?_
    refine P_aload_n C dX12_isPressed_21 0 rfl ?_
    refine P_getS C (e := 105) fa_X12_isPressed_26 kd_74 (d := 31) rfl (fxl fx_74) rfl dX12_isPressed_22 ?_
    refine P_aload_n C dX12_isPressed_25 0 rfl ?_
    refine P_getS C (e := 110) fa_X12_isPressed_41 kd_74 (d := 36) rfl (fxl fx_74) rfl dX12_isPressed_26 ?_
    refine P_iload_n C dX12_isPressed_29 1 rfl ?_
    refine P_iconst C dX12_isPressed_30 (v := (1 : Int32)) rfl ?_
    refine P_iadd C dX12_isPressed_31 ?_
    obtain ⟨hv4, h⟩ := h
    refine P_iald C kd_110 (fxl fx_110) hv4 dX12_isPressed_32 ?_
    obtain ⟨hv5, h⟩ := h
    refine P_iald C kd_105 (fxl fx_105) hv5 dX12_isPressed_33 ?_
    refine P_isub C dX12_isPressed_34 ?_
    refine P_aload_n C dX12_isPressed_35 0 rfl ?_
    refine P_ci (R_v (ci := 12) C kv_X12_isPressed_X12_gap (As := []) rfl kd_74 rfl (fxl fx_74) (Nat.le_of_ble_eq_true rfl) dX12_isPressed_36 ⟨Nat.le_refl _, Nat.le_refl _⟩ h) (fun r7 σ6 h => ?_)
    refine P_iconst C dX12_isPressed_39 (v := (3 : Int32)) rfl ?_
    refine P_iadd C dX12_isPressed_40 ?_
    refine P_icmp_ge C dX12_isPressed_41 (tgt := 48) (by decide +kernel) (fun q8 => ?_) (fun q8 => ?_)
    · have h := h.1 q8
      refine P_iconst C dX12_isPressed_48 (v := (0 : Int32)) rfl ?_
      exact P_zret C (by decide +kernel) dX12_isPressed_49 h
    · have h := h.2 q8
      refine P_iconst C dX12_isPressed_44 (v := (1 : Int32)) rfl ?_
      refine P_goto C dX12_isPressed_45 (tgt := 49) (by decide +kernel) ?_
      exact P_zret C (by decide +kernel) dX12_isPressed_49 h
theorem fa_X12_told_7 : FA RX12 wsX12_told 7 12 0 "NineMowersModel" := by
  show _ ∧ _ ∧ _ ∧ _
  exact ⟨by decide +kernel, fun _ h => List.mem_cons_of_mem _ (List.mem_append_right _ h), List.mem_of_getElem? (i := 1) rfl, Or.inl rfl⟩
theorem kv_X12_told_X12_in : KV RX12 wsX12_told (rmz 3) 239 RX12 yX12_in wsX12_in (rmz 0) 3 := ⟨_, _, _, _, gX12_told_X12_in, rfl, by decide +kernel, by decide +kernel⟩
theorem fa_X12_told_13 : FA RX12 wsX12_told 13 12 1 "NineMowersModel" := by
  show _ ∧ _ ∧ _ ∧ _
  exact ⟨by decide +kernel, fun _ h => List.mem_cons_of_mem _ (List.mem_append_right _ h), List.mem_of_getElem? (i := 3) rfl, Or.inl rfl⟩
theorem kv_X12_told_X12_gap : KV RX12 wsX12_told (rmz 3) 316 RX12 yX12_gap wsX12_gap (rmz 2) 0 := ⟨_, _, _, _, gX12_told_X12_gap, rfl, by decide +kernel, by decide +kernel⟩
theorem kv_X12_told_X12_lastOf : KV RX12 wsX12_told (rmz 3) 303 RX12 yX12_lastOf wsX12_lastOf (rmz 1) 2 := ⟨_, _, _, _, gX12_told_X12_lastOf, rfl, by decide +kernel, by decide +kernel⟩
theorem kv_X12_told_X12_fieldLong : KV RX12 wsX12_told (rmz 3) 335 RX12 yX12_fieldLong wsX12_fieldLong (rmz 2) 0 := ⟨_, _, _, _, gX12_told_X12_fieldLong, rfl, by decide +kernel, by decide +kernel⟩
theorem fa_X12_told_41 : FA RX12 wsX12_told 41 12 10 "NineMowersModel" := by
  show _ ∧ _ ∧ _ ∧ _
  exact ⟨by decide +kernel, fun _ h => List.mem_cons_of_mem _ (List.mem_append_right _ h), List.mem_of_getElem? (i := 2) rfl, Or.inl rfl⟩
noncomputable def K_X12_told (l : Launch) (V : Vx) (a1 : Int32) (σ : Sg) (Qk : Int32 → Sg → Prop) : Prop := Ka l V yX12_told wsX12_told (rmz 3) 0 0 [.ref 74, .int a1] σ (QI V Qk)
theorem e_X12_told {l : Launch} {V : Vx} {a1 : Int32} {σ : Sg} {Qk : Int32 → Sg → Prop} (h : ∀ M : Mx, mL M = l → mV M = V → mN M = 2 → Cx M cX12_told (some .int) RX12 wsX12_told (rmz 3) 0 0 (QI (mV M) Qk) → PS M 0 [(0, .ref 74), (1, .int a1)] [] σ (0, 0)) : K_X12_told l V a1 σ Qk :=
  Ka_of (by decide +kernel) rfl rfl (Nat.le_of_ble_eq_true rfl) (fun M h1 h2 h3 C => h M h1 h2 h3 (by rw [h2]; exact C))
set_option maxRecDepth 100000 in
set_option maxHeartbeats 4000000 in
theorem s_X12_told_0 {M : Mx} {Qk : Int32 → Sg → Prop} (C : Cx M cX12_told (some .int) RX12 wsX12_told (rmz 3) 0 0 (QI (mV M) Qk)) (hN : mN M = 2) {a1 : Int32} {σ : Sg} (h : K_X12_in (mL M) (mV M) a1 (10 : Int32) ((9 : Int32) + (gi σ 74 0)) σ (fun r2 σ1 => ((r2 = 0 → ((a1.toInt < 0 ∨ 3 < a1.toInt → Qk (-1 : Int32) σ1) ∧ (a1.toInt = 0 → Qk (gi σ1 74 1) σ1) ∧ (a1.toInt = 1 → K_X12_gap (mL M) (mV M) σ1 (fun r6 σ5 => Qk r6 σ5)) ∧ (a1.toInt = 2 → K_X12_lastOf (mL M) (mV M) (3 : Int32) (1 : Int32) σ1 (fun r8 σ7 => Qk r8 σ7)) ∧ (a1.toInt = 3 → K_X12_fieldLong (mL M) (mV M) σ1 (fun r10 σ9 => Qk r10 σ9)))) ∧ (¬ r2 = 0 → (vp_in (a1 - (10 : Int32)) 6 ∧ Qk (gi σ1 110 (a1 - (10 : Int32)).toNatClampNeg) σ1))))) : PS M 0 [(0, .ref 74), (1, .int a1)] [] σ (0, 0) := by
  refine P_aload_n C dX12_told_0 0 rfl ?_
  refine P_iload_n C dX12_told_1 1 rfl ?_
  refine P_bipush C dX12_told_2 (v := (10 : Int32)) rfl ?_
  refine P_bipush C dX12_told_4 (v := (9 : Int32)) rfl ?_
  refine P_aload_n C dX12_told_6 0 rfl ?_
  refine P_getI C fa_X12_told_7 kd_74 rfl (fxl fx_74) dX12_told_7 ?_
  refine P_iadd C dX12_told_10 ?_
  refine P_ci (R_v (ci := 12) C kv_X12_told_X12_in (As := [.int a1, .int (10 : Int32), .int ((9 : Int32) + (gi σ 74 0))]) rfl kd_74 rfl (fxl fx_74) (Nat.le_of_ble_eq_true rfl) dX12_told_11 ⟨Nat.le_refl _, Nat.le_refl _⟩ h) (fun r2 σ1 h => ?_)
  refine P_if_eq C dX12_told_14 (tgt := 27) (by decide +kernel) (fun q3 => ?_) (fun q3 => ?_)
  · have h := h.1 q3
    refine P_iload_n C dX12_told_27 1 rfl ?_
    refine P_tsw C dX12_told_28 82 (by decide +kernel) (fun q4 => ?_) (by decide +kernel) (fun i off ho q4 => ?_)
    · have h := h.1 q4
      refine P_iconst C dX12_told_82 (v := (-1 : Int32)) rfl ?_
      exact P_iret C dX12_told_83 h
    · rcases i with _ | _ | _ | _ | i
      · obtain rfl : (32 : Int) = off := Option.some.inj ho
        refine ⟨?_, by decide +kernel⟩
        show PS M 60 _ _ _ _
        have h := h.2.1 (by have q := q4; simp at q; omega)
        refine P_aload_n C dX12_told_60 0 rfl ?_
        refine P_getI C fa_X12_told_13 kd_74 rfl (fxl fx_74) dX12_told_61 ?_
        exact P_iret C dX12_told_64 h
      · obtain rfl : (37 : Int) = off := Option.some.inj ho
        refine ⟨?_, by decide +kernel⟩
        show PS M 65 _ _ _ _
        have h := h.2.2.1 (by have q := q4; simp at q; omega)
        refine P_aload_n C dX12_told_65 0 rfl ?_
        refine P_ci (R_v (ci := 12) C kv_X12_told_X12_gap (As := []) rfl kd_74 rfl (fxl fx_74) (Nat.le_of_ble_eq_true rfl) dX12_told_66 ⟨Nat.le_refl _, Nat.le_refl _⟩ h) (fun r6 σ5 h => ?_)
        exact P_iret C dX12_told_69 h
      · obtain rfl : (42 : Int) = off := Option.some.inj ho
        refine ⟨?_, by decide +kernel⟩
        show PS M 70 _ _ _ _
        have h := h.2.2.2.1 (by have q := q4; simp at q; omega)
        refine P_aload_n C dX12_told_70 0 rfl ?_
        refine P_iconst C dX12_told_71 (v := (3 : Int32)) rfl ?_
        refine P_iconst C dX12_told_72 (v := (1 : Int32)) rfl ?_
        refine P_ci (R_v (ci := 12) C kv_X12_told_X12_lastOf (As := [.int (3 : Int32), .int (1 : Int32)]) rfl kd_74 rfl (fxl fx_74) (Nat.le_of_ble_eq_true rfl) dX12_told_73 ⟨Nat.le_refl _, Nat.le_refl _⟩ h) (fun r8 σ7 h => ?_)
        exact P_iret C dX12_told_76 h
      · obtain rfl : (49 : Int) = off := Option.some.inj ho
        refine ⟨?_, by decide +kernel⟩
        show PS M 77 _ _ _ _
        have h := h.2.2.2.2 (by have q := q4; simp at q; omega)
        refine P_aload_n C dX12_told_77 0 rfl ?_
        refine P_ci (R_v (ci := 12) C kv_X12_told_X12_fieldLong (As := []) rfl kd_74 rfl (fxl fx_74) (Nat.le_of_ble_eq_true rfl) dX12_told_78 ⟨Nat.le_refl _, Nat.le_refl _⟩ h) (fun r10 σ9 h => ?_)
        exact P_iret C dX12_told_81 h
      · exact absurd (Array.getElem?_eq_some_iff.mp ho).1 (Nat.not_lt.mpr (by show 4 ≤ _; omega))
  · have h := h.2 q3
    refine P_aload_n C dX12_told_17 0 rfl ?_
    refine P_getS C (e := 110) fa_X12_told_41 kd_74 (d := 36) rfl (fxl fx_74) rfl dX12_told_18 ?_
    refine P_iload_n C dX12_told_21 1 rfl ?_
    refine P_bipush C dX12_told_22 (v := (10 : Int32)) rfl ?_
    refine P_isub C dX12_told_24 ?_
    obtain ⟨hv11, h⟩ := h
    refine P_iald C kd_110 (fxl fx_110) hv11 dX12_told_25 ?_
    exact P_iret C dX12_told_26 h
theorem fa_X12_goes_41 : FA RX12 wsX12_goes 41 12 10 "NineMowersModel" := by
  show _ ∧ _ ∧ _ ∧ _
  exact ⟨by decide +kernel, fun _ h => List.mem_cons_of_mem _ (List.mem_append_right _ h), List.mem_of_getElem? (i := 1) rfl, Or.inl rfl⟩
theorem fa_X12_goes_35 : FA RX12 wsX12_goes 35 12 8 "NineMowersModel" := by
  show _ ∧ _ ∧ _ ∧ _
  exact ⟨by decide +kernel, fun _ h => List.mem_cons_of_mem _ (List.mem_append_right _ h), List.mem_of_getElem? (i := 2) rfl, Or.inl rfl⟩
theorem fa_X12_goes_26 : FA RX12 wsX12_goes 26 12 5 "NineMowersModel" := by
  show _ ∧ _ ∧ _ ∧ _
  exact ⟨by decide +kernel, fun _ h => List.mem_cons_of_mem _ (List.mem_append_right _ h), List.mem_of_getElem? (i := 4) rfl, Or.inl rfl⟩
theorem kv_X12_goes_X12_gap : KV RX12 wsX12_goes (rmz 3) 316 RX12 yX12_gap wsX12_gap (rmz 2) 0 := ⟨_, _, _, _, gX12_goes_X12_gap, rfl, by decide +kernel, by decide +kernel⟩
theorem kv_X12_goes_X12_least : KV RX12 wsX12_goes (rmz 3) 338 RX12 yX12_least wsX12_least (rmz 0) 2 := ⟨_, _, _, _, gX12_goes_X12_least, rfl, by decide +kernel, by decide +kernel⟩
theorem fa_X12_goes_32 : FA RX12 wsX12_goes 32 12 7 "NineMowersModel" := by
  show _ ∧ _ ∧ _ ∧ _
  exact ⟨by decide +kernel, fun _ h => List.mem_cons_of_mem _ (List.mem_append_right _ h), List.mem_of_getElem? (i := 3) rfl, Or.inl rfl⟩
theorem kv_X12_goes_X12_most : KV RX12 wsX12_goes (rmz 3) 307 RX12 yX12_most wsX12_most (rmz 0) 2 := ⟨_, _, _, _, gX12_goes_X12_most, rfl, by decide +kernel, by decide +kernel⟩
theorem fa_X12_goes_105 : FA RX12 wsX12_goes 105 12 31 "NineMowersModel" := by
  show _ ∧ _ ∧ _ ∧ _
  exact ⟨by decide +kernel, fun _ h => List.mem_cons_of_mem _ (List.mem_append_right _ h), List.mem_of_getElem? (i := 5) rfl, Or.inl rfl⟩
theorem fa_X12_goes_29 : FA RX12 wsX12_goes 29 12 6 "NineMowersModel" := by
  show _ ∧ _ ∧ _ ∧ _
  exact ⟨by decide +kernel, fun _ h => List.mem_cons_of_mem _ (List.mem_append_right _ h), List.mem_of_getElem? (i := 6) rfl, Or.inl rfl⟩
theorem kv_X12_goes_X12_lastOf : KV RX12 wsX12_goes (rmz 3) 303 RX12 yX12_lastOf wsX12_lastOf (rmz 1) 2 := ⟨_, _, _, _, gX12_goes_X12_lastOf, rfl, by decide +kernel, by decide +kernel⟩
noncomputable def K_X12_goes (l : Launch) (V : Vx) (a1 : Int32) (σ : Sg) (Qk : Int32 → Sg → Prop) : Prop := Ka l V yX12_goes wsX12_goes (rmz 3) 0 0 [.ref 74, .int a1] σ (QI V Qk)
theorem e_X12_goes {l : Launch} {V : Vx} {a1 : Int32} {σ : Sg} {Qk : Int32 → Sg → Prop} (h : ∀ M : Mx, mL M = l → mV M = V → mN M = 6 → Cx M cX12_goes (some .boolean) RX12 wsX12_goes (rmz 3) 0 0 (QI (mV M) Qk) → PS M 0 [(0, .ref 74), (1, .int a1)] [] σ (0, 0)) : K_X12_goes l V a1 σ Qk :=
  Ka_of (by decide +kernel) rfl rfl (Nat.le_of_ble_eq_true rfl) (fun M h1 h2 h3 C => h M h1 h2 h3 (by rw [h2]; exact C))
set_option maxRecDepth 100000 in
set_option maxHeartbeats 4000000 in
theorem s_X12_goes_0 {M : Mx} {Qk : Int32 → Sg → Prop} (C : Cx M cX12_goes (some .boolean) RX12 wsX12_goes (rmz 3) 0 0 (QI (mV M) Qk)) (hN : mN M = 6) {a1 : Int32} {σ : Sg} (h : (vp_in a1 6 ∧ (∀ v2 : Int32, v2 = gi σ 110 a1.toNatClampNeg → (vp_in v2 6 ∧ (((gi σ 108 v2.toNatClampNeg) ≤ 0 → ((¬ a1 = 0 → (vp_in (a1 - (1 : Int32)) 6 ∧ (vp_in (gi σ 110 (a1 - (1 : Int32)).toNatClampNeg) 6 ∧ K_X12_gap (mL M) (mV M) σ (fun r9 σ8 => K_X12_least (mL M) (mV M) (9999 : Int32) ((gi σ 105 (gi σ 110 (a1 - (1 : Int32)).toNatClampNeg).toNatClampNeg) - r9) σ8 (fun r11 σ10 => PS M 82 [(0, .ref 74), (1, .int a1), (2, .int v2)] [.int r11] σ10 (0, 0)))))) ∧ (a1 = 0 → PS M 82 [(0, .ref 74), (1, .int a1), (2, .int v2)] [.int (9999 : Int32)] σ (0, 0)))) ∧ (¬ (gi σ 108 v2.toNatClampNeg) ≤ 0 → (vp_in v2 6 ∧ (vp_in v2 6 ∧ (∀ σ14 : Sg, σ14 = si σ 108 v2.toNatClampNeg ((gi σ 108 v2.toNatClampNeg) - (1 : Int32)) → (vp_in v2 6 ∧ K_X12_most (mL M) (mV M) (0 : Int32) ((gi σ14 107 v2.toNatClampNeg) - (2 : Int32)) σ14 (fun r17 σ16 => (vp_in v2 6 ∧ (∀ σ19 : Sg, σ19 = si σ16 107 v2.toNatClampNeg r17 → Qk (0 : Int32) σ19))))))))))))) : PS M 0 [(0, .ref 74), (1, .int a1)] [] σ (0, 0) := by
  refine P_aload_n C dX12_goes_0 0 rfl ?_
  refine P_getS C (e := 110) fa_X12_goes_41 kd_74 (d := 36) rfl (fxl fx_74) rfl dX12_goes_1 ?_
  refine P_iload_n C dX12_goes_4 1 rfl ?_
  obtain ⟨hv1, h⟩ := h
  refine P_iald C kd_110 (fxl fx_110) hv1 dX12_goes_5 ?_
  refine P_nmi (fun v2 ev2 => ?_)
  have h := h v2 ev2
  refine P_istore_n C dX12_goes_6 (by rw [hN]; decide) rfl ?_
  refine P_aload_n C dX12_goes_7 1 rfl ?_
  refine P_getS C (e := 108) fa_X12_goes_35 kd_74 (d := 34) rfl (fxl fx_74) rfl dX12_goes_8 ?_
  refine P_iload_n C dX12_goes_11 0 rfl ?_
  obtain ⟨hv3, h⟩ := h
  refine P_iald C kd_108 (fxl fx_108) hv3 dX12_goes_12 ?_
  refine P_if_le C dX12_goes_13 (tgt := 47) (by decide +kernel) (fun q4 => ?_) (fun q4 => ?_)
  · have h := h.1 q4
    refine P_iload_n C dX12_goes_47 2 rfl ?_
    refine P_if_ne C dX12_goes_48 (tgt := 57) (by decide +kernel) (fun q5 => ?_) (fun q5 => ?_)
    · have h := h.1 q5
      refine P_aload_n C dX12_goes_57 1 rfl ?_
      refine P_sipush C dX12_goes_58 (v := (9999 : Int32)) rfl ?_
      refine P_aload_n C dX12_goes_61 1 rfl ?_
      refine P_getS C (e := 105) fa_X12_goes_26 kd_74 (d := 31) rfl (fxl fx_74) rfl dX12_goes_62 ?_
      refine P_aload_n C dX12_goes_65 1 rfl ?_
      refine P_getS C (e := 110) fa_X12_goes_41 kd_74 (d := 36) rfl (fxl fx_74) rfl dX12_goes_66 ?_
      refine P_iload_n C dX12_goes_69 2 rfl ?_
      refine P_iconst C dX12_goes_70 (v := (1 : Int32)) rfl ?_
      refine P_isub C dX12_goes_71 ?_
      obtain ⟨hv6, h⟩ := h
      refine P_iald C kd_110 (fxl fx_110) hv6 dX12_goes_72 ?_
      obtain ⟨hv7, h⟩ := h
      refine P_iald C kd_105 (fxl fx_105) hv7 dX12_goes_73 ?_
      refine P_aload_n C dX12_goes_74 1 rfl ?_
      refine P_ci (R_v (ci := 12) C kv_X12_goes_X12_gap (As := []) rfl kd_74 rfl (fxl fx_74) (Nat.le_of_ble_eq_true rfl) dX12_goes_75 ⟨Nat.le_refl _, Nat.le_refl _⟩ h) (fun r9 σ8 h => ?_)
      refine P_isub C dX12_goes_78 ?_
      refine P_ci (R_v (ci := 12) C kv_X12_goes_X12_least (As := [.int (9999 : Int32), .int ((gi σ 105 (gi σ 110 (a1 - (1 : Int32)).toNatClampNeg).toNatClampNeg) - r9)]) rfl kd_74 rfl (fxl fx_74) (Nat.le_of_ble_eq_true rfl) dX12_goes_79 ⟨Nat.le_refl _, Nat.le_refl _⟩ h) (fun r11 σ10 h => ?_)
      exact P_sub [1, 2, 0] rfl h
    · have h := h.2 q5
      refine P_sipush C dX12_goes_51 (v := (9999 : Int32)) rfl ?_
      refine P_goto C dX12_goes_54 (tgt := 82) (by decide +kernel) ?_
      exact P_sub [1, 2, 0] rfl h
  · have h := h.2 q4
    refine P_aload_n C dX12_goes_16 1 rfl ?_
    refine P_getS C (e := 108) fa_X12_goes_35 kd_74 (d := 34) rfl (fxl fx_74) rfl dX12_goes_17 ?_
    refine P_iload_n C dX12_goes_20 0 rfl ?_
    refine P_dup2 C dX12_goes_21 rfl rfl ?_
    obtain ⟨hv12, h⟩ := h
    refine P_iald C kd_108 (fxl fx_108) hv12 dX12_goes_22 ?_
    refine P_iconst C dX12_goes_23 (v := (1 : Int32)) rfl ?_
    refine P_isub C dX12_goes_24 ?_
    obtain ⟨hv13, h⟩ := h
    refine P_iast C kd_108 (fxl fx_108) hv13 dX12_goes_25 ?_
    refine P_nm (fun σ14 eσ14 => ?_)
    have h := h σ14 eσ14
    refine P_aload_n C dX12_goes_26 1 rfl ?_
    refine P_getS C (e := 107) fa_X12_goes_32 kd_74 (d := 33) rfl (fxl fx_74) rfl dX12_goes_27 ?_
    refine P_iload_n C dX12_goes_30 0 rfl ?_
    refine P_aload_n C dX12_goes_31 1 rfl ?_
    refine P_iconst C dX12_goes_32 (v := (0 : Int32)) rfl ?_
    refine P_aload_n C dX12_goes_33 1 rfl ?_
    refine P_getS C (e := 107) fa_X12_goes_32 kd_74 (d := 33) rfl (fxl fx_74) rfl dX12_goes_34 ?_
    refine P_iload_n C dX12_goes_37 0 rfl ?_
    obtain ⟨hv15, h⟩ := h
    refine P_iald C kd_107 (fxl fx_107) hv15 dX12_goes_38 ?_
    refine P_iconst C dX12_goes_39 (v := (2 : Int32)) rfl ?_
    refine P_isub C dX12_goes_40 ?_
    refine P_ci (R_v (ci := 12) C kv_X12_goes_X12_most (As := [.int (0 : Int32), .int ((gi σ14 107 v2.toNatClampNeg) - (2 : Int32))]) rfl kd_74 rfl (fxl fx_74) (Nat.le_of_ble_eq_true rfl) dX12_goes_41 ⟨Nat.le_refl _, Nat.le_refl _⟩ h) (fun r17 σ16 h => ?_)
    obtain ⟨hv18, h⟩ := h
    refine P_iast C kd_107 (fxl fx_107) hv18 dX12_goes_44 ?_
    refine P_nm (fun σ19 eσ19 => ?_)
    have h := h σ19 eσ19
    refine P_iconst C dX12_goes_45 (v := (0 : Int32)) rfl ?_
    exact P_zret C (by decide +kernel) dX12_goes_46 h
set_option maxRecDepth 100000 in
set_option maxHeartbeats 4000000 in
theorem s_X12_goes_82 {M : Mx} {Qk : Int32 → Sg → Prop} (C : Cx M cX12_goes (some .boolean) RX12 wsX12_goes (rmz 3) 0 0 (QI (mV M) Qk)) (hN : mN M = 6) {x1 : Int32} {x2 : Int32} {z0 : Int32} {σ : Sg} (h : (vp_in x2 6 ∧ (vp_in x2 6 ∧ (vp_in x1 6 ∧ K_X12_least (mL M) (mV M) z0 ((gi σ 105 x2.toNatClampNeg) + (gi σ 131 x1.toNatClampNeg)) σ (fun r5 σ4 => K_X12_most (mL M) (mV M) (gi σ 105 x2.toNatClampNeg) r5 σ4 (fun r7 σ6 => (vp_in x2 6 ∧ (∀ v9 : Int32, v9 = r7 - (gi σ6 105 x2.toNatClampNeg) → (vp_in x2 6 ∧ (∀ σ11 : Sg, σ11 = si σ6 105 x2.toNatClampNeg r7 → ((v9 ≤ 0 → (vp_in x2 6 ∧ K_X12_most (mL M) (mV M) (0 : Int32) ((gi σ11 107 x2.toNatClampNeg) - (2 : Int32)) σ11 (fun r15 σ14 => (vp_in x2 6 ∧ (∀ σ17 : Sg, σ17 = si σ14 107 x2.toNatClampNeg r15 → PS M 203 [(0, .ref 74), (1, .int x1), (5, .int v9)] [] σ17 (0, 0)))))) ∧ (¬ v9 ≤ 0 → (vp_in x2 6 ∧ K_X12_most (mL M) (mV M) (0 : Int32) ((gi σ11 106 x2.toNatClampNeg) - (1 : Int32)) σ11 (fun r20 σ19 => (vp_in x2 6 ∧ (∀ σ22 : Sg, σ22 = si σ19 106 x2.toNatClampNeg r20 → (vp_in x2 6 ∧ K_X12_lastOf (mL M) (mV M) (3 : Int32) (1 : Int32) σ22 (fun r25 σ24 => K_X12_least (mL M) (mV M) (99 : Int32) ((gi σ22 107 x2.toNatClampNeg) + r25) σ24 (fun r27 σ26 => (vp_in x2 6 ∧ (∀ σ29 : Sg, σ29 = si σ26 107 x2.toNatClampNeg r27 → PS M 203 [(0, .ref 74), (1, .int x1), (5, .int v9)] [] σ29 (0, 0)))))))))))))))))))))) : PS M 82 [(0, .ref 74), (1, .int x1), (2, .int x2)] [.int z0] σ (0, 0) := by
  refine P_istore_n C dX12_goes_82 (by rw [hN]; decide) rfl ?_
  refine P_aload_n C dX12_goes_83 1 rfl ?_
  refine P_aload_n C dX12_goes_84 1 rfl ?_
  refine P_getS C (e := 105) fa_X12_goes_26 kd_74 (d := 31) rfl (fxl fx_74) rfl dX12_goes_85 ?_
  refine P_iload_n C dX12_goes_88 3 rfl ?_
  obtain ⟨hv1, h⟩ := h
  refine P_iald C kd_105 (fxl fx_105) hv1 dX12_goes_89 ?_
  refine P_aload_n C dX12_goes_90 1 rfl ?_
  refine P_iload_n C dX12_goes_91 0 rfl ?_
  refine P_aload_n C dX12_goes_92 1 rfl ?_
  refine P_getS C (e := 105) fa_X12_goes_26 kd_74 (d := 31) rfl (fxl fx_74) rfl dX12_goes_93 ?_
  refine P_iload_n C dX12_goes_96 3 rfl ?_
  obtain ⟨hv2, h⟩ := h
  refine P_iald C kd_105 (fxl fx_105) hv2 dX12_goes_97 ?_
  refine P_aload_n C dX12_goes_98 1 rfl ?_
  refine P_getS C (e := 131) fa_X12_goes_105 kd_74 (d := 57) rfl (fxl fx_74) rfl dX12_goes_99 ?_
  refine P_iload_n C dX12_goes_102 2 rfl ?_
  obtain ⟨hv3, h⟩ := h
  refine P_iald C kd_131 (fxl fx_131) hv3 dX12_goes_103 ?_
  refine P_iadd C dX12_goes_104 ?_
  refine P_ci (R_v (ci := 12) C kv_X12_goes_X12_least (As := [.int z0, .int ((gi σ 105 x2.toNatClampNeg) + (gi σ 131 x1.toNatClampNeg))]) rfl kd_74 rfl (fxl fx_74) (Nat.le_of_ble_eq_true rfl) dX12_goes_105 ⟨Nat.le_refl _, Nat.le_refl _⟩ h) (fun r5 σ4 h => ?_)
  refine P_ci (R_v (ci := 12) C kv_X12_goes_X12_most (As := [.int (gi σ 105 x2.toNatClampNeg), .int r5]) rfl kd_74 rfl (fxl fx_74) (Nat.le_of_ble_eq_true rfl) dX12_goes_108 ⟨Nat.le_refl _, Nat.le_refl _⟩ h) (fun r7 σ6 h => ?_)
  refine P_istore C dX12_goes_111 (by rw [hN]; decide) rfl ?_
  refine P_iload C dX12_goes_113 0 rfl ?_
  refine P_aload_n C dX12_goes_115 2 rfl ?_
  refine P_getS C (e := 105) fa_X12_goes_26 kd_74 (d := 31) rfl (fxl fx_74) rfl dX12_goes_116 ?_
  refine P_iload_n C dX12_goes_119 4 rfl ?_
  obtain ⟨hv8, h⟩ := h
  refine P_iald C kd_105 (fxl fx_105) hv8 dX12_goes_120 ?_
  refine P_isub C dX12_goes_121 ?_
  refine P_nmi (fun v9 ev9 => ?_)
  have h := h v9 ev9
  refine P_istore C dX12_goes_122 (by rw [hN]; decide) rfl ?_
  refine P_aload_n C dX12_goes_124 3 rfl ?_
  refine P_getS C (e := 105) fa_X12_goes_26 kd_74 (d := 31) rfl (fxl fx_74) rfl dX12_goes_125 ?_
  refine P_iload_n C dX12_goes_128 5 rfl ?_
  refine P_iload C dX12_goes_129 1 rfl ?_
  obtain ⟨hv10, h⟩ := h
  refine P_iast C kd_105 (fxl fx_105) hv10 dX12_goes_131 ?_
  refine P_nm (fun σ11 eσ11 => ?_)
  have h := h σ11 eσ11
  refine P_iload C dX12_goes_132 0 rfl ?_
  refine P_if_le C dX12_goes_134 (tgt := 184) (by decide +kernel) (fun q12 => ?_) (fun q12 => ?_)
  · have h := h.1 q12
    refine P_aload_n C dX12_goes_184 3 rfl ?_
    refine P_getS C (e := 107) fa_X12_goes_32 kd_74 (d := 33) rfl (fxl fx_74) rfl dX12_goes_185 ?_
    refine P_iload_n C dX12_goes_188 5 rfl ?_
    refine P_aload_n C dX12_goes_189 3 rfl ?_
    refine P_iconst C dX12_goes_190 (v := (0 : Int32)) rfl ?_
    refine P_aload_n C dX12_goes_191 3 rfl ?_
    refine P_getS C (e := 107) fa_X12_goes_32 kd_74 (d := 33) rfl (fxl fx_74) rfl dX12_goes_192 ?_
    refine P_iload_n C dX12_goes_195 5 rfl ?_
    obtain ⟨hv13, h⟩ := h
    refine P_iald C kd_107 (fxl fx_107) hv13 dX12_goes_196 ?_
    refine P_iconst C dX12_goes_197 (v := (2 : Int32)) rfl ?_
    refine P_isub C dX12_goes_198 ?_
    refine P_ci (R_v (ci := 12) C kv_X12_goes_X12_most (As := [.int (0 : Int32), .int ((gi σ11 107 x2.toNatClampNeg) - (2 : Int32))]) rfl kd_74 rfl (fxl fx_74) (Nat.le_of_ble_eq_true rfl) dX12_goes_199 ⟨Nat.le_refl _, Nat.le_refl _⟩ h) (fun r15 σ14 h => ?_)
    obtain ⟨hv16, h⟩ := h
    refine P_iast C kd_107 (fxl fx_107) hv16 dX12_goes_202 ?_
    refine P_nm (fun σ17 eσ17 => ?_)
    have h := h σ17 eσ17
    exact P_sub [3, 4, 0] rfl h
  · have h := h.2 q12
    refine P_aload_n C dX12_goes_137 3 rfl ?_
    refine P_getS C (e := 106) fa_X12_goes_29 kd_74 (d := 32) rfl (fxl fx_74) rfl dX12_goes_138 ?_
    refine P_iload_n C dX12_goes_141 5 rfl ?_
    refine P_aload_n C dX12_goes_142 3 rfl ?_
    refine P_iconst C dX12_goes_143 (v := (0 : Int32)) rfl ?_
    refine P_aload_n C dX12_goes_144 3 rfl ?_
    refine P_getS C (e := 106) fa_X12_goes_29 kd_74 (d := 32) rfl (fxl fx_74) rfl dX12_goes_145 ?_
    refine P_iload_n C dX12_goes_148 5 rfl ?_
    obtain ⟨hv18, h⟩ := h
    refine P_iald C kd_106 (fxl fx_106) hv18 dX12_goes_149 ?_
    refine P_iconst C dX12_goes_150 (v := (1 : Int32)) rfl ?_
    refine P_isub C dX12_goes_151 ?_
    refine P_ci (R_v (ci := 12) C kv_X12_goes_X12_most (As := [.int (0 : Int32), .int ((gi σ11 106 x2.toNatClampNeg) - (1 : Int32))]) rfl kd_74 rfl (fxl fx_74) (Nat.le_of_ble_eq_true rfl) dX12_goes_152 ⟨Nat.le_refl _, Nat.le_refl _⟩ h) (fun r20 σ19 h => ?_)
    obtain ⟨hv21, h⟩ := h
    refine P_iast C kd_106 (fxl fx_106) hv21 dX12_goes_155 ?_
    refine P_nm (fun σ22 eσ22 => ?_)
    have h := h σ22 eσ22
    refine P_aload_n C dX12_goes_156 3 rfl ?_
    refine P_getS C (e := 107) fa_X12_goes_32 kd_74 (d := 33) rfl (fxl fx_74) rfl dX12_goes_157 ?_
    refine P_iload_n C dX12_goes_160 5 rfl ?_
    refine P_aload_n C dX12_goes_161 3 rfl ?_
    refine P_bipush C dX12_goes_162 (v := (99 : Int32)) rfl ?_
    refine P_aload_n C dX12_goes_164 3 rfl ?_
    refine P_getS C (e := 107) fa_X12_goes_32 kd_74 (d := 33) rfl (fxl fx_74) rfl dX12_goes_165 ?_
    refine P_iload_n C dX12_goes_168 5 rfl ?_
    obtain ⟨hv23, h⟩ := h
    refine P_iald C kd_107 (fxl fx_107) hv23 dX12_goes_169 ?_
    refine P_aload_n C dX12_goes_170 3 rfl ?_
    refine P_iconst C dX12_goes_171 (v := (3 : Int32)) rfl ?_
    refine P_iconst C dX12_goes_172 (v := (1 : Int32)) rfl ?_
    refine P_ci (R_v (ci := 12) C kv_X12_goes_X12_lastOf (As := [.int (3 : Int32), .int (1 : Int32)]) rfl kd_74 rfl (fxl fx_74) (Nat.le_of_ble_eq_true rfl) dX12_goes_173 ⟨Nat.le_refl _, Nat.le_refl _⟩ h) (fun r25 σ24 h => ?_)
    refine P_iadd C dX12_goes_176 ?_
    refine P_ci (R_v (ci := 12) C kv_X12_goes_X12_least (As := [.int (99 : Int32), .int ((gi σ22 107 x2.toNatClampNeg) + r25)]) rfl kd_74 rfl (fxl fx_74) (Nat.le_of_ble_eq_true rfl) dX12_goes_177 ⟨Nat.le_refl _, Nat.le_refl _⟩ h) (fun r27 σ26 h => ?_)
    obtain ⟨hv28, h⟩ := h
    refine P_iast C kd_107 (fxl fx_107) hv28 dX12_goes_180 ?_
    refine P_nm (fun σ29 eσ29 => ?_)
    have h := h σ29 eσ29
    refine P_goto C dX12_goes_181 (tgt := 203) (by decide +kernel) ?_
    exact P_sub [3, 4, 0] rfl h
set_option maxRecDepth 100000 in
set_option maxHeartbeats 4000000 in
theorem s_X12_goes_203 {M : Mx} {Qk : Int32 → Sg → Prop} (C : Cx M cX12_goes (some .boolean) RX12 wsX12_goes (rmz 3) 0 0 (QI (mV M) Qk)) (hN : mN M = 6) {x1 : Int32} {x5 : Int32} {σ : Sg} (h : (vp_in x1 6 ∧ (((gi σ 131 x1.toNatClampNeg) ≤ x5 → Qk (0 : Int32) σ) ∧ (¬ (gi σ 131 x1.toNatClampNeg) ≤ x5 → Qk (1 : Int32) σ)))) : PS M 203 [(0, .ref 74), (1, .int x1), (5, .int x5)] [] σ (0, 0) := by
  refine P_iload C dX12_goes_203 2 rfl ?_
  refine P_aload_n C dX12_goes_205 0 rfl ?_
  refine P_getS C (e := 131) fa_X12_goes_105 kd_74 (d := 57) rfl (fxl fx_74) rfl dX12_goes_206 ?_
  refine P_iload_n C dX12_goes_209 1 rfl ?_
  obtain ⟨hv1, h⟩ := h
  refine P_iald C kd_131 (fxl fx_131) hv1 dX12_goes_210 ?_
  refine P_icmp_ge C dX12_goes_211 (tgt := 218) (by decide +kernel) (fun q2 => ?_) (fun q2 => ?_)
  · have h := h.1 q2
    refine P_iconst C dX12_goes_218 (v := (0 : Int32)) rfl ?_
    exact P_zret C (by decide +kernel) dX12_goes_219 h
  · have h := h.2 q2
    refine P_iconst C dX12_goes_214 (v := (1 : Int32)) rfl ?_
    refine P_goto C dX12_goes_215 (tgt := 219) (by decide +kernel) ?_
    exact P_zret C (by decide +kernel) dX12_goes_219 h
theorem fa_X12_isDone_7 : FA RX12 wsX12_isDone 7 12 0 "NineMowersModel" := by
  show _ ∧ _ ∧ _ ∧ _
  exact ⟨by decide +kernel, fun _ h => List.mem_cons_of_mem _ (List.mem_append_right _ h), List.mem_of_getElem? (i := 1) rfl, Or.inl rfl⟩
theorem fa_X12_isDone_26 : FA RX12 wsX12_isDone 26 12 5 "NineMowersModel" := by
  show _ ∧ _ ∧ _ ∧ _
  exact ⟨by decide +kernel, fun _ h => List.mem_cons_of_mem _ (List.mem_append_right _ h), List.mem_of_getElem? (i := 2) rfl, Or.inl rfl⟩
theorem kv_X12_isDone_X12_fieldLong : KV RX12 wsX12_isDone (rmz 3) 335 RX12 yX12_fieldLong wsX12_fieldLong (rmz 2) 0 := ⟨_, _, _, _, gX12_isDone_X12_fieldLong, rfl, by decide +kernel, by decide +kernel⟩
noncomputable def K_X12_isDone (l : Launch) (V : Vx) (σ : Sg) (Qk : Int32 → Sg → Prop) : Prop := Ka l V yX12_isDone wsX12_isDone (rmz 3) 0 0 [.ref 74] σ (QI V Qk)
theorem e_X12_isDone {l : Launch} {V : Vx} {σ : Sg} {Qk : Int32 → Sg → Prop} (h : ∀ M : Mx, mL M = l → mV M = V → mN M = 2 → Cx M cX12_isDone (some .boolean) RX12 wsX12_isDone (rmz 3) 0 0 (QI (mV M) Qk) → PS M 0 [(0, .ref 74)] [] σ (0, 0)) : K_X12_isDone l V σ Qk :=
  Ka_of (by decide +kernel) rfl rfl (Nat.le_of_ble_eq_true rfl) (fun M h1 h2 h3 C => h M h1 h2 h3 (by rw [h2]; exact C))
set_option maxRecDepth 100000 in
set_option maxHeartbeats 4000000 in
theorem s_X12_isDone_0 {M : Mx} {Qk : Int32 → Sg → Prop} (C : Cx M cX12_isDone (some .boolean) RX12 wsX12_isDone (rmz 3) 0 0 (QI (mV M) Qk)) (hN : mN M = 2) {σ : Sg} (h : PS M 2 [(0, .ref 74), (1, .int (0 : Int32))] [] σ (0, 0)) : PS M 0 [(0, .ref 74)] [] σ (0, 0) := by
  refine P_iconst C dX12_isDone_0 (v := (0 : Int32)) rfl ?_
  refine P_istore_n C dX12_isDone_1 (by rw [hN]; decide) rfl ?_
  exact P_sub [1, 0] rfl h
set_option maxRecDepth 100000 in
set_option maxHeartbeats 4000000 in
theorem s_X12_isDone_2 {M : Mx} {Qk : Int32 → Sg → Prop} (C : Cx M cX12_isDone (some .boolean) RX12 wsX12_isDone (rmz 3) 0 0 (QI (mV M) Qk)) (hN : mN M = 2) {x1 : Int32} {σ : Sg} (h : (((gi σ 74 0) ≤ x1 → Qk (1 : Int32) σ) ∧ (¬ (gi σ 74 0) ≤ x1 → (vp_in x1 6 ∧ K_X12_fieldLong (mL M) (mV M) σ (fun r4 σ3 => ((r4 ≤ (gi σ 105 x1.toNatClampNeg) → (∀ v6 : Int32, v6 = x1 + 1 → PS M 2 [(0, .ref 74), (1, .int v6)] [] σ3 (0, 0))) ∧ (¬ r4 ≤ (gi σ 105 x1.toNatClampNeg) → Qk (0 : Int32) σ3))))))) : PS M 2 [(0, .ref 74), (1, .int x1)] [] σ (0, 0) := by
  refine P_iload_n C dX12_isDone_2 1 rfl ?_
  refine P_aload_n C dX12_isDone_3 0 rfl ?_
  refine P_getI C fa_X12_isDone_7 kd_74 rfl (fxl fx_74) dX12_isDone_4 ?_
  refine P_icmp_ge C dX12_isDone_7 (tgt := 31) (by decide +kernel) (fun q1 => ?_) (fun q1 => ?_)
  · have h := h.1 q1
    refine P_iconst C dX12_isDone_31 (v := (1 : Int32)) rfl ?_
    exact P_zret C (by decide +kernel) dX12_isDone_32 h
  · have h := h.2 q1
    refine P_aload_n C dX12_isDone_10 0 rfl ?_
    refine P_getS C (e := 105) fa_X12_isDone_26 kd_74 (d := 31) rfl (fxl fx_74) rfl dX12_isDone_11 ?_
    refine P_iload_n C dX12_isDone_14 1 rfl ?_
    obtain ⟨hv2, h⟩ := h
    refine P_iald C kd_105 (fxl fx_105) hv2 dX12_isDone_15 ?_
    refine P_aload_n C dX12_isDone_16 0 rfl ?_
    refine P_ci (R_v (ci := 12) C kv_X12_isDone_X12_fieldLong (As := []) rfl kd_74 rfl (fxl fx_74) (Nat.le_of_ble_eq_true rfl) dX12_isDone_17 ⟨Nat.le_refl _, Nat.le_refl _⟩ h) (fun r4 σ3 h => ?_)
    refine P_icmp_ge C dX12_isDone_20 (tgt := 25) (by decide +kernel) (fun q5 => ?_) (fun q5 => ?_)
    · have h := h.1 q5
      obtain ⟨v6, ev6⟩ : ∃ v : Int32, v = x1 + 1 := ⟨_, rfl⟩
      have h := h v6 ev6
      refine P_iinc (v := v6) C dX12_isDone_25 1 rfl (by rw [ev6]; rfl) (by rw [hN]; decide) rfl ?_
      refine P_goto C dX12_isDone_28 (tgt := 2) (by decide +kernel) ?_
      exact P_sub [1, 0] rfl h
    · have h := h.2 q5
      refine P_iconst C dX12_isDone_23 (v := (0 : Int32)) rfl ?_
      exact P_zret C (by decide +kernel) dX12_isDone_24 h
theorem kv_X12_mowerWhets_X12_body : KV RX12 wsX12_mowerWhets (rmz 3) 406 RX12 yX12_body wsX12_body (rmz 0) 1 := ⟨_, _, _, _, gX12_mowerWhets_X12_body, rfl, by decide +kernel, by decide +kernel⟩
theorem kv_X12_mowerWhets_X12_mowsAct : KV RX12 wsX12_mowerWhets (rmz 3) 412 RX12 yX12_mowsAct wsX12_mowsAct (rmz 2) 2 := ⟨_, _, _, _, gX12_mowerWhets_X12_mowsAct, rfl, by decide +kernel, by decide +kernel⟩
theorem fa_X12_mowerWhets_23 : FA RX12 wsX12_mowerWhets 23 12 4 "NineMowersModel" := by
  show _ ∧ _ ∧ _ ∧ _
  exact ⟨by decide +kernel, fun _ h => List.mem_cons_of_mem _ (List.mem_append_right _ h), List.mem_of_getElem? (i := 1) rfl, Or.inl rfl⟩
noncomputable def K_X12_mowerWhets (l : Launch) (V : Vx) (a1 : Int32) (a2 : Int32) (σ : Sg) (Qk : Int32 → Sg → Prop) : Prop := Ka l V yX12_mowerWhets wsX12_mowerWhets (rmz 3) 0 0 [.ref 74, .int a1, .int a2] σ (QI V Qk)
theorem e_X12_mowerWhets {l : Launch} {V : Vx} {a1 : Int32} {a2 : Int32} {σ : Sg} {Qk : Int32 → Sg → Prop} (h : ∀ M : Mx, mL M = l → mV M = V → mN M = 3 → Cx M cX12_mowerWhets (some .int) RX12 wsX12_mowerWhets (rmz 3) 0 0 (QI (mV M) Qk) → PS M 0 [(0, .ref 74), (1, .int a1), (2, .int a2)] [] σ (0, 0)) : K_X12_mowerWhets l V a1 a2 σ Qk :=
  Ka_of (by decide +kernel) rfl rfl (Nat.le_of_ble_eq_true rfl) (fun M h1 h2 h3 C => h M h1 h2 h3 (by rw [h2]; exact C))
set_option maxRecDepth 100000 in
set_option maxHeartbeats 4000000 in
theorem s_X12_mowerWhets_0 {M : Mx} {Qk : Int32 → Sg → Prop} (C : Cx M cX12_mowerWhets (some .int) RX12 wsX12_mowerWhets (rmz 3) 0 0 (QI (mV M) Qk)) (hN : mN M = 3) {a1 : Int32} {a2 : Int32} {σ : Sg} (h : K_X12_body (mL M) (mV M) (11 : Int32) σ (fun σ1 => K_X12_mowsAct (mL M) (mV M) a1 a2 σ1 (fun r3 σ2 => (vp_in a1 6 ∧ Qk (r3 - (gi σ2 104 a1.toNatClampNeg)) σ2)))) : PS M 0 [(0, .ref 74), (1, .int a1), (2, .int a2)] [] σ (0, 0) := by
  refine P_aload_n C dX12_mowerWhets_0 0 rfl ?_
  refine P_bipush C dX12_mowerWhets_1 (v := (11 : Int32)) rfl ?_
  refine P_cv (R_v (ci := 12) C kv_X12_mowerWhets_X12_body (As := [.int (11 : Int32)]) rfl kd_74 rfl (fxl fx_74) (Nat.le_of_ble_eq_true rfl) dX12_mowerWhets_3 ⟨Nat.le_refl _, Nat.le_refl _⟩ h) (fun σ1 h => ?_)
  refine P_aload_n C dX12_mowerWhets_6 0 rfl ?_
  refine P_iload_n C dX12_mowerWhets_7 1 rfl ?_
  refine P_iload_n C dX12_mowerWhets_8 2 rfl ?_
  refine P_ci (R_v (ci := 12) C kv_X12_mowerWhets_X12_mowsAct (As := [.int a1, .int a2]) rfl kd_74 rfl (fxl fx_74) (Nat.le_of_ble_eq_true rfl) dX12_mowerWhets_9 ⟨Nat.le_refl _, Nat.le_refl _⟩ h) (fun r3 σ2 h => ?_)
  refine P_aload_n C dX12_mowerWhets_12 0 rfl ?_
  refine P_getS C (e := 104) fa_X12_mowerWhets_23 kd_74 (d := 30) rfl (fxl fx_74) rfl dX12_mowerWhets_13 ?_
  refine P_iload_n C dX12_mowerWhets_16 1 rfl ?_
  obtain ⟨hv4, h⟩ := h
  refine P_iald C kd_104 (fxl fx_104) hv4 dX12_mowerWhets_17 ?_
  refine P_isub C dX12_mowerWhets_18 ?_
  exact P_iret C dX12_mowerWhets_19 h
theorem pa_X12_takesE_86 : PA RX12 wsX12_takesE 86 12 25 "NineMowersModel" .int := by
  show _ ∧ _ ∧ _ ∧ _ ∧ _ ∧ _ ∧ _ ∧ _
  exact ⟨by decide +kernel, fun _ h => List.mem_cons_of_mem _ (List.mem_append_right _ h), List.mem_of_getElem? (i := 1) rfl, rfl, rfl, by decide +kernel, ⟨tyX12, tyX12_ok⟩, nmX12⟩
theorem pa_X12_takesE_89 : PA RX12 wsX12_takesE 89 12 26 "NineMowersModel" .int := by
  show _ ∧ _ ∧ _ ∧ _ ∧ _ ∧ _ ∧ _ ∧ _
  exact ⟨by decide +kernel, fun _ h => List.mem_cons_of_mem _ (List.mem_append_right _ h), List.mem_of_getElem? (i := 2) rfl, rfl, rfl, by decide +kernel, ⟨tyX12, tyX12_ok⟩, nmX12⟩
theorem fa_X12_takesE_71 : FA RX12 wsX12_takesE 71 12 20 "NineMowersModel" := by
  show _ ∧ _ ∧ _ ∧ _
  exact ⟨by decide +kernel, fun _ h => List.mem_cons_of_mem _ (List.mem_append_right _ h), List.mem_of_getElem? (i := 3) rfl, Or.inl rfl⟩
theorem fa_X12_takesE_83 : FA RX12 wsX12_takesE 83 12 24 "NineMowersModel" := by
  show _ ∧ _ ∧ _ ∧ _
  exact ⟨by decide +kernel, fun _ h => List.mem_cons_of_mem _ (List.mem_append_right _ h), List.mem_of_getElem? (i := 4) rfl, Or.inl rfl⟩
theorem kv_X12_takesE_X12_next : KV RX12 wsX12_takesE (rmz 4) 251 RX12 yX12_next wsX12_next (rmz 0) 0 := ⟨_, _, _, _, gX12_takesE_X12_next, rfl, by decide +kernel, by decide +kernel⟩
theorem kv_X12_takesE_X12_settle : KV RX12 wsX12_takesE (rmz 4) 278 RX12 yX12_settle wsX12_settle (rmz 1) 1 := ⟨_, _, _, _, gX12_takesE_X12_settle, rfl, by decide +kernel, by decide +kernel⟩
theorem fa_X12_takesE_74 : FA RX12 wsX12_takesE 74 12 21 "NineMowersModel" := by
  show _ ∧ _ ∧ _ ∧ _
  exact ⟨by decide +kernel, fun _ h => List.mem_cons_of_mem _ (List.mem_append_right _ h), List.mem_of_getElem? (i := 7) rfl, Or.inl rfl⟩
theorem fa_X12_takesE_86 : FA RX12 wsX12_takesE 86 12 25 "NineMowersModel" := by
  show _ ∧ _ ∧ _ ∧ _
  exact ⟨by decide +kernel, fun _ h => List.mem_cons_of_mem _ (List.mem_append_right _ h), List.mem_of_getElem? (i := 1) rfl, Or.inl rfl⟩
theorem fa_X12_takesE_89 : FA RX12 wsX12_takesE 89 12 26 "NineMowersModel" := by
  show _ ∧ _ ∧ _ ∧ _
  exact ⟨by decide +kernel, fun _ h => List.mem_cons_of_mem _ (List.mem_append_right _ h), List.mem_of_getElem? (i := 2) rfl, Or.inl rfl⟩
theorem fa_X12_takesE_53 : FA RX12 wsX12_takesE 53 12 14 "NineMowersModel" := by
  show _ ∧ _ ∧ _ ∧ _
  exact ⟨by decide +kernel, fun _ h => List.mem_cons_of_mem _ (List.mem_append_right _ h), List.mem_of_getElem? (i := 6) rfl, Or.inl rfl⟩
theorem pa_X12_takesE_53 : PA RX12 wsX12_takesE 53 12 14 "NineMowersModel" .int := by
  show _ ∧ _ ∧ _ ∧ _ ∧ _ ∧ _ ∧ _ ∧ _
  exact ⟨by decide +kernel, fun _ h => List.mem_cons_of_mem _ (List.mem_append_right _ h), List.mem_of_getElem? (i := 6) rfl, rfl, rfl, by decide +kernel, ⟨tyX12, tyX12_ok⟩, nmX12⟩
theorem kv_X12_takesE_X12_whole : KV RX12 wsX12_takesE (rmz 4) 272 RX12 yX12_whole wsX12_whole (rmz 1) 0 := ⟨_, _, _, _, gX12_takesE_X12_whole, rfl, by decide +kernel, by decide +kernel⟩
theorem kv_X12_takesE_X12_takesTest : KV RX12 wsX12_takesE (rmz 4) 275 RX12 yX12_takesTest wsX12_takesTest (rmz 3) 0 := ⟨_, _, _, _, gX12_takesE_X12_takesTest, rfl, by decide +kernel, by decide +kernel⟩
theorem fa_X12_takesE_80 : FA RX12 wsX12_takesE 80 12 23 "NineMowersModel" := by
  show _ ∧ _ ∧ _ ∧ _
  exact ⟨by decide +kernel, fun _ h => List.mem_cons_of_mem _ (List.mem_append_right _ h), List.mem_of_getElem? (i := 5) rfl, Or.inl rfl⟩
noncomputable def K_X12_takesE (l : Launch) (V : Vx) (a1 : Int32) (σ : Sg) (Qk : Int32 → Sg → Prop) : Prop := Ka l V yX12_takesE wsX12_takesE (rmz 4) 0 0 [.ref 74, .int a1] σ (QI V Qk)
theorem e_X12_takesE {l : Launch} {V : Vx} {a1 : Int32} {σ : Sg} {Qk : Int32 → Sg → Prop} (h : ∀ M : Mx, mL M = l → mV M = V → mN M = 4 → Cx M cX12_takesE (some .boolean) RX12 wsX12_takesE (rmz 4) 0 0 (QI (mV M) Qk) → PS M 0 [(0, .ref 74), (1, .int a1)] [] σ (0, 0)) : K_X12_takesE l V a1 σ Qk :=
  Ka_of (by decide +kernel) rfl rfl (Nat.le_of_ble_eq_true rfl) (fun M h1 h2 h3 C => h M h1 h2 h3 (by rw [h2]; exact C))
set_option maxRecDepth 100000 in
set_option maxHeartbeats 4000000 in
theorem s_X12_takesE_0 {M : Mx} {Qk : Int32 → Sg → Prop} (C : Cx M cX12_takesE (some .boolean) RX12 wsX12_takesE (rmz 4) 0 0 (QI (mV M) Qk)) (hN : mN M = 4) {a1 : Int32} {σ : Sg} (h : (∀ σ1 : Sg, σ1 = si σ 74 25 (0 : Int32) → (∀ σ2 : Sg, σ2 = si σ1 74 26 (0 : Int32) → (vp_in a1 60 ∧ (∀ σ4 : Sg, σ4 = si σ2 120 a1.toNatClampNeg (gi σ2 74 24) → PS M 22 [(0, .ref 74), (1, .int a1), (2, .int (1 : Int32))] [] σ4 (0, 0)))))) : PS M 0 [(0, .ref 74), (1, .int a1)] [] σ (0, 0) := by
  refine P_aload_n C dX12_takesE_0 0 rfl ?_
  refine P_iconst C dX12_takesE_1 (v := (0 : Int32)) rfl ?_
  refine P_putI C pa_X12_takesE_86 kd_74 rfl (fxl fx_74) dX12_takesE_2 ?_
  refine P_nm (fun σ1 eσ1 => ?_)
  have h := h σ1 eσ1
  refine P_aload_n C dX12_takesE_5 0 rfl ?_
  refine P_iconst C dX12_takesE_6 (v := (0 : Int32)) rfl ?_
  refine P_putI C pa_X12_takesE_89 kd_74 rfl (fxl fx_74) dX12_takesE_7 ?_
  refine P_nm (fun σ2 eσ2 => ?_)
  have h := h σ2 eσ2
  refine P_aload_n C dX12_takesE_10 0 rfl ?_
  refine P_getS C (e := 120) fa_X12_takesE_71 kd_74 (d := 46) rfl (fxl fx_74) rfl dX12_takesE_11 ?_
  refine P_iload_n C dX12_takesE_14 1 rfl ?_
  refine P_aload_n C dX12_takesE_15 0 rfl ?_
  refine P_getI C fa_X12_takesE_83 kd_74 rfl (fxl fx_74) dX12_takesE_16 ?_
  obtain ⟨hv3, h⟩ := h
  refine P_iast C kd_120 (fxl fx_120) hv3 dX12_takesE_19 ?_
  refine P_nm (fun σ4 eσ4 => ?_)
  have h := h σ4 eσ4
  refine P_iconst C dX12_takesE_20 (v := (1 : Int32)) rfl ?_
  refine P_istore_n C dX12_takesE_21 (by rw [hN]; decide) rfl ?_
  exact P_sub [1, 2, 0] rfl h
set_option maxRecDepth 100000 in
set_option maxHeartbeats 4000000 in
theorem s_X12_takesE_22 {M : Mx} {Qk : Int32 → Sg → Prop} (C : Cx M cX12_takesE (some .boolean) RX12 wsX12_takesE (rmz 4) 0 0 (QI (mV M) Qk)) (hN : mN M = 4) {x1 : Int32} {x2 : Int32} {σ : Sg} (h : K_X12_next (mL M) (mV M) σ (fun r2 σ1 => ((x2 = 0 → ((r2 = (38 : Int32) → PS M 122 [(0, .ref 74), (1, .int x1), (3, .int r2)] [] σ1 (0, 0)) ∧ (¬ r2 = (38 : Int32) → ((¬ r2 = (124 : Int32) → K_X12_settle (mL M) (mV M) (124 : Int32) σ1 (fun σ6 => (vp_in x1 60 ∧ (∀ σ8 : Sg, σ8 = si σ6 121 x1.toNatClampNeg (gi σ6 74 24) → ((¬ (gi σ8 74 25) = 0 → ((r2 = (41 : Int32) → (∀ σ11 : Sg, σ11 = si σ8 74 25 ((gi σ8 74 25) - (1 : Int32)) → (∀ σ12 : Sg, σ12 = si σ11 74 26 ((gi σ11 74 26) - (1 : Int32)) → (∀ σ13 : Sg, σ13 = si σ12 74 14 ((gi σ12 74 14) + (1 : Int32)) → K_X12_whole (mL M) (mV M) σ13 (fun σ14 => PS M 22 [(0, .ref 74), (1, .int x1), (2, .int x2)] [] σ14 (0, 0)))))) ∧ (¬ r2 = (41 : Int32) → Qk (0 : Int32) σ8))) ∧ ((gi σ8 74 25) = 0 → Qk (1 : Int32) σ8)))))) ∧ (r2 = (124 : Int32) → PS M 122 [(0, .ref 74), (1, .int x1), (3, .int r2)] [] σ1 (0, 0)))))) ∧ (¬ x2 = 0 → ((r2 = (33 : Int32) → PS M 43 [(0, .ref 74), (1, .int x1), (2, .int x2), (3, .int r2)] [] σ1 (0, 0)) ∧ (¬ r2 = (33 : Int32) → ((¬ r2 = (40 : Int32) → K_X12_takesTest (mL M) (mV M) σ1 (fun r18 σ17 => ((r18 = 0 → Qk (0 : Int32) σ17) ∧ (¬ r18 = 0 → PS M 22 [(0, .ref 74), (1, .int x1), (2, .int (0 : Int32))] [] σ17 (0, 0))))) ∧ (r2 = (40 : Int32) → PS M 43 [(0, .ref 74), (1, .int x1), (2, .int x2), (3, .int r2)] [] σ1 (0, 0))))))))) : PS M 22 [(0, .ref 74), (1, .int x1), (2, .int x2)] [] σ (0, 0) := by
  refine P_aload_n C dX12_takesE_22 0 rfl ?_
  refine P_ci (R_v (ci := 12) C kv_X12_takesE_X12_next (As := []) rfl kd_74 rfl (fxl fx_74) (Nat.le_of_ble_eq_true rfl) dX12_takesE_23 ⟨Nat.le_refl _, Nat.le_refl _⟩ h) (fun r2 σ1 h => ?_)
  refine P_istore_n C dX12_takesE_26 (by rw [hN]; decide) rfl ?_
  refine P_iload_n C dX12_takesE_27 3 rfl ?_
  refine P_if_eq C dX12_takesE_28 (tgt := 110) (by decide +kernel) (fun q3 => ?_) (fun q3 => ?_)
  · have h := h.1 q3
    refine P_iload_n C dX12_takesE_110 0 rfl ?_
    refine P_bipush C dX12_takesE_111 (v := (38 : Int32)) rfl ?_
    refine P_icmp_eq C dX12_takesE_113 (tgt := 122) (by decide +kernel) (fun q4 => ?_) (fun q4 => ?_)
    · have h := h.1 q4
      exact P_sub [1, 2, 0] rfl h
    · have h := h.2 q4
      refine P_iload_n C dX12_takesE_116 0 rfl ?_
      refine P_bipush C dX12_takesE_117 (v := (124 : Int32)) rfl ?_
      refine P_icmp_ne C dX12_takesE_119 (tgt := 162) (by decide +kernel) (fun q5 => ?_) (fun q5 => ?_)
      · have h := h.1 q5
        refine P_aload_n C dX12_takesE_162 1 rfl ?_
        refine P_bipush C dX12_takesE_163 (v := (124 : Int32)) rfl ?_
        refine P_cv (R_v (ci := 12) C kv_X12_takesE_X12_settle (As := [.int (124 : Int32)]) rfl kd_74 rfl (fxl fx_74) (Nat.le_of_ble_eq_true rfl) dX12_takesE_165 ⟨Nat.le_refl _, Nat.le_refl _⟩ h) (fun σ6 h => ?_)
        refine P_aload_n C dX12_takesE_168 1 rfl ?_
        refine P_getS C (e := 121) fa_X12_takesE_74 kd_74 (d := 47) rfl (fxl fx_74) rfl dX12_takesE_169 ?_
        refine P_iload_n C dX12_takesE_172 2 rfl ?_
        refine P_aload_n C dX12_takesE_173 1 rfl ?_
        refine P_getI C fa_X12_takesE_83 kd_74 rfl (fxl fx_74) dX12_takesE_174 ?_
        obtain ⟨hv7, h⟩ := h
        refine P_iast C kd_121 (fxl fx_121) hv7 dX12_takesE_177 ?_
        refine P_nm (fun σ8 eσ8 => ?_)
        have h := h σ8 eσ8
        refine P_aload_n C dX12_takesE_178 1 rfl ?_
        refine P_getI C fa_X12_takesE_86 kd_74 rfl (fxl fx_74) dX12_takesE_179 ?_
        refine P_if_ne C dX12_takesE_182 (tgt := 187) (by decide +kernel) (fun q9 => ?_) (fun q9 => ?_)
        · have h := h.1 q9
          refine P_iload_n C dX12_takesE_187 0 rfl ?_
          refine P_bipush C dX12_takesE_188 (v := (41 : Int32)) rfl ?_
          refine P_icmp_eq C dX12_takesE_190 (tgt := 195) (by decide +kernel) (fun q10 => ?_) (fun q10 => ?_)
          · have h := h.1 q10
            refine P_aload_n C dX12_takesE_195 1 rfl ?_
            refine P_dup C dX12_takesE_196 rfl ?_
            refine P_getI C fa_X12_takesE_86 kd_74 rfl (fxl fx_74) dX12_takesE_197 ?_
            refine P_iconst C dX12_takesE_200 (v := (1 : Int32)) rfl ?_
            refine P_isub C dX12_takesE_201 ?_
            refine P_putI C pa_X12_takesE_86 kd_74 rfl (fxl fx_74) dX12_takesE_202 ?_
            refine P_nm (fun σ11 eσ11 => ?_)
            have h := h σ11 eσ11
            refine P_aload_n C dX12_takesE_205 1 rfl ?_
            refine P_dup C dX12_takesE_206 rfl ?_
            refine P_getI C fa_X12_takesE_89 kd_74 rfl (fxl fx_74) dX12_takesE_207 ?_
            refine P_iconst C dX12_takesE_210 (v := (1 : Int32)) rfl ?_
            refine P_isub C dX12_takesE_211 ?_
            refine P_putI C pa_X12_takesE_89 kd_74 rfl (fxl fx_74) dX12_takesE_212 ?_
            refine P_nm (fun σ12 eσ12 => ?_)
            have h := h σ12 eσ12
            refine P_aload_n C dX12_takesE_215 1 rfl ?_
            refine P_dup C dX12_takesE_216 rfl ?_
            refine P_getI C fa_X12_takesE_53 kd_74 rfl (fxl fx_74) dX12_takesE_217 ?_
            refine P_iconst C dX12_takesE_220 (v := (1 : Int32)) rfl ?_
            refine P_iadd C dX12_takesE_221 ?_
            refine P_putI C pa_X12_takesE_53 kd_74 rfl (fxl fx_74) dX12_takesE_222 ?_
            refine P_nm (fun σ13 eσ13 => ?_)
            have h := h σ13 eσ13
            refine P_aload_n C dX12_takesE_225 1 rfl ?_
            refine P_cv (R_v (ci := 12) C kv_X12_takesE_X12_whole (As := []) rfl kd_74 rfl (fxl fx_74) (Nat.le_of_ble_eq_true rfl) dX12_takesE_226 ⟨Nat.le_refl _, Nat.le_refl _⟩ h) (fun σ14 h => ?_)
            refine P_goto C dX12_takesE_229 (tgt := 22) (by decide +kernel) ?_
            exact P_sub [1, 2, 3] rfl h
          · have h := h.2 q10
            refine P_iconst C dX12_takesE_193 (v := (0 : Int32)) rfl ?_
            exact P_zret C (by decide +kernel) dX12_takesE_194 h
        · have h := h.2 q9
          refine P_iconst C dX12_takesE_185 (v := (1 : Int32)) rfl ?_
          exact P_zret C (by decide +kernel) dX12_takesE_186 h
      · have h := h.2 q5
        exact P_sub [1, 2, 0] rfl h
  · have h := h.2 q3
    refine P_iload_n C dX12_takesE_31 0 rfl ?_
    refine P_bipush C dX12_takesE_32 (v := (33 : Int32)) rfl ?_
    refine P_icmp_eq C dX12_takesE_34 (tgt := 43) (by decide +kernel) (fun q15 => ?_) (fun q15 => ?_)
    · have h := h.1 q15
      exact P_sub [1, 2, 3, 0] rfl h
    · have h := h.2 q15
      refine P_iload_n C dX12_takesE_37 0 rfl ?_
      refine P_bipush C dX12_takesE_38 (v := (40 : Int32)) rfl ?_
      refine P_icmp_ne C dX12_takesE_40 (tgt := 96) (by decide +kernel) (fun q16 => ?_) (fun q16 => ?_)
      · have h := h.1 q16
        refine P_aload_n C dX12_takesE_96 1 rfl ?_
        refine P_ci (R_v (ci := 12) C kv_X12_takesE_X12_takesTest (As := []) rfl kd_74 rfl (fxl fx_74) (Nat.le_of_ble_eq_true rfl) dX12_takesE_97 ⟨Nat.le_refl _, Nat.le_refl _⟩ h) (fun r18 σ17 h => ?_)
        refine P_if_eq C dX12_takesE_100 (tgt := 108) (by decide +kernel) (fun q19 => ?_) (fun q19 => ?_)
        · have h := h.1 q19
          refine P_iconst C dX12_takesE_108 (v := (0 : Int32)) rfl ?_
          exact P_zret C (by decide +kernel) dX12_takesE_109 h
        · have h := h.2 q19
          refine P_iconst C dX12_takesE_103 (v := (0 : Int32)) rfl ?_
          refine P_istore_n C dX12_takesE_104 (by rw [hN]; decide) rfl ?_
          refine P_goto C dX12_takesE_105 (tgt := 22) (by decide +kernel) ?_
          exact P_sub [2, 3, 0] rfl h
      · have h := h.2 q16
        exact P_sub [1, 2, 3, 0] rfl h
set_option maxRecDepth 100000 in
set_option maxHeartbeats 4000000 in
theorem s_X12_takesE_122 {M : Mx} {Qk : Int32 → Sg → Prop} (C : Cx M cX12_takesE (some .boolean) RX12 wsX12_takesE (rmz 4) 0 0 (QI (mV M) Qk)) (hN : mN M = 4) {x1 : Int32} {x3 : Int32} {σ : Sg} (h : K_X12_settle (mL M) (mV M) x3 σ (fun σ1 => (vp_in (gi σ1 74 25) 101 ∧ (∀ σ3 : Sg, σ3 = si σ1 123 (gi σ1 74 25).toNatClampNeg x3 → (∀ σ4 : Sg, σ4 = si σ3 74 25 ((gi σ3 74 25) + (1 : Int32)) → (∀ σ5 : Sg, σ5 = si σ4 74 14 ((gi σ4 74 14) + (1 : Int32)) → PS M 22 [(0, .ref 74), (1, .int x1), (2, .int (1 : Int32))] [] σ5 (0, 0))))))) : PS M 122 [(0, .ref 74), (1, .int x1), (3, .int x3)] [] σ (0, 0) := by
  refine P_aload_n C dX12_takesE_122 0 rfl ?_
  refine P_iload_n C dX12_takesE_123 2 rfl ?_
  refine P_cv (R_v (ci := 12) C kv_X12_takesE_X12_settle (As := [.int x3]) rfl kd_74 rfl (fxl fx_74) (Nat.le_of_ble_eq_true rfl) dX12_takesE_124 ⟨Nat.le_refl _, Nat.le_refl _⟩ h) (fun σ1 h => ?_)
  refine P_aload_n C dX12_takesE_127 0 rfl ?_
  refine P_getS C (e := 123) fa_X12_takesE_80 kd_74 (d := 49) rfl (fxl fx_74) rfl dX12_takesE_128 ?_
  refine P_aload_n C dX12_takesE_131 0 rfl ?_
  refine P_getI C fa_X12_takesE_86 kd_74 rfl (fxl fx_74) dX12_takesE_132 ?_
  refine P_iload_n C dX12_takesE_135 2 rfl ?_
  obtain ⟨hv2, h⟩ := h
  refine P_iast C kd_123 (fxl fx_123) hv2 dX12_takesE_136 ?_
  refine P_nm (fun σ3 eσ3 => ?_)
  have h := h σ3 eσ3
  refine P_aload_n C dX12_takesE_137 0 rfl ?_
  refine P_dup C dX12_takesE_138 rfl ?_
  refine P_getI C fa_X12_takesE_86 kd_74 rfl (fxl fx_74) dX12_takesE_139 ?_
  refine P_iconst C dX12_takesE_142 (v := (1 : Int32)) rfl ?_
  refine P_iadd C dX12_takesE_143 ?_
  refine P_putI C pa_X12_takesE_86 kd_74 rfl (fxl fx_74) dX12_takesE_144 ?_
  refine P_nm (fun σ4 eσ4 => ?_)
  have h := h σ4 eσ4
  refine P_iconst C dX12_takesE_147 (v := (1 : Int32)) rfl ?_
  refine P_istore_n C dX12_takesE_148 (by rw [hN]; decide) rfl ?_
  refine P_aload_n C dX12_takesE_149 1 rfl ?_
  refine P_dup C dX12_takesE_150 rfl ?_
  refine P_getI C fa_X12_takesE_53 kd_74 rfl (fxl fx_74) dX12_takesE_151 ?_
  refine P_iconst C dX12_takesE_154 (v := (1 : Int32)) rfl ?_
  refine P_iadd C dX12_takesE_155 ?_
  refine P_putI C pa_X12_takesE_53 kd_74 rfl (fxl fx_74) dX12_takesE_156 ?_
  refine P_nm (fun σ5 eσ5 => ?_)
  have h := h σ5 eσ5
  refine P_goto C dX12_takesE_159 (tgt := 22) (by decide +kernel) ?_
  exact P_sub [1, 2, 0] rfl h
set_option maxRecDepth 100000 in
set_option maxHeartbeats 4000000 in
theorem s_X12_takesE_43 {M : Mx} {Qk : Int32 → Sg → Prop} (C : Cx M cX12_takesE (some .boolean) RX12 wsX12_takesE (rmz 4) 0 0 (QI (mV M) Qk)) (hN : mN M = 4) {x1 : Int32} {x2 : Int32} {x3 : Int32} {σ : Sg} (h : ((¬ (gi σ 74 26) = (4 : Int32) → (∀ σ2 : Sg, σ2 = si σ 74 26 ((gi σ 74 26) + (1 : Int32)) → (vp_in (gi σ2 74 25) 101 ∧ (∀ σ4 : Sg, σ4 = si σ2 123 (gi σ2 74 25).toNatClampNeg x3 → (∀ σ5 : Sg, σ5 = si σ4 74 25 ((gi σ4 74 25) + (1 : Int32)) → (∀ σ6 : Sg, σ6 = si σ5 74 14 ((gi σ5 74 14) + (1 : Int32)) → PS M 22 [(0, .ref 74), (1, .int x1), (2, .int x2)] [] σ6 (0, 0))))))) ∧ ((gi σ 74 26) = (4 : Int32) → Qk (0 : Int32) σ))) : PS M 43 [(0, .ref 74), (1, .int x1), (2, .int x2), (3, .int x3)] [] σ (0, 0) := by
  refine P_aload_n C dX12_takesE_43 0 rfl ?_
  refine P_getI C fa_X12_takesE_89 kd_74 rfl (fxl fx_74) dX12_takesE_44 ?_
  refine P_iconst C dX12_takesE_47 (v := (4 : Int32)) rfl ?_
  refine P_icmp_ne C dX12_takesE_48 (tgt := 53) (by decide +kernel) (fun q1 => ?_) (fun q1 => ?_)
  · have h := h.1 q1
    refine P_aload_n C dX12_takesE_53 0 rfl ?_
    refine P_dup C dX12_takesE_54 rfl ?_
    refine P_getI C fa_X12_takesE_89 kd_74 rfl (fxl fx_74) dX12_takesE_55 ?_
    refine P_iconst C dX12_takesE_58 (v := (1 : Int32)) rfl ?_
    refine P_iadd C dX12_takesE_59 ?_
    refine P_putI C pa_X12_takesE_89 kd_74 rfl (fxl fx_74) dX12_takesE_60 ?_
    refine P_nm (fun σ2 eσ2 => ?_)
    have h := h σ2 eσ2
    refine P_aload_n C dX12_takesE_63 0 rfl ?_
    refine P_getS C (e := 123) fa_X12_takesE_80 kd_74 (d := 49) rfl (fxl fx_74) rfl dX12_takesE_64 ?_
    refine P_aload_n C dX12_takesE_67 0 rfl ?_
    refine P_getI C fa_X12_takesE_86 kd_74 rfl (fxl fx_74) dX12_takesE_68 ?_
    refine P_iload_n C dX12_takesE_71 3 rfl ?_
    obtain ⟨hv3, h⟩ := h
    refine P_iast C kd_123 (fxl fx_123) hv3 dX12_takesE_72 ?_
    refine P_nm (fun σ4 eσ4 => ?_)
    have h := h σ4 eσ4
    refine P_aload_n C dX12_takesE_73 0 rfl ?_
    refine P_dup C dX12_takesE_74 rfl ?_
    refine P_getI C fa_X12_takesE_86 kd_74 rfl (fxl fx_74) dX12_takesE_75 ?_
    refine P_iconst C dX12_takesE_78 (v := (1 : Int32)) rfl ?_
    refine P_iadd C dX12_takesE_79 ?_
    refine P_putI C pa_X12_takesE_86 kd_74 rfl (fxl fx_74) dX12_takesE_80 ?_
    refine P_nm (fun σ5 eσ5 => ?_)
    have h := h σ5 eσ5
    refine P_aload_n C dX12_takesE_83 0 rfl ?_
    refine P_dup C dX12_takesE_84 rfl ?_
    refine P_getI C fa_X12_takesE_53 kd_74 rfl (fxl fx_74) dX12_takesE_85 ?_
    refine P_iconst C dX12_takesE_88 (v := (1 : Int32)) rfl ?_
    refine P_iadd C dX12_takesE_89 ?_
    refine P_putI C pa_X12_takesE_53 kd_74 rfl (fxl fx_74) dX12_takesE_90 ?_
    refine P_nm (fun σ6 eσ6 => ?_)
    have h := h σ6 eσ6
    refine P_goto C dX12_takesE_93 (tgt := 22) (by decide +kernel) ?_
    exact P_sub [0, 1, 2] rfl h
  · have h := h.2 q1
    refine P_iconst C dX12_takesE_51 (v := (0 : Int32)) rfl ?_
    exact P_zret C (by decide +kernel) dX12_takesE_52 h
theorem fa_X12_strideOf_32 : FA RX12 wsX12_strideOf 32 12 7 "NineMowersModel" := by
  show _ ∧ _ ∧ _ ∧ _
  exact ⟨by decide +kernel, fun _ h => List.mem_cons_of_mem _ (List.mem_append_right _ h), List.mem_of_getElem? (i := 1) rfl, Or.inl rfl⟩
theorem kv_X12_strideOf_X12_most : KV RX12 wsX12_strideOf (rmz 4) 307 RX12 yX12_most wsX12_most (rmz 0) 2 := ⟨_, _, _, _, gX12_strideOf_X12_most, rfl, by decide +kernel, by decide +kernel⟩
theorem fa_X12_strideOf_19 : FA RX12 wsX12_strideOf 19 12 3 "NineMowersModel" := by
  show _ ∧ _ ∧ _ ∧ _
  exact ⟨by decide +kernel, fun _ h => List.mem_cons_of_mem _ (List.mem_append_right _ h), List.mem_of_getElem? (i := 2) rfl, Or.inl rfl⟩
theorem kv_X12_strideOf_X12_hasty : KV RX12 wsX12_strideOf (rmz 4) 319 RX12 yX12_hasty wsX12_hasty (rmz 0) 2 := ⟨_, _, _, _, gX12_strideOf_X12_hasty, rfl, by decide +kernel, by decide +kernel⟩
theorem fa_X12_strideOf_23 : FA RX12 wsX12_strideOf 23 12 4 "NineMowersModel" := by
  show _ ∧ _ ∧ _ ∧ _
  exact ⟨by decide +kernel, fun _ h => List.mem_cons_of_mem _ (List.mem_append_right _ h), List.mem_of_getElem? (i := 3) rfl, Or.inl rfl⟩
theorem kv_X12_strideOf_X12_isPressed : KV RX12 wsX12_strideOf (rmz 4) 322 RX12 yX12_isPressed wsX12_isPressed (rmz 3) 1 := ⟨_, _, _, _, gX12_strideOf_X12_isPressed, rfl, by decide +kernel, by decide +kernel⟩
theorem fa_X12_strideOf_38 : FA RX12 wsX12_strideOf 38 12 9 "NineMowersModel" := by
  show _ ∧ _ ∧ _ ∧ _
  exact ⟨by decide +kernel, fun _ h => List.mem_cons_of_mem _ (List.mem_append_right _ h), List.mem_of_getElem? (i := 4) rfl, Or.inl rfl⟩
theorem fa_X12_strideOf_13 : FA RX12 wsX12_strideOf 13 12 1 "NineMowersModel" := by
  show _ ∧ _ ∧ _ ∧ _
  exact ⟨by decide +kernel, fun _ h => List.mem_cons_of_mem _ (List.mem_append_right _ h), List.mem_of_getElem? (i := 5) rfl, Or.inl rfl⟩
noncomputable def K_X12_strideOf (l : Launch) (V : Vx) (a1 : Int32) (a2 : Int32) (a3 : Int32) (σ : Sg) (Qk : Int32 → Sg → Prop) : Prop := Ka l V yX12_strideOf wsX12_strideOf (rmz 4) 0 0 [.ref 74, .int a1, .int a2, .int a3] σ (QI V Qk)
theorem e_X12_strideOf {l : Launch} {V : Vx} {a1 : Int32} {a2 : Int32} {a3 : Int32} {σ : Sg} {Qk : Int32 → Sg → Prop} (h : ∀ M : Mx, mL M = l → mV M = V → mN M = 5 → Cx M cX12_strideOf (some .int) RX12 wsX12_strideOf (rmz 4) 0 0 (QI (mV M) Qk) → PS M 0 [(0, .ref 74), (1, .int a1), (2, .int a2), (3, .int a3)] [] σ (0, 0)) : K_X12_strideOf l V a1 a2 a3 σ Qk :=
  Ka_of (by decide +kernel) rfl rfl (Nat.le_of_ble_eq_true rfl) (fun M h1 h2 h3 C => h M h1 h2 h3 (by rw [h2]; exact C))
set_option maxRecDepth 100000 in
set_option maxHeartbeats 4000000 in
theorem s_X12_strideOf_0 {M : Mx} {Qk : Int32 → Sg → Prop} (C : Cx M cX12_strideOf (some .int) RX12 wsX12_strideOf (rmz 4) 0 0 (QI (mV M) Qk)) (hN : mN M = 5) {a1 : Int32} {a2 : Int32} {a3 : Int32} {σ : Sg} (h : (vp_in a2 6 ∧ K_X12_most (mL M) (mV M) (0 : Int32) (a3 - ((gi σ 107 a2.toNatClampNeg) / (20 : Int32))) σ (fun r3 σ2 => (vp_in a2 6 ∧ (((gi σ2 103 a2.toNatClampNeg).toInt < 1 ∨ 6 < (gi σ2 103 a2.toNatClampNeg).toInt → Qk r3 σ2) ∧ ((gi σ2 103 a2.toNatClampNeg).toInt = 1 → Qk a3 σ2) ∧ ((gi σ2 103 a2.toNatClampNeg).toInt = 2 → K_X12_hasty (mL M) (mV M) a2 r3 σ2 (fun r7 σ6 => Qk r7 σ6)) ∧ ((gi σ2 103 a2.toNatClampNeg).toInt = 3 → Qk (r3 / (2 : Int32)) σ2) ∧ ((gi σ2 103 a2.toNatClampNeg).toInt = 4 → (vp_in a2 6 ∧ Qk (a3 - ((gi σ2 104 a2.toNatClampNeg) / (3 : Int32))) σ2)) ∧ ((gi σ2 103 a2.toNatClampNeg).toInt = 5 → K_X12_hasty (mL M) (mV M) a2 r3 σ2 (fun r10 σ9 => K_X12_isPressed (mL M) (mV M) a1 σ9 (fun r12 σ11 => ((r12 = 0 → Qk (r10 + (0 : Int32)) σ11) ∧ (¬ r12 = 0 → Qk (r10 + (2 : Int32)) σ11))))) ∧ ((gi σ2 103 a2.toNatClampNeg).toInt = 6 → (vp_in (((4 : Int32) * a2) + ((gi σ2 74 1) - (gi σ2 74 1) / (4 : Int32) * (4 : Int32))) 24 ∧ Qk ((r3 / (2 : Int32)) + (gi σ2 109 (((4 : Int32) * a2) + ((gi σ2 74 1) - (gi σ2 74 1) / (4 : Int32) * (4 : Int32))).toNatClampNeg)) σ2))))))) : PS M 0 [(0, .ref 74), (1, .int a1), (2, .int a2), (3, .int a3)] [] σ (0, 0) := by
  refine P_aload_n C dX12_strideOf_0 0 rfl ?_
  refine P_iconst C dX12_strideOf_1 (v := (0 : Int32)) rfl ?_
  refine P_iload_n C dX12_strideOf_2 3 rfl ?_
  refine P_aload_n C dX12_strideOf_3 0 rfl ?_
  refine P_getS C (e := 107) fa_X12_strideOf_32 kd_74 (d := 33) rfl (fxl fx_74) rfl dX12_strideOf_4 ?_
  refine P_iload_n C dX12_strideOf_7 2 rfl ?_
  obtain ⟨hv1, h⟩ := h
  refine P_iald C kd_107 (fxl fx_107) hv1 dX12_strideOf_8 ?_
  refine P_bipush C dX12_strideOf_9 (v := (20 : Int32)) rfl ?_
  refine P_idiv C dX12_strideOf_11 (by decide +kernel) ?_
  refine P_isub C dX12_strideOf_12 ?_
  refine P_ci (R_v (ci := 12) C kv_X12_strideOf_X12_most (As := [.int (0 : Int32), .int (a3 - ((gi σ 107 a2.toNatClampNeg) / (20 : Int32)))]) rfl kd_74 rfl (fxl fx_74) (Nat.le_of_ble_eq_true rfl) dX12_strideOf_13 ⟨Nat.le_refl _, Nat.le_refl _⟩ h) (fun r3 σ2 h => ?_)
  refine P_istore C dX12_strideOf_16 (by rw [hN]; decide) rfl ?_
  refine P_aload_n C dX12_strideOf_18 1 rfl ?_
  refine P_getS C (e := 103) fa_X12_strideOf_19 kd_74 (d := 29) rfl (fxl fx_74) rfl dX12_strideOf_19 ?_
  refine P_iload_n C dX12_strideOf_22 3 rfl ?_
  obtain ⟨hv4, h⟩ := h
  refine P_iald C kd_103 (fxl fx_103) hv4 dX12_strideOf_23 ?_
  refine P_tsw C dX12_strideOf_24 133 (by decide +kernel) (fun q5 => ?_) (by decide +kernel) (fun i off ho q5 => ?_)
  · have h := h.1 q5
    refine P_iload C dX12_strideOf_133 0 rfl ?_
    exact P_iret C dX12_strideOf_135 h
  · rcases i with _ | _ | _ | _ | _ | _ | i
    · obtain rfl : (40 : Int) = off := Option.some.inj ho
      refine ⟨?_, by decide +kernel⟩
      show PS M 64 _ _ _ _
      have h := h.2.1 (by have q := q5; simp at q; omega)
      refine P_iload_n C dX12_strideOf_64 4 rfl ?_
      exact P_iret C dX12_strideOf_65 h
    · obtain rfl : (42 : Int) = off := Option.some.inj ho
      refine ⟨?_, by decide +kernel⟩
      show PS M 66 _ _ _ _
      have h := h.2.2.1 (by have q := q5; simp at q; omega)
      refine P_aload_n C dX12_strideOf_66 1 rfl ?_
      refine P_iload_n C dX12_strideOf_67 3 rfl ?_
      refine P_iload C dX12_strideOf_68 0 rfl ?_
      refine P_ci (R_v (ci := 12) C kv_X12_strideOf_X12_hasty (As := [.int a2, .int r3]) rfl kd_74 rfl (fxl fx_74) (Nat.le_of_ble_eq_true rfl) dX12_strideOf_70 ⟨Nat.le_refl _, Nat.le_refl _⟩ h) (fun r7 σ6 h => ?_)
      exact P_iret C dX12_strideOf_73 h
    · obtain rfl : (50 : Int) = off := Option.some.inj ho
      refine ⟨?_, by decide +kernel⟩
      show PS M 74 _ _ _ _
      have h := h.2.2.2.1 (by have q := q5; simp at q; omega)
      refine P_iload C dX12_strideOf_74 0 rfl ?_
      refine P_iconst C dX12_strideOf_76 (v := (2 : Int32)) rfl ?_
      refine P_idiv C dX12_strideOf_77 (by decide +kernel) ?_
      exact P_iret C dX12_strideOf_78 h
    · obtain rfl : (55 : Int) = off := Option.some.inj ho
      refine ⟨?_, by decide +kernel⟩
      show PS M 79 _ _ _ _
      have h := h.2.2.2.2.1 (by have q := q5; simp at q; omega)
      refine P_iload_n C dX12_strideOf_79 4 rfl ?_
      refine P_aload_n C dX12_strideOf_80 1 rfl ?_
      refine P_getS C (e := 104) fa_X12_strideOf_23 kd_74 (d := 30) rfl (fxl fx_74) rfl dX12_strideOf_81 ?_
      refine P_iload_n C dX12_strideOf_84 3 rfl ?_
      obtain ⟨hv8, h⟩ := h
      refine P_iald C kd_104 (fxl fx_104) hv8 dX12_strideOf_85 ?_
      refine P_iconst C dX12_strideOf_86 (v := (3 : Int32)) rfl ?_
      refine P_idiv C dX12_strideOf_87 (by decide +kernel) ?_
      refine P_isub C dX12_strideOf_88 ?_
      exact P_iret C dX12_strideOf_89 h
    · obtain rfl : (66 : Int) = off := Option.some.inj ho
      refine ⟨?_, by decide +kernel⟩
      show PS M 90 _ _ _ _
      have h := h.2.2.2.2.2.1 (by have q := q5; simp at q; omega)
      refine P_aload_n C dX12_strideOf_90 1 rfl ?_
      refine P_iload_n C dX12_strideOf_91 3 rfl ?_
      refine P_iload C dX12_strideOf_92 0 rfl ?_
      refine P_ci (R_v (ci := 12) C kv_X12_strideOf_X12_hasty (As := [.int a2, .int r3]) rfl kd_74 rfl (fxl fx_74) (Nat.le_of_ble_eq_true rfl) dX12_strideOf_94 ⟨Nat.le_refl _, Nat.le_refl _⟩ h) (fun r10 σ9 h => ?_)
      refine P_aload_n C dX12_strideOf_97 1 rfl ?_
      refine P_iload_n C dX12_strideOf_98 2 rfl ?_
      refine P_ci (R_v (ci := 12) C kv_X12_strideOf_X12_isPressed (As := [.int a1]) rfl kd_74 rfl (fxl fx_74) (Nat.le_of_ble_eq_true rfl) dX12_strideOf_99 ⟨Nat.le_refl _, Nat.le_refl _⟩ h) (fun r12 σ11 h => ?_)
      refine P_if_eq C dX12_strideOf_102 (tgt := 109) (by decide +kernel) (fun q13 => ?_) (fun q13 => ?_)
      · have h := h.1 q13
        refine P_iconst C dX12_strideOf_109 (v := (0 : Int32)) rfl ?_
        refine P_iadd C dX12_strideOf_110 ?_
        exact P_iret C dX12_strideOf_111 h
      · have h := h.2 q13
        refine P_iconst C dX12_strideOf_105 (v := (2 : Int32)) rfl ?_
        refine P_goto C dX12_strideOf_106 (tgt := 110) (by decide +kernel) ?_
        refine P_iadd C dX12_strideOf_110 ?_
        exact P_iret C dX12_strideOf_111 h
    · obtain rfl : (88 : Int) = off := Option.some.inj ho
      refine ⟨?_, by decide +kernel⟩
      show PS M 112 _ _ _ _
      have h := h.2.2.2.2.2.2 (by have q := q5; simp at q; omega)
      refine P_iload C dX12_strideOf_112 0 rfl ?_
      refine P_iconst C dX12_strideOf_114 (v := (2 : Int32)) rfl ?_
      refine P_idiv C dX12_strideOf_115 (by decide +kernel) ?_
      refine P_aload_n C dX12_strideOf_116 1 rfl ?_
      refine P_getS C (e := 109) fa_X12_strideOf_38 kd_74 (d := 35) rfl (fxl fx_74) rfl dX12_strideOf_117 ?_
      refine P_iconst C dX12_strideOf_120 (v := (4 : Int32)) rfl ?_
      refine P_iload_n C dX12_strideOf_121 3 rfl ?_
      refine P_imul C dX12_strideOf_122 ?_
      refine P_aload_n C dX12_strideOf_123 1 rfl ?_
      refine P_getI C fa_X12_strideOf_13 kd_74 rfl (fxl fx_74) dX12_strideOf_124 ?_
      refine P_iconst C dX12_strideOf_127 (v := (4 : Int32)) rfl ?_
      refine P_irem C dX12_strideOf_128 (by decide +kernel) ?_
      refine P_iadd C dX12_strideOf_129 ?_
      obtain ⟨hv14, h⟩ := h
      refine P_iald C kd_109 (fxl fx_109) hv14 dX12_strideOf_130 ?_
      refine P_iadd C dX12_strideOf_131 ?_
      exact P_iret C dX12_strideOf_132 h
    · exact absurd (Array.getElem?_eq_some_iff.mp ho).1 (Nat.not_lt.mpr (by show 6 ≤ _; omega))
