noncomputable def K_X12_in (l : Launch) (V : Vx) (a1 : Int32) (a2 : Int32) (a3 : Int32) (σ : Sg) (Qk : Int32 → Sg → Prop) : Prop := Ka l V yX12_in wsX12_in (rmz 0) 0 0 [.ref 74, .int a1, .int a2, .int a3] σ (QI V Qk)
theorem e_X12_in {l : Launch} {V : Vx} {a1 : Int32} {a2 : Int32} {a3 : Int32} {σ : Sg} {Qk : Int32 → Sg → Prop} (h : ∀ M : Mx, mL M = l → mV M = V → mN M = 4 → Cx M cX12_in (some .boolean) RX12 wsX12_in (rmz 0) 0 0 (QI (mV M) Qk) → PS M 0 [(0, .ref 74), (1, .int a1), (2, .int a2), (3, .int a3)] [] σ (0, 0)) : K_X12_in l V a1 a2 a3 σ Qk :=
  Ka_of (by decide +kernel) rfl rfl (Nat.le_of_ble_eq_true rfl) (fun M h1 h2 h3 C => h M h1 h2 h3 (by rw [h2]; exact C))
set_option maxRecDepth 100000 in
set_option maxHeartbeats 4000000 in
theorem s_X12_in_0 {M : Mx} {Qk : Int32 → Sg → Prop} (C : Cx M cX12_in (some .boolean) RX12 wsX12_in (rmz 0) 0 0 (QI (mV M) Qk)) (hN : mN M = 4) {a1 : Int32} {a2 : Int32} {a3 : Int32} {σ : Sg} (h : ((a1 < a2 → Qk (0 : Int32) σ) ∧ (¬ a1 < a2 → ((a3 < a1 → Qk (0 : Int32) σ) ∧ (¬ a3 < a1 → Qk (1 : Int32) σ))))) : PS M 0 [(0, .ref 74), (1, .int a1), (2, .int a2), (3, .int a3)] [] σ (0, 0) := by
  refine P_iload_n C dX12_in_0 1 rfl ?_
  refine P_iload_n C dX12_in_1 2 rfl ?_
  refine P_icmp_lt C dX12_in_2 (tgt := 14) (by decide +kernel) (fun q1 => ?_) (fun q1 => ?_)
  · have h := h.1 q1
    refine P_iconst C dX12_in_14 (v := (0 : Int32)) rfl ?_
    exact P_zret C (by decide +kernel) dX12_in_15 h
  · have h := h.2 q1
    refine P_iload_n C dX12_in_5 1 rfl ?_
    refine P_iload_n C dX12_in_6 3 rfl ?_
    refine P_icmp_gt C dX12_in_7 (tgt := 14) (by decide +kernel) (fun q2 => ?_) (fun q2 => ?_)
    · have h := h.1 q2
      refine P_iconst C dX12_in_14 (v := (0 : Int32)) rfl ?_
      exact P_zret C (by decide +kernel) dX12_in_15 h
    · have h := h.2 q2
      refine P_iconst C dX12_in_10 (v := (1 : Int32)) rfl ?_
      refine P_goto C dX12_in_11 (tgt := 15) (by decide +kernel) ?_
      exact P_zret C (by decide +kernel) dX12_in_15 h
noncomputable def K_X12_has (l : Launch) (V : Vx) (a1 : Int32) (a2 : Int32) (σ : Sg) (Qk : Int32 → Sg → Prop) : Prop := Ka l V yX12_has wsX12_has (rmz 0) 0 0 [.ref 74, .int a1, .int a2] σ (QI V Qk)
theorem e_X12_has {l : Launch} {V : Vx} {a1 : Int32} {a2 : Int32} {σ : Sg} {Qk : Int32 → Sg → Prop} (h : ∀ M : Mx, mL M = l → mV M = V → mN M = 3 → Cx M cX12_has (some .boolean) RX12 wsX12_has (rmz 0) 0 0 (QI (mV M) Qk) → PS M 0 [(0, .ref 74), (1, .int a1), (2, .int a2)] [] σ (0, 0)) : K_X12_has l V a1 a2 σ Qk :=
  Ka_of (by decide +kernel) rfl rfl (Nat.le_of_ble_eq_true rfl) (fun M h1 h2 h3 C => h M h1 h2 h3 (by rw [h2]; exact C))
set_option maxRecDepth 100000 in
set_option maxHeartbeats 4000000 in
theorem s_X12_has_0 {M : Mx} {Qk : Int32 → Sg → Prop} (C : Cx M cX12_has (some .boolean) RX12 wsX12_has (rmz 0) 0 0 (QI (mV M) Qk)) (hN : mN M = 3) {a1 : Int32} {a2 : Int32} {σ : Sg} (h : ((¬ ((a1 >>> (a2 &&& 31)) &&& (1 : Int32)) = (1 : Int32) → Qk (0 : Int32) σ) ∧ (((a1 >>> (a2 &&& 31)) &&& (1 : Int32)) = (1 : Int32) → Qk (1 : Int32) σ))) : PS M 0 [(0, .ref 74), (1, .int a1), (2, .int a2)] [] σ (0, 0) := by
  refine P_iload_n C dX12_has_0 1 rfl ?_
  refine P_iload_n C dX12_has_1 2 rfl ?_
  refine P_ishr C dX12_has_2 ?_
  refine P_iconst C dX12_has_3 (v := (1 : Int32)) rfl ?_
  refine P_iand C dX12_has_4 ?_
  refine P_iconst C dX12_has_5 (v := (1 : Int32)) rfl ?_
  refine P_icmp_ne C dX12_has_6 (tgt := 13) (by decide +kernel) (fun q1 => ?_) (fun q1 => ?_)
  · have h := h.1 q1
    refine P_iconst C dX12_has_13 (v := (0 : Int32)) rfl ?_
    exact P_zret C (by decide +kernel) dX12_has_14 h
  · have h := h.2 q1
    refine P_iconst C dX12_has_9 (v := (1 : Int32)) rfl ?_
    refine P_goto C dX12_has_10 (tgt := 14) (by decide +kernel) ?_
    exact P_zret C (by decide +kernel) dX12_has_14 h
noncomputable def K_X12_least (l : Launch) (V : Vx) (a1 : Int32) (a2 : Int32) (σ : Sg) (Qk : Int32 → Sg → Prop) : Prop := Ka l V yX12_least wsX12_least (rmz 0) 0 0 [.ref 74, .int a1, .int a2] σ (QI V Qk)
theorem e_X12_least {l : Launch} {V : Vx} {a1 : Int32} {a2 : Int32} {σ : Sg} {Qk : Int32 → Sg → Prop} (h : ∀ M : Mx, mL M = l → mV M = V → mN M = 3 → Cx M cX12_least (some .int) RX12 wsX12_least (rmz 0) 0 0 (QI (mV M) Qk) → PS M 0 [(0, .ref 74), (1, .int a1), (2, .int a2)] [] σ (0, 0)) : K_X12_least l V a1 a2 σ Qk :=
  Ka_of (by decide +kernel) rfl rfl (Nat.le_of_ble_eq_true rfl) (fun M h1 h2 h3 C => h M h1 h2 h3 (by rw [h2]; exact C))
set_option maxRecDepth 100000 in
set_option maxHeartbeats 4000000 in
theorem s_X12_least_0 {M : Mx} {Qk : Int32 → Sg → Prop} (C : Cx M cX12_least (some .int) RX12 wsX12_least (rmz 0) 0 0 (QI (mV M) Qk)) (hN : mN M = 3) {a1 : Int32} {a2 : Int32} {σ : Sg} (h : ((a2 ≤ a1 → Qk a2 σ) ∧ (¬ a2 ≤ a1 → Qk a1 σ))) : PS M 0 [(0, .ref 74), (1, .int a1), (2, .int a2)] [] σ (0, 0) := by
  refine P_iload_n C dX12_least_0 1 rfl ?_
  refine P_iload_n C dX12_least_1 2 rfl ?_
  refine P_icmp_ge C dX12_least_2 (tgt := 9) (by decide +kernel) (fun q1 => ?_) (fun q1 => ?_)
  · have h := h.1 q1
    refine P_iload_n C dX12_least_9 2 rfl ?_
    exact P_iret C dX12_least_10 h
  · have h := h.2 q1
    refine P_iload_n C dX12_least_5 1 rfl ?_
    refine P_goto C dX12_least_6 (tgt := 10) (by decide +kernel) ?_
    exact P_iret C dX12_least_10 h
noncomputable def K_X12_most (l : Launch) (V : Vx) (a1 : Int32) (a2 : Int32) (σ : Sg) (Qk : Int32 → Sg → Prop) : Prop := Ka l V yX12_most wsX12_most (rmz 0) 0 0 [.ref 74, .int a1, .int a2] σ (QI V Qk)
theorem e_X12_most {l : Launch} {V : Vx} {a1 : Int32} {a2 : Int32} {σ : Sg} {Qk : Int32 → Sg → Prop} (h : ∀ M : Mx, mL M = l → mV M = V → mN M = 3 → Cx M cX12_most (some .int) RX12 wsX12_most (rmz 0) 0 0 (QI (mV M) Qk) → PS M 0 [(0, .ref 74), (1, .int a1), (2, .int a2)] [] σ (0, 0)) : K_X12_most l V a1 a2 σ Qk :=
  Ka_of (by decide +kernel) rfl rfl (Nat.le_of_ble_eq_true rfl) (fun M h1 h2 h3 C => h M h1 h2 h3 (by rw [h2]; exact C))
set_option maxRecDepth 100000 in
set_option maxHeartbeats 4000000 in
theorem s_X12_most_0 {M : Mx} {Qk : Int32 → Sg → Prop} (C : Cx M cX12_most (some .int) RX12 wsX12_most (rmz 0) 0 0 (QI (mV M) Qk)) (hN : mN M = 3) {a1 : Int32} {a2 : Int32} {σ : Sg} (h : ((a1 ≤ a2 → Qk a2 σ) ∧ (¬ a1 ≤ a2 → Qk a1 σ))) : PS M 0 [(0, .ref 74), (1, .int a1), (2, .int a2)] [] σ (0, 0) := by
  refine P_iload_n C dX12_most_0 1 rfl ?_
  refine P_iload_n C dX12_most_1 2 rfl ?_
  refine P_icmp_le C dX12_most_2 (tgt := 9) (by decide +kernel) (fun q1 => ?_) (fun q1 => ?_)
  · have h := h.1 q1
    refine P_iload_n C dX12_most_9 2 rfl ?_
    exact P_iret C dX12_most_10 h
  · have h := h.2 q1
    refine P_iload_n C dX12_most_5 1 rfl ?_
    refine P_goto C dX12_most_6 (tgt := 10) (by decide +kernel) ?_
    exact P_iret C dX12_most_10 h
theorem fa_X12_placeOf_41 : FA RX12 wsX12_placeOf 41 12 10 "NineMowersModel" := by
  show _ ∧ _ ∧ _ ∧ _
  exact ⟨by decide +kernel, fun _ h => List.mem_cons_of_mem _ (List.mem_append_right _ h), List.mem_of_getElem? (i := 1) rfl, Or.inl rfl⟩
noncomputable def K_X12_placeOf (l : Launch) (V : Vx) (a1 : Int32) (σ : Sg) (Qk : Int32 → Sg → Prop) : Prop := Ka l V yX12_placeOf wsX12_placeOf (rmz 0) 0 0 [.ref 74, .int a1] σ (QI V Qk)
theorem e_X12_placeOf {l : Launch} {V : Vx} {a1 : Int32} {σ : Sg} {Qk : Int32 → Sg → Prop} (h : ∀ M : Mx, mL M = l → mV M = V → mN M = 3 → Cx M cX12_placeOf (some .int) RX12 wsX12_placeOf (rmz 0) 0 0 (QI (mV M) Qk) → PS M 0 [(0, .ref 74), (1, .int a1)] [] σ (0, 0)) : K_X12_placeOf l V a1 σ Qk :=
  Ka_of (by decide +kernel) rfl rfl (Nat.le_of_ble_eq_true rfl) (fun M h1 h2 h3 C => h M h1 h2 h3 (by rw [h2]; exact C))
set_option maxRecDepth 100000 in
set_option maxHeartbeats 4000000 in
theorem s_X12_placeOf_0 {M : Mx} {Qk : Int32 → Sg → Prop} (C : Cx M cX12_placeOf (some .int) RX12 wsX12_placeOf (rmz 0) 0 0 (QI (mV M) Qk)) (hN : mN M = 3) {a1 : Int32} {σ : Sg} (h : PS M 2 [(0, .ref 74), (1, .int a1), (2, .int (0 : Int32))] [] σ (0, 0)) : PS M 0 [(0, .ref 74), (1, .int a1)] [] σ (0, 0) := by
  refine P_iconst C dX12_placeOf_0 (v := (0 : Int32)) rfl ?_
  refine P_istore_n C dX12_placeOf_1 (by rw [hN]; decide) rfl ?_
  exact P_sub [1, 2, 0] rfl h
set_option maxRecDepth 100000 in
set_option maxHeartbeats 4000000 in
theorem s_X12_placeOf_2 {M : Mx} {Qk : Int32 → Sg → Prop} (C : Cx M cX12_placeOf (some .int) RX12 wsX12_placeOf (rmz 0) 0 0 (QI (mV M) Qk)) (hN : mN M = 3) {x1 : Int32} {x2 : Int32} {σ : Sg} (h : (vp_in x2 6 ∧ (((gi σ 110 x2.toNatClampNeg) = x1 → Qk x2 σ) ∧ (¬ (gi σ 110 x2.toNatClampNeg) = x1 → (∀ v3 : Int32, v3 = x2 + 1 → PS M 2 [(0, .ref 74), (1, .int x1), (2, .int v3)] [] σ (0, 0)))))) : PS M 2 [(0, .ref 74), (1, .int x1), (2, .int x2)] [] σ (0, 0) := by
  refine P_aload_n C dX12_placeOf_2 0 rfl ?_
  refine P_getS C (e := 110) fa_X12_placeOf_41 kd_74 (d := 36) rfl (fxl fx_74) rfl dX12_placeOf_3 ?_
  refine P_iload_n C dX12_placeOf_6 2 rfl ?_
  obtain ⟨hv1, h⟩ := h
  refine P_iald C kd_110 (fxl fx_110) hv1 dX12_placeOf_7 ?_
  refine P_iload_n C dX12_placeOf_8 1 rfl ?_
  refine P_icmp_eq C dX12_placeOf_9 (tgt := 18) (by decide +kernel) (fun q2 => ?_) (fun q2 => ?_)
  · have h := h.1 q2
    refine P_iload_n C dX12_placeOf_18 2 rfl ?_
    exact P_iret C dX12_placeOf_19 h
  · have h := h.2 q2
    obtain ⟨v3, ev3⟩ : ∃ v : Int32, v = x2 + 1 := ⟨_, rfl⟩
    have h := h v3 ev3
    refine P_iinc (v := v3) C dX12_placeOf_12 2 rfl (by rw [ev3]; rfl) (by rw [hN]; decide) rfl ?_
    refine P_goto C dX12_placeOf_15 (tgt := 2) (by decide +kernel) ?_
    exact P_sub [1, 2, 0] rfl h
theorem fa_X12_next_53 : FA RX12 wsX12_next 53 12 14 "NineMowersModel" := by
  show _ ∧ _ ∧ _ ∧ _
  exact ⟨by decide +kernel, fun _ h => List.mem_cons_of_mem _ (List.mem_append_right _ h), List.mem_of_getElem? (i := 1) rfl, Or.inl rfl⟩
theorem fa_X12_next_50 : FA RX12 wsX12_next 50 12 13 "NineMowersModel" := by
  show _ ∧ _ ∧ _ ∧ _
  exact ⟨by decide +kernel, fun _ h => List.mem_cons_of_mem _ (List.mem_append_right _ h), List.mem_of_getElem? (i := 2) rfl, Or.inl rfl⟩
theorem fa_X12_next_59 : FA RX12 wsX12_next 59 12 16 "NineMowersModel" := by
  show _ ∧ _ ∧ _ ∧ _
  exact ⟨by decide +kernel, fun _ h => List.mem_cons_of_mem _ (List.mem_append_right _ h), List.mem_of_getElem? (i := 3) rfl, Or.inl rfl⟩
noncomputable def K_X12_next (l : Launch) (V : Vx) (σ : Sg) (Qk : Int32 → Sg → Prop) : Prop := Ka l V yX12_next wsX12_next (rmz 0) 0 0 [.ref 74] σ (QI V Qk)
theorem e_X12_next {l : Launch} {V : Vx} {σ : Sg} {Qk : Int32 → Sg → Prop} (h : ∀ M : Mx, mL M = l → mV M = V → mN M = 1 → Cx M cX12_next (some .int) RX12 wsX12_next (rmz 0) 0 0 (QI (mV M) Qk) → PS M 0 [(0, .ref 74)] [] σ (0, 0)) : K_X12_next l V σ Qk :=
  Ka_of (by decide +kernel) rfl rfl (Nat.le_of_ble_eq_true rfl) (fun M h1 h2 h3 C => h M h1 h2 h3 (by rw [h2]; exact C))
set_option maxRecDepth 100000 in
set_option maxHeartbeats 4000000 in
theorem s_X12_next_0 {M : Mx} {Qk : Int32 → Sg → Prop} (C : Cx M cX12_next (some .int) RX12 wsX12_next (rmz 0) 0 0 (QI (mV M) Qk)) (hN : mN M = 1) {σ : Sg} (h : (((gi σ 74 13) ≤ (gi σ 74 14) → Qk (-1 : Int32) σ) ∧ (¬ (gi σ 74 13) ≤ (gi σ 74 14) → (vp_in (gi σ 74 14) 100 ∧ Qk (gi σ 116 (gi σ 74 14).toNatClampNeg) σ)))) : PS M 0 [(0, .ref 74)] [] σ (0, 0) := by
  refine P_aload_n C dX12_next_0 0 rfl ?_
  refine P_getI C fa_X12_next_53 kd_74 rfl (fxl fx_74) dX12_next_1 ?_
  refine P_aload_n C dX12_next_4 0 rfl ?_
  refine P_getI C fa_X12_next_50 kd_74 rfl (fxl fx_74) dX12_next_5 ?_
  refine P_icmp_ge C dX12_next_8 (tgt := 23) (by decide +kernel) (fun q1 => ?_) (fun q1 => ?_)
  · have h := h.1 q1
    refine P_iconst C dX12_next_23 (v := (-1 : Int32)) rfl ?_
    exact P_iret C dX12_next_24 h
  · have h := h.2 q1
    refine P_aload_n C dX12_next_11 0 rfl ?_
    refine P_getS C (e := 116) fa_X12_next_59 kd_74 (d := 42) rfl (fxl fx_74) rfl dX12_next_12 ?_
    refine P_aload_n C dX12_next_15 0 rfl ?_
    refine P_getI C fa_X12_next_53 kd_74 rfl (fxl fx_74) dX12_next_16 ?_
    obtain ⟨hv2, h⟩ := h
    refine P_iald C kd_116 (fxl fx_116) hv2 dX12_next_19 ?_
    refine P_goto C dX12_next_20 (tgt := 24) (by decide +kernel) ?_
    exact P_iret C dX12_next_24 h
theorem fa_X12_emits_77 : FA RX12 wsX12_emits 77 12 22 "NineMowersModel" := by
  show _ ∧ _ ∧ _ ∧ _
  exact ⟨by decide +kernel, fun _ h => List.mem_cons_of_mem _ (List.mem_append_right _ h), List.mem_of_getElem? (i := 1) rfl, Or.inl rfl⟩
theorem fa_X12_emits_83 : FA RX12 wsX12_emits 83 12 24 "NineMowersModel" := by
  show _ ∧ _ ∧ _ ∧ _
  exact ⟨by decide +kernel, fun _ h => List.mem_cons_of_mem _ (List.mem_append_right _ h), List.mem_of_getElem? (i := 2) rfl, Or.inl rfl⟩
theorem pa_X12_emits_83 : PA RX12 wsX12_emits 83 12 24 "NineMowersModel" .int := by
  show _ ∧ _ ∧ _ ∧ _ ∧ _ ∧ _ ∧ _ ∧ _
  exact ⟨by decide +kernel, fun _ h => List.mem_cons_of_mem _ (List.mem_append_right _ h), List.mem_of_getElem? (i := 2) rfl, rfl, rfl, by decide +kernel, ⟨tyX12, tyX12_ok⟩, nmX12⟩
noncomputable def K_X12_emits (l : Launch) (V : Vx) (a1 : Int32) (σ : Sg) (Qk : Sg → Prop) : Prop := Ka l V yX12_emits wsX12_emits (rmz 0) 0 0 [.ref 74, .int a1] σ (QV V Qk)
theorem e_X12_emits {l : Launch} {V : Vx} {a1 : Int32} {σ : Sg} {Qk : Sg → Prop} (h : ∀ M : Mx, mL M = l → mV M = V → mN M = 2 → Cx M cX12_emits none RX12 wsX12_emits (rmz 0) 0 0 (QV (mV M) Qk) → PS M 0 [(0, .ref 74), (1, .int a1)] [] σ (0, 0)) : K_X12_emits l V a1 σ Qk :=
  Ka_of (by decide +kernel) rfl rfl (Nat.le_of_ble_eq_true rfl) (fun M h1 h2 h3 C => h M h1 h2 h3 (by rw [h2]; exact C))
set_option maxRecDepth 100000 in
set_option maxHeartbeats 4000000 in
theorem s_X12_emits_0 {M : Mx} {Qk : Sg → Prop} (C : Cx M cX12_emits none RX12 wsX12_emits (rmz 0) 0 0 (QV (mV M) Qk)) (hN : mN M = 2) {a1 : Int32} {σ : Sg} (h : (vp_in (gi σ 74 24) 600 ∧ (∀ σ2 : Sg, σ2 = si σ 122 (gi σ 74 24).toNatClampNeg a1 → (∀ σ3 : Sg, σ3 = si σ2 74 24 ((gi σ2 74 24) + (1 : Int32)) → Qk σ3)))) : PS M 0 [(0, .ref 74), (1, .int a1)] [] σ (0, 0) := by
  refine P_aload_n C dX12_emits_0 0 rfl ?_
  refine P_getS C (e := 122) fa_X12_emits_77 kd_74 (d := 48) rfl (fxl fx_74) rfl dX12_emits_1 ?_
  refine P_aload_n C dX12_emits_4 0 rfl ?_
  refine P_getI C fa_X12_emits_83 kd_74 rfl (fxl fx_74) dX12_emits_5 ?_
  refine P_iload_n C dX12_emits_8 1 rfl ?_
  obtain ⟨hv1, h⟩ := h
  refine P_iast C kd_122 (fxl fx_122) hv1 dX12_emits_9 ?_
  refine P_nm (fun σ2 eσ2 => ?_)
  have h := h σ2 eσ2
  refine P_aload_n C dX12_emits_10 0 rfl ?_
  refine P_dup C dX12_emits_11 rfl ?_
  refine P_getI C fa_X12_emits_83 kd_74 rfl (fxl fx_74) dX12_emits_12 ?_
  refine P_iconst C dX12_emits_15 (v := (1 : Int32)) rfl ?_
  refine P_iadd C dX12_emits_16 ?_
  refine P_putI C pa_X12_emits_83 kd_74 rfl (fxl fx_74) dX12_emits_17 ?_
  refine P_nm (fun σ3 eσ3 => ?_)
  have h := h σ3 eσ3
  exact P_vret C dX12_emits_20 h
noncomputable def K_X12_letterAt (l : Launch) (V : Vx) (a1 : Int32) (σ : Sg) (Qk : Int32 → Sg → Prop) : Prop := Ka l V yX12_letterAt wsX12_letterAt (rmz 0) 0 0 [.ref 74, .int a1] σ (QI V Qk)
theorem e_X12_letterAt {l : Launch} {V : Vx} {a1 : Int32} {σ : Sg} {Qk : Int32 → Sg → Prop} (h : ∀ M : Mx, mL M = l → mV M = V → mN M = 2 → Cx M cX12_letterAt (some .int) RX12 wsX12_letterAt (rmz 0) 0 0 (QI (mV M) Qk) → PS M 0 [(0, .ref 74), (1, .int a1)] [] σ (0, 0)) : K_X12_letterAt l V a1 σ Qk :=
  Ka_of (by decide +kernel) rfl rfl (Nat.le_of_ble_eq_true rfl) (fun M h1 h2 h3 C => h M h1 h2 h3 (by rw [h2]; exact C))
set_option maxRecDepth 100000 in
set_option maxHeartbeats 4000000 in
theorem s_X12_letterAt_0 {M : Mx} {Qk : Int32 → Sg → Prop} (C : Cx M cX12_letterAt (some .int) RX12 wsX12_letterAt (rmz 0) 0 0 (QI (mV M) Qk)) (hN : mN M = 2) {a1 : Int32} {σ : Sg} (h : ((a1.toInt < 100 ∨ 116 < a1.toInt → Qk (-1 : Int32) σ) ∧ (a1.toInt = 100 → Qk (5 : Int32) σ) ∧ (a1.toInt = 101 → Qk (3 : Int32) σ) ∧ (a1.toInt = 102 → Qk (-1 : Int32) σ) ∧ (a1.toInt = 103 → Qk (-1 : Int32) σ) ∧ (a1.toInt = 104 → Qk (-1 : Int32) σ) ∧ (a1.toInt = 105 → Qk (-1 : Int32) σ) ∧ (a1.toInt = 106 → Qk (-1 : Int32) σ) ∧ (a1.toInt = 107 → Qk (1 : Int32) σ) ∧ (a1.toInt = 108 → Qk (-1 : Int32) σ) ∧ (a1.toInt = 109 → Qk (0 : Int32) σ) ∧ (a1.toInt = 110 → Qk (-1 : Int32) σ) ∧ (a1.toInt = 111 → Qk (-1 : Int32) σ) ∧ (a1.toInt = 112 → Qk (2 : Int32) σ) ∧ (a1.toInt = 113 → Qk (-1 : Int32) σ) ∧ (a1.toInt = 114 → Qk (-1 : Int32) σ) ∧ (a1.toInt = 115 → Qk (-1 : Int32) σ) ∧ (a1.toInt = 116 → Qk (4 : Int32) σ))) : PS M 0 [(0, .ref 74), (1, .int a1)] [] σ (0, 0) := by
  refine P_iload_n C dX12_letterAt_0 1 rfl ?_
  refine P_tsw C dX12_letterAt_1 96 (by decide +kernel) (fun q1 => ?_) (by decide +kernel) (fun i off ho q1 => ?_)
  · have h := h.1 q1
    refine P_iconst C dX12_letterAt_96 (v := (-1 : Int32)) rfl ?_
    exact P_iret C dX12_letterAt_97 h
  · rcases i with _ | _ | _ | _ | _ | _ | _ | _ | _ | _ | _ | _ | _ | _ | _ | _ | _ | i
    · obtain rfl : (93 : Int) = off := Option.some.inj ho
      refine ⟨?_, by decide +kernel⟩
      show PS M 94 _ _ _ _
      have h := h.2.1 (by have q := q1; simp at q; omega)
      refine P_iconst C dX12_letterAt_94 (v := (5 : Int32)) rfl ?_
      exact P_iret C dX12_letterAt_95 h
    · obtain rfl : (89 : Int) = off := Option.some.inj ho
      refine ⟨?_, by decide +kernel⟩
      show PS M 90 _ _ _ _
      have h := h.2.2.1 (by have q := q1; simp at q; omega)
      refine P_iconst C dX12_letterAt_90 (v := (3 : Int32)) rfl ?_
      exact P_iret C dX12_letterAt_91 h
    · obtain rfl : (95 : Int) = off := Option.some.inj ho
      refine ⟨?_, by decide +kernel⟩
      show PS M 96 _ _ _ _
      have h := h.2.2.2.1 (by have q := q1; simp at q; omega)
      refine P_iconst C dX12_letterAt_96 (v := (-1 : Int32)) rfl ?_
      exact P_iret C dX12_letterAt_97 h
    · obtain rfl : (95 : Int) = off := Option.some.inj ho
      refine ⟨?_, by decide +kernel⟩
      show PS M 96 _ _ _ _
      have h := h.2.2.2.2.1 (by have q := q1; simp at q; omega)
      refine P_iconst C dX12_letterAt_96 (v := (-1 : Int32)) rfl ?_
      exact P_iret C dX12_letterAt_97 h
    · obtain rfl : (95 : Int) = off := Option.some.inj ho
      refine ⟨?_, by decide +kernel⟩
      show PS M 96 _ _ _ _
      have h := h.2.2.2.2.2.1 (by have q := q1; simp at q; omega)
      refine P_iconst C dX12_letterAt_96 (v := (-1 : Int32)) rfl ?_
      exact P_iret C dX12_letterAt_97 h
    · obtain rfl : (95 : Int) = off := Option.some.inj ho
      refine ⟨?_, by decide +kernel⟩
      show PS M 96 _ _ _ _
      have h := h.2.2.2.2.2.2.1 (by have q := q1; simp at q; omega)
      refine P_iconst C dX12_letterAt_96 (v := (-1 : Int32)) rfl ?_
      exact P_iret C dX12_letterAt_97 h
    · obtain rfl : (95 : Int) = off := Option.some.inj ho
      refine ⟨?_, by decide +kernel⟩
      show PS M 96 _ _ _ _
      have h := h.2.2.2.2.2.2.2.1 (by have q := q1; simp at q; omega)
      refine P_iconst C dX12_letterAt_96 (v := (-1 : Int32)) rfl ?_
      exact P_iret C dX12_letterAt_97 h
    · obtain rfl : (85 : Int) = off := Option.some.inj ho
      refine ⟨?_, by decide +kernel⟩
      show PS M 86 _ _ _ _
      have h := h.2.2.2.2.2.2.2.2.1 (by have q := q1; simp at q; omega)
      refine P_iconst C dX12_letterAt_86 (v := (1 : Int32)) rfl ?_
      exact P_iret C dX12_letterAt_87 h
    · obtain rfl : (95 : Int) = off := Option.some.inj ho
      refine ⟨?_, by decide +kernel⟩
      show PS M 96 _ _ _ _
      have h := h.2.2.2.2.2.2.2.2.2.1 (by have q := q1; simp at q; omega)
      refine P_iconst C dX12_letterAt_96 (v := (-1 : Int32)) rfl ?_
      exact P_iret C dX12_letterAt_97 h
    · obtain rfl : (83 : Int) = off := Option.some.inj ho
      refine ⟨?_, by decide +kernel⟩
      show PS M 84 _ _ _ _
      have h := h.2.2.2.2.2.2.2.2.2.2.1 (by have q := q1; simp at q; omega)
      refine P_iconst C dX12_letterAt_84 (v := (0 : Int32)) rfl ?_
      exact P_iret C dX12_letterAt_85 h
    · obtain rfl : (95 : Int) = off := Option.some.inj ho
      refine ⟨?_, by decide +kernel⟩
      show PS M 96 _ _ _ _
      have h := h.2.2.2.2.2.2.2.2.2.2.2.1 (by have q := q1; simp at q; omega)
      refine P_iconst C dX12_letterAt_96 (v := (-1 : Int32)) rfl ?_
      exact P_iret C dX12_letterAt_97 h
    · obtain rfl : (95 : Int) = off := Option.some.inj ho
      refine ⟨?_, by decide +kernel⟩
      show PS M 96 _ _ _ _
      have h := h.2.2.2.2.2.2.2.2.2.2.2.2.1 (by have q := q1; simp at q; omega)
      refine P_iconst C dX12_letterAt_96 (v := (-1 : Int32)) rfl ?_
      exact P_iret C dX12_letterAt_97 h
    · obtain rfl : (87 : Int) = off := Option.some.inj ho
      refine ⟨?_, by decide +kernel⟩
      show PS M 88 _ _ _ _
      have h := h.2.2.2.2.2.2.2.2.2.2.2.2.2.1 (by have q := q1; simp at q; omega)
      refine P_iconst C dX12_letterAt_88 (v := (2 : Int32)) rfl ?_
      exact P_iret C dX12_letterAt_89 h
    · obtain rfl : (95 : Int) = off := Option.some.inj ho
      refine ⟨?_, by decide +kernel⟩
      show PS M 96 _ _ _ _
      have h := h.2.2.2.2.2.2.2.2.2.2.2.2.2.2.1 (by have q := q1; simp at q; omega)
      refine P_iconst C dX12_letterAt_96 (v := (-1 : Int32)) rfl ?_
      exact P_iret C dX12_letterAt_97 h
    · obtain rfl : (95 : Int) = off := Option.some.inj ho
      refine ⟨?_, by decide +kernel⟩
      show PS M 96 _ _ _ _
      have h := h.2.2.2.2.2.2.2.2.2.2.2.2.2.2.2.1 (by have q := q1; simp at q; omega)
      refine P_iconst C dX12_letterAt_96 (v := (-1 : Int32)) rfl ?_
      exact P_iret C dX12_letterAt_97 h
    · obtain rfl : (95 : Int) = off := Option.some.inj ho
      refine ⟨?_, by decide +kernel⟩
      show PS M 96 _ _ _ _
      have h := h.2.2.2.2.2.2.2.2.2.2.2.2.2.2.2.2.1 (by have q := q1; simp at q; omega)
      refine P_iconst C dX12_letterAt_96 (v := (-1 : Int32)) rfl ?_
      exact P_iret C dX12_letterAt_97 h
    · obtain rfl : (91 : Int) = off := Option.some.inj ho
      refine ⟨?_, by decide +kernel⟩
      show PS M 92 _ _ _ _
      have h := h.2.2.2.2.2.2.2.2.2.2.2.2.2.2.2.2.2 (by have q := q1; simp at q; omega)
      refine P_iconst C dX12_letterAt_92 (v := (4 : Int32)) rfl ?_
      exact P_iret C dX12_letterAt_93 h
    · exact absurd (Array.getElem?_eq_some_iff.mp ho).1 (Nat.not_lt.mpr (by show 17 ≤ _; omega))
theorem fa_X12_begin_47 : FA RX12 wsX12_begin 47 12 12 "NineMowersModel" := by
  show _ ∧ _ ∧ _ ∧ _
  exact ⟨by decide +kernel, fun _ h => List.mem_cons_of_mem _ (List.mem_append_right _ h), List.mem_of_getElem? (i := 1) rfl, Or.inl rfl⟩
noncomputable def K_X12_begin (l : Launch) (V : Vx) (σ : Sg) (Qk : Int32 → Sg → Prop) : Prop := Ka l V yX12_begin wsX12_begin (rmz 0) 0 0 [.ref 74] σ (QI V Qk)
theorem e_X12_begin {l : Launch} {V : Vx} {σ : Sg} {Qk : Int32 → Sg → Prop} (h : ∀ M : Mx, mL M = l → mV M = V → mN M = 1 → Cx M cX12_begin (some .int) RX12 wsX12_begin (rmz 0) 0 0 (QI (mV M) Qk) → PS M 0 [(0, .ref 74)] [] σ (0, 0)) : K_X12_begin l V σ Qk :=
  Ka_of (by decide +kernel) rfl rfl (Nat.le_of_ble_eq_true rfl) (fun M h1 h2 h3 C => h M h1 h2 h3 (by rw [h2]; exact C))
set_option maxRecDepth 100000 in
set_option maxHeartbeats 4000000 in
theorem s_X12_begin_0 {M : Mx} {Qk : Int32 → Sg → Prop} (C : Cx M cX12_begin (some .int) RX12 wsX12_begin (rmz 0) 0 0 (QI (mV M) Qk)) (hN : mN M = 1) {σ : Sg} (h : ((0 ≤ (gi σ 74 12) → Qk ((10 : Int32) * (gi σ 74 12)) σ) ∧ (¬ 0 ≤ (gi σ 74 12) → Qk (0 : Int32) σ))) : PS M 0 [(0, .ref 74)] [] σ (0, 0) := by
  refine P_aload_n C dX12_begin_0 0 rfl ?_
  refine P_getI C fa_X12_begin_47 kd_74 rfl (fxl fx_74) dX12_begin_1 ?_
  refine P_if_ge C dX12_begin_4 (tgt := 11) (by decide +kernel) (fun q1 => ?_) (fun q1 => ?_)
  · have h := h.1 q1
    refine P_bipush C dX12_begin_11 (v := (10 : Int32)) rfl ?_
    refine P_aload_n C dX12_begin_13 0 rfl ?_
    refine P_getI C fa_X12_begin_47 kd_74 rfl (fxl fx_74) dX12_begin_14 ?_
    refine P_imul C dX12_begin_17 ?_
    exact P_iret C dX12_begin_18 h
  · have h := h.2 q1
    refine P_iconst C dX12_begin_7 (v := (0 : Int32)) rfl ?_
    refine P_goto C dX12_begin_8 (tgt := 18) (by decide +kernel) ?_
    exact P_iret C dX12_begin_18 h
theorem fa_X12_behind_47 : FA RX12 wsX12_behind 47 12 12 "NineMowersModel" := by
  show _ ∧ _ ∧ _ ∧ _
  exact ⟨by decide +kernel, fun _ h => List.mem_cons_of_mem _ (List.mem_append_right _ h), List.mem_of_getElem? (i := 1) rfl, Or.inl rfl⟩
theorem fa_X12_behind_62 : FA RX12 wsX12_behind 62 12 17 "NineMowersModel" := by
  show _ ∧ _ ∧ _ ∧ _
  exact ⟨by decide +kernel, fun _ h => List.mem_cons_of_mem _ (List.mem_append_right _ h), List.mem_of_getElem? (i := 2) rfl, Or.inl rfl⟩
noncomputable def K_X12_behind (l : Launch) (V : Vx) (σ : Sg) (Qk : Int32 → Sg → Prop) : Prop := Ka l V yX12_behind wsX12_behind (rmz 0) 0 0 [.ref 74] σ (QI V Qk)
theorem e_X12_behind {l : Launch} {V : Vx} {σ : Sg} {Qk : Int32 → Sg → Prop} (h : ∀ M : Mx, mL M = l → mV M = V → mN M = 1 → Cx M cX12_behind (some .int) RX12 wsX12_behind (rmz 0) 0 0 (QI (mV M) Qk) → PS M 0 [(0, .ref 74)] [] σ (0, 0)) : K_X12_behind l V σ Qk :=
  Ka_of (by decide +kernel) rfl rfl (Nat.le_of_ble_eq_true rfl) (fun M h1 h2 h3 C => h M h1 h2 h3 (by rw [h2]; exact C))
set_option maxRecDepth 100000 in
set_option maxHeartbeats 4000000 in
theorem s_X12_behind_0 {M : Mx} {Qk : Int32 → Sg → Prop} (C : Cx M cX12_behind (some .int) RX12 wsX12_behind (rmz 0) 0 0 (QI (mV M) Qk)) (hN : mN M = 1) {σ : Sg} (h : ((0 ≤ (gi σ 74 12) → (vp_in (gi σ 74 12) 6 ∧ Qk (((10 : Int32) * (gi σ 74 12)) + (gi σ 117 (gi σ 74 12).toNatClampNeg)) σ)) ∧ (¬ 0 ≤ (gi σ 74 12) → Qk (0 : Int32) σ))) : PS M 0 [(0, .ref 74)] [] σ (0, 0) := by
  refine P_aload_n C dX12_behind_0 0 rfl ?_
  refine P_getI C fa_X12_behind_47 kd_74 rfl (fxl fx_74) dX12_behind_1 ?_
  refine P_if_ge C dX12_behind_4 (tgt := 11) (by decide +kernel) (fun q1 => ?_) (fun q1 => ?_)
  · have h := h.1 q1
    refine P_bipush C dX12_behind_11 (v := (10 : Int32)) rfl ?_
    refine P_aload_n C dX12_behind_13 0 rfl ?_
    refine P_getI C fa_X12_behind_47 kd_74 rfl (fxl fx_74) dX12_behind_14 ?_
    refine P_imul C dX12_behind_17 ?_
    refine P_aload_n C dX12_behind_18 0 rfl ?_
    refine P_getS C (e := 117) fa_X12_behind_62 kd_74 (d := 43) rfl (fxl fx_74) rfl dX12_behind_19 ?_
    refine P_aload_n C dX12_behind_22 0 rfl ?_
    refine P_getI C fa_X12_behind_47 kd_74 rfl (fxl fx_74) dX12_behind_23 ?_
    obtain ⟨hv2, h⟩ := h
    refine P_iald C kd_117 (fxl fx_117) hv2 dX12_behind_26 ?_
    refine P_iadd C dX12_behind_27 ?_
    exact P_iret C dX12_behind_28 h
  · have h := h.2 q1
    refine P_iconst C dX12_behind_7 (v := (0 : Int32)) rfl ?_
    refine P_goto C dX12_behind_8 (tgt := 28) (by decide +kernel) ?_
    exact P_iret C dX12_behind_28 h
theorem fa_X12_factOf_13 : FA RX12 wsX12_factOf 13 12 1 "NineMowersModel" := by
  show _ ∧ _ ∧ _ ∧ _
  exact ⟨by decide +kernel, fun _ h => List.mem_cons_of_mem _ (List.mem_append_right _ h), List.mem_of_getElem? (i := 5) rfl, Or.inl rfl⟩
theorem fa_X12_factOf_19 : FA RX12 wsX12_factOf 19 12 3 "NineMowersModel" := by
  show _ ∧ _ ∧ _ ∧ _
  exact ⟨by decide +kernel, fun _ h => List.mem_cons_of_mem _ (List.mem_append_right _ h), List.mem_of_getElem? (i := 1) rfl, Or.inl rfl⟩
theorem fa_X12_factOf_102 : FA RX12 wsX12_factOf 102 12 30 "NineMowersModel" := by
  show _ ∧ _ ∧ _ ∧ _
  exact ⟨by decide +kernel, fun _ h => List.mem_cons_of_mem _ (List.mem_append_right _ h), List.mem_of_getElem? (i := 2) rfl, Or.inl rfl⟩
theorem fa_X12_factOf_29 : FA RX12 wsX12_factOf 29 12 6 "NineMowersModel" := by
  show _ ∧ _ ∧ _ ∧ _
  exact ⟨by decide +kernel, fun _ h => List.mem_cons_of_mem _ (List.mem_append_right _ h), List.mem_of_getElem? (i := 3) rfl, Or.inl rfl⟩
theorem fa_X12_factOf_32 : FA RX12 wsX12_factOf 32 12 7 "NineMowersModel" := by
  show _ ∧ _ ∧ _ ∧ _
  exact ⟨by decide +kernel, fun _ h => List.mem_cons_of_mem _ (List.mem_append_right _ h), List.mem_of_getElem? (i := 4) rfl, Or.inl rfl⟩
noncomputable def K_X12_factOf (l : Launch) (V : Vx) (a1 : Int32) (a2 : Int32) (σ : Sg) (Qk : Int32 → Sg → Prop) : Prop := Ka l V yX12_factOf wsX12_factOf (rmz 0) 0 0 [.ref 74, .int a1, .int a2] σ (QI V Qk)
theorem e_X12_factOf {l : Launch} {V : Vx} {a1 : Int32} {a2 : Int32} {σ : Sg} {Qk : Int32 → Sg → Prop} (h : ∀ M : Mx, mL M = l → mV M = V → mN M = 3 → Cx M cX12_factOf (some .int) RX12 wsX12_factOf (rmz 0) 0 0 (QI (mV M) Qk) → PS M 0 [(0, .ref 74), (1, .int a1), (2, .int a2)] [] σ (0, 0)) : K_X12_factOf l V a1 a2 σ Qk :=
  Ka_of (by decide +kernel) rfl rfl (Nat.le_of_ble_eq_true rfl) (fun M h1 h2 h3 C => h M h1 h2 h3 (by rw [h2]; exact C))
set_option maxRecDepth 100000 in
set_option maxHeartbeats 4000000 in
theorem s_X12_factOf_0 {M : Mx} {Qk : Int32 → Sg → Prop} (C : Cx M cX12_factOf (some .int) RX12 wsX12_factOf (rmz 0) 0 0 (QI (mV M) Qk)) (hN : mN M = 3) {a1 : Int32} {a2 : Int32} {σ : Sg} (h : ((a1.toInt < 0 ∨ 4 < a1.toInt → Qk ((gi σ 74 1) - (gi σ 74 1) / (10 : Int32) * (10 : Int32)) σ) ∧ (a1.toInt = 0 → Qk a2 σ) ∧ (a1.toInt = 1 → (vp_in a2 6 ∧ Qk (gi σ 103 a2.toNatClampNeg) σ)) ∧ (a1.toInt = 2 → Qk (gi σ 74 30) σ) ∧ (a1.toInt = 3 → (vp_in a2 6 ∧ Qk (gi σ 106 a2.toNatClampNeg) σ)) ∧ (a1.toInt = 4 → (vp_in a2 6 ∧ Qk ((gi σ 107 a2.toNatClampNeg) / (10 : Int32)) σ)))) : PS M 0 [(0, .ref 74), (1, .int a1), (2, .int a2)] [] σ (0, 0) := by
  refine P_iload_n C dX12_factOf_0 1 rfl ?_
  refine P_tsw C dX12_factOf_1 67 (by decide +kernel) (fun q1 => ?_) (by decide +kernel) (fun i off ho q1 => ?_)
  · have h := h.1 q1
    refine P_aload_n C dX12_factOf_67 0 rfl ?_
    refine P_getI C fa_X12_factOf_13 kd_74 rfl (fxl fx_74) dX12_factOf_68 ?_
    refine P_bipush C dX12_factOf_71 (v := (10 : Int32)) rfl ?_
    refine P_irem C dX12_factOf_73 (by decide +kernel) ?_
    exact P_iret C dX12_factOf_74 h
  · rcases i with _ | _ | _ | _ | _ | i
    · obtain rfl : (35 : Int) = off := Option.some.inj ho
      refine ⟨?_, by decide +kernel⟩
      show PS M 36 _ _ _ _
      have h := h.2.1 (by have q := q1; simp at q; omega)
      refine P_iload_n C dX12_factOf_36 2 rfl ?_
      exact P_iret C dX12_factOf_37 h
    · obtain rfl : (37 : Int) = off := Option.some.inj ho
      refine ⟨?_, by decide +kernel⟩
      show PS M 38 _ _ _ _
      have h := h.2.2.1 (by have q := q1; simp at q; omega)
      refine P_aload_n C dX12_factOf_38 0 rfl ?_
      refine P_getS C (e := 103) fa_X12_factOf_19 kd_74 (d := 29) rfl (fxl fx_74) rfl dX12_factOf_39 ?_
      refine P_iload_n C dX12_factOf_42 2 rfl ?_
      obtain ⟨hv2, h⟩ := h
      refine P_iald C kd_103 (fxl fx_103) hv2 dX12_factOf_43 ?_
      exact P_iret C dX12_factOf_44 h
    · obtain rfl : (44 : Int) = off := Option.some.inj ho
      refine ⟨?_, by decide +kernel⟩
      show PS M 45 _ _ _ _
      have h := h.2.2.2.1 (by have q := q1; simp at q; omega)
      refine P_aload_n C dX12_factOf_45 0 rfl ?_
      refine P_getI C fa_X12_factOf_102 kd_74 rfl (fxl fx_74) dX12_factOf_46 ?_
      exact P_iret C dX12_factOf_49 h
    · obtain rfl : (49 : Int) = off := Option.some.inj ho
      refine ⟨?_, by decide +kernel⟩
      show PS M 50 _ _ _ _
      have h := h.2.2.2.2.1 (by have q := q1; simp at q; omega)
      refine P_aload_n C dX12_factOf_50 0 rfl ?_
      refine P_getS C (e := 106) fa_X12_factOf_29 kd_74 (d := 32) rfl (fxl fx_74) rfl dX12_factOf_51 ?_
      refine P_iload_n C dX12_factOf_54 2 rfl ?_
      obtain ⟨hv3, h⟩ := h
      refine P_iald C kd_106 (fxl fx_106) hv3 dX12_factOf_55 ?_
      exact P_iret C dX12_factOf_56 h
    · obtain rfl : (56 : Int) = off := Option.some.inj ho
      refine ⟨?_, by decide +kernel⟩
      show PS M 57 _ _ _ _
      have h := h.2.2.2.2.2 (by have q := q1; simp at q; omega)
      refine P_aload_n C dX12_factOf_57 0 rfl ?_
      refine P_getS C (e := 107) fa_X12_factOf_32 kd_74 (d := 33) rfl (fxl fx_74) rfl dX12_factOf_58 ?_
      refine P_iload_n C dX12_factOf_61 2 rfl ?_
      obtain ⟨hv4, h⟩ := h
      refine P_iald C kd_107 (fxl fx_107) hv4 dX12_factOf_62 ?_
      refine P_bipush C dX12_factOf_63 (v := (10 : Int32)) rfl ?_
      refine P_idiv C dX12_factOf_65 (by decide +kernel) ?_
      exact P_iret C dX12_factOf_66 h
    · exact absurd (Array.getElem?_eq_some_iff.mp ho).1 (Nat.not_lt.mpr (by show 5 ≤ _; omega))
theorem fa_X12_hasty_29 : FA RX12 wsX12_hasty 29 12 6 "NineMowersModel" := by
  show _ ∧ _ ∧ _ ∧ _
  exact ⟨by decide +kernel, fun _ h => List.mem_cons_of_mem _ (List.mem_append_right _ h), List.mem_of_getElem? (i := 1) rfl, Or.inl rfl⟩
theorem fa_X12_hasty_23 : FA RX12 wsX12_hasty 23 12 4 "NineMowersModel" := by
  show _ ∧ _ ∧ _ ∧ _
  exact ⟨by decide +kernel, fun _ h => List.mem_cons_of_mem _ (List.mem_append_right _ h), List.mem_of_getElem? (i := 2) rfl, Or.inl rfl⟩
noncomputable def K_X12_hasty (l : Launch) (V : Vx) (a1 : Int32) (a2 : Int32) (σ : Sg) (Qk : Int32 → Sg → Prop) : Prop := Ka l V yX12_hasty wsX12_hasty (rmz 0) 0 0 [.ref 74, .int a1, .int a2] σ (QI V Qk)
theorem e_X12_hasty {l : Launch} {V : Vx} {a1 : Int32} {a2 : Int32} {σ : Sg} {Qk : Int32 → Sg → Prop} (h : ∀ M : Mx, mL M = l → mV M = V → mN M = 3 → Cx M cX12_hasty (some .int) RX12 wsX12_hasty (rmz 0) 0 0 (QI (mV M) Qk) → PS M 0 [(0, .ref 74), (1, .int a1), (2, .int a2)] [] σ (0, 0)) : K_X12_hasty l V a1 a2 σ Qk :=
  Ka_of (by decide +kernel) rfl rfl (Nat.le_of_ble_eq_true rfl) (fun M h1 h2 h3 C => h M h1 h2 h3 (by rw [h2]; exact C))
set_option maxRecDepth 100000 in
set_option maxHeartbeats 4000000 in
theorem s_X12_hasty_0 {M : Mx} {Qk : Int32 → Sg → Prop} (C : Cx M cX12_hasty (some .int) RX12 wsX12_hasty (rmz 0) 0 0 (QI (mV M) Qk)) (hN : mN M = 3) {a1 : Int32} {a2 : Int32} {σ : Sg} (h : (vp_in a1 6 ∧ (((gi σ 106 a1.toNatClampNeg) ≤ (5 : Int32) → Qk a2 σ) ∧ (¬ (gi σ 106 a1.toNatClampNeg) ≤ (5 : Int32) → (vp_in a1 6 ∧ Qk (a2 + (gi σ 104 a1.toNatClampNeg)) σ))))) : PS M 0 [(0, .ref 74), (1, .int a1), (2, .int a2)] [] σ (0, 0) := by
  refine P_aload_n C dX12_hasty_0 0 rfl ?_
  refine P_getS C (e := 106) fa_X12_hasty_29 kd_74 (d := 32) rfl (fxl fx_74) rfl dX12_hasty_1 ?_
  refine P_iload_n C dX12_hasty_4 1 rfl ?_
  obtain ⟨hv1, h⟩ := h
  refine P_iald C kd_106 (fxl fx_106) hv1 dX12_hasty_5 ?_
  refine P_iconst C dX12_hasty_6 (v := (5 : Int32)) rfl ?_
  refine P_icmp_le C dX12_hasty_7 (tgt := 21) (by decide +kernel) (fun q2 => ?_) (fun q2 => ?_)
  · have h := h.1 q2
    refine P_iload_n C dX12_hasty_21 2 rfl ?_
    exact P_iret C dX12_hasty_22 h
  · have h := h.2 q2
    refine P_iload_n C dX12_hasty_10 2 rfl ?_
    refine P_aload_n C dX12_hasty_11 0 rfl ?_
    refine P_getS C (e := 104) fa_X12_hasty_23 kd_74 (d := 30) rfl (fxl fx_74) rfl dX12_hasty_12 ?_
    refine P_iload_n C dX12_hasty_15 1 rfl ?_
    obtain ⟨hv3, h⟩ := h
    refine P_iald C kd_104 (fxl fx_104) hv3 dX12_hasty_16 ?_
    refine P_iadd C dX12_hasty_17 ?_
    refine P_goto C dX12_hasty_18 (tgt := 22) (by decide +kernel) ?_
    exact P_iret C dX12_hasty_22 h
theorem fa_X12_save_13 : FA RX12 wsX12_save 13 12 1 "NineMowersModel" := by
  show _ ∧ _ ∧ _ ∧ _
  exact ⟨by decide +kernel, fun _ h => List.mem_cons_of_mem _ (List.mem_append_right _ h), List.mem_of_getElem? (i := 1) rfl, Or.inl rfl⟩
theorem pa_X12_save_111 : PA RX12 wsX12_save 111 12 33 "NineMowersModel" .int := by
  show _ ∧ _ ∧ _ ∧ _ ∧ _ ∧ _ ∧ _ ∧ _
  exact ⟨by decide +kernel, fun _ h => List.mem_cons_of_mem _ (List.mem_append_right _ h), List.mem_of_getElem? (i := 2) rfl, rfl, rfl, by decide +kernel, ⟨tyX12, tyX12_ok⟩, nmX12⟩
theorem fa_X12_save_114 : FA RX12 wsX12_save 114 12 34 "NineMowersModel" := by
  show _ ∧ _ ∧ _ ∧ _
  exact ⟨by decide +kernel, fun _ h => List.mem_cons_of_mem _ (List.mem_append_right _ h), List.mem_of_getElem? (i := 3) rfl, Or.inl rfl⟩
theorem fa_X12_save_26 : FA RX12 wsX12_save 26 12 5 "NineMowersModel" := by
  show _ ∧ _ ∧ _ ∧ _
  exact ⟨by decide +kernel, fun _ h => List.mem_cons_of_mem _ (List.mem_append_right _ h), List.mem_of_getElem? (i := 4) rfl, Or.inl rfl⟩
theorem fa_X12_save_117 : FA RX12 wsX12_save 117 12 35 "NineMowersModel" := by
  show _ ∧ _ ∧ _ ∧ _
  exact ⟨by decide +kernel, fun _ h => List.mem_cons_of_mem _ (List.mem_append_right _ h), List.mem_of_getElem? (i := 5) rfl, Or.inl rfl⟩
theorem fa_X12_save_29 : FA RX12 wsX12_save 29 12 6 "NineMowersModel" := by
  show _ ∧ _ ∧ _ ∧ _
  exact ⟨by decide +kernel, fun _ h => List.mem_cons_of_mem _ (List.mem_append_right _ h), List.mem_of_getElem? (i := 6) rfl, Or.inl rfl⟩
theorem fa_X12_save_120 : FA RX12 wsX12_save 120 12 36 "NineMowersModel" := by
  show _ ∧ _ ∧ _ ∧ _
  exact ⟨by decide +kernel, fun _ h => List.mem_cons_of_mem _ (List.mem_append_right _ h), List.mem_of_getElem? (i := 7) rfl, Or.inl rfl⟩
theorem fa_X12_save_32 : FA RX12 wsX12_save 32 12 7 "NineMowersModel" := by
  show _ ∧ _ ∧ _ ∧ _
  exact ⟨by decide +kernel, fun _ h => List.mem_cons_of_mem _ (List.mem_append_right _ h), List.mem_of_getElem? (i := 8) rfl, Or.inl rfl⟩
theorem fa_X12_save_123 : FA RX12 wsX12_save 123 12 37 "NineMowersModel" := by
  show _ ∧ _ ∧ _ ∧ _
  exact ⟨by decide +kernel, fun _ h => List.mem_cons_of_mem _ (List.mem_append_right _ h), List.mem_of_getElem? (i := 9) rfl, Or.inl rfl⟩
theorem fa_X12_save_35 : FA RX12 wsX12_save 35 12 8 "NineMowersModel" := by
  show _ ∧ _ ∧ _ ∧ _
  exact ⟨by decide +kernel, fun _ h => List.mem_cons_of_mem _ (List.mem_append_right _ h), List.mem_of_getElem? (i := 10) rfl, Or.inl rfl⟩
theorem fa_X12_save_108 : FA RX12 wsX12_save 108 12 32 "NineMowersModel" := by
  show _ ∧ _ ∧ _ ∧ _
  exact ⟨by decide +kernel, fun _ h => List.mem_cons_of_mem _ (List.mem_append_right _ h), List.mem_of_getElem? (i := 11) rfl, Or.inl rfl⟩
noncomputable def K_X12_save (l : Launch) (V : Vx) (σ : Sg) (Qk : Sg → Prop) : Prop := Ka l V yX12_save wsX12_save (rmz 0) 0 0 [.ref 74] σ (QV V Qk)
theorem e_X12_save {l : Launch} {V : Vx} {σ : Sg} {Qk : Sg → Prop} (h : ∀ M : Mx, mL M = l → mV M = V → mN M = 2 → Cx M cX12_save none RX12 wsX12_save (rmz 0) 0 0 (QV (mV M) Qk) → PS M 0 [(0, .ref 74)] [] σ (0, 0)) : K_X12_save l V σ Qk :=
  Ka_of (by decide +kernel) rfl rfl (Nat.le_of_ble_eq_true rfl) (fun M h1 h2 h3 C => h M h1 h2 h3 (by rw [h2]; exact C))
set_option maxRecDepth 100000 in
set_option maxHeartbeats 4000000 in
theorem s_X12_save_0 {M : Mx} {Qk : Sg → Prop} (C : Cx M cX12_save none RX12 wsX12_save (rmz 0) 0 0 (QV (mV M) Qk)) (hN : mN M = 2) {σ : Sg} (h : (∀ σ1 : Sg, σ1 = si σ 74 33 (gi σ 74 1) → PS M 10 [(0, .ref 74), (1, .int (0 : Int32))] [] σ1 (0, 0))) : PS M 0 [(0, .ref 74)] [] σ (0, 0) := by
  refine P_aload_n C dX12_save_0 0 rfl ?_
  refine P_aload_n C dX12_save_1 0 rfl ?_
  refine P_getI C fa_X12_save_13 kd_74 rfl (fxl fx_74) dX12_save_2 ?_
  refine P_putI C pa_X12_save_111 kd_74 rfl (fxl fx_74) dX12_save_5 ?_
  refine P_nm (fun σ1 eσ1 => ?_)
  have h := h σ1 eσ1
  refine P_iconst C dX12_save_8 (v := (0 : Int32)) rfl ?_
  refine P_istore_n C dX12_save_9 (by rw [hN]; decide) rfl ?_
  exact P_sub [1, 0] rfl h
set_option maxRecDepth 100000 in
set_option maxHeartbeats 4000000 in
theorem s_X12_save_10 {M : Mx} {Qk : Sg → Prop} (C : Cx M cX12_save none RX12 wsX12_save (rmz 0) 0 0 (QV (mV M) Qk)) (hN : mN M = 2) {x1 : Int32} {σ : Sg} (h : (((6 : Int32) ≤ x1 → Qk σ) ∧ (¬ (6 : Int32) ≤ x1 → (vp_in x1 6 ∧ (vp_in x1 6 ∧ (∀ σ4 : Sg, σ4 = si σ 134 x1.toNatClampNeg (gi σ 105 x1.toNatClampNeg) → (vp_in x1 6 ∧ (vp_in x1 6 ∧ (∀ σ7 : Sg, σ7 = si σ4 135 x1.toNatClampNeg (gi σ4 106 x1.toNatClampNeg) → (vp_in x1 6 ∧ (vp_in x1 6 ∧ (∀ σ10 : Sg, σ10 = si σ7 136 x1.toNatClampNeg (gi σ7 107 x1.toNatClampNeg) → (vp_in x1 6 ∧ (vp_in x1 6 ∧ (∀ σ13 : Sg, σ13 = si σ10 137 x1.toNatClampNeg (gi σ10 108 x1.toNatClampNeg) → (vp_in x1 6 ∧ (∀ σ15 : Sg, σ15 = si σ13 132 x1.toNatClampNeg (0 : Int32) → (∀ v16 : Int32, v16 = x1 + 1 → PS M 10 [(0, .ref 74), (1, .int v16)] [] σ15 (0, 0))))))))))))))))))) : PS M 10 [(0, .ref 74), (1, .int x1)] [] σ (0, 0) := by
  refine P_iload_n C dX12_save_10 1 rfl ?_
  refine P_bipush C dX12_save_11 (v := (6 : Int32)) rfl ?_
  refine P_icmp_ge C dX12_save_13 (tgt := 77) (by decide +kernel) (fun q1 => ?_) (fun q1 => ?_)
  · have h := h.1 q1
    exact P_vret C dX12_save_77 h
  · have h := h.2 q1
    refine P_aload_n C dX12_save_16 0 rfl ?_
    refine P_getS C (e := 134) fa_X12_save_114 kd_74 (d := 60) rfl (fxl fx_74) rfl dX12_save_17 ?_
    refine P_iload_n C dX12_save_20 1 rfl ?_
    refine P_aload_n C dX12_save_21 0 rfl ?_
    refine P_getS C (e := 105) fa_X12_save_26 kd_74 (d := 31) rfl (fxl fx_74) rfl dX12_save_22 ?_
    refine P_iload_n C dX12_save_25 1 rfl ?_
    obtain ⟨hv2, h⟩ := h
    refine P_iald C kd_105 (fxl fx_105) hv2 dX12_save_26 ?_
    obtain ⟨hv3, h⟩ := h
    refine P_iast C kd_134 (fxl fx_134) hv3 dX12_save_27 ?_
    refine P_nm (fun σ4 eσ4 => ?_)
    have h := h σ4 eσ4
    refine P_aload_n C dX12_save_28 0 rfl ?_
    refine P_getS C (e := 135) fa_X12_save_117 kd_74 (d := 61) rfl (fxl fx_74) rfl dX12_save_29 ?_
    refine P_iload_n C dX12_save_32 1 rfl ?_
    refine P_aload_n C dX12_save_33 0 rfl ?_
    refine P_getS C (e := 106) fa_X12_save_29 kd_74 (d := 32) rfl (fxl fx_74) rfl dX12_save_34 ?_
    refine P_iload_n C dX12_save_37 1 rfl ?_
    obtain ⟨hv5, h⟩ := h
    refine P_iald C kd_106 (fxl fx_106) hv5 dX12_save_38 ?_
    obtain ⟨hv6, h⟩ := h
    refine P_iast C kd_135 (fxl fx_135) hv6 dX12_save_39 ?_
    refine P_nm (fun σ7 eσ7 => ?_)
    have h := h σ7 eσ7
    refine P_aload_n C dX12_save_40 0 rfl ?_
    refine P_getS C (e := 136) fa_X12_save_120 kd_74 (d := 62) rfl (fxl fx_74) rfl dX12_save_41 ?_
    refine P_iload_n C dX12_save_44 1 rfl ?_
    refine P_aload_n C dX12_save_45 0 rfl ?_
    refine P_getS C (e := 107) fa_X12_save_32 kd_74 (d := 33) rfl (fxl fx_74) rfl dX12_save_46 ?_
    refine P_iload_n C dX12_save_49 1 rfl ?_
    obtain ⟨hv8, h⟩ := h
    refine P_iald C kd_107 (fxl fx_107) hv8 dX12_save_50 ?_
    obtain ⟨hv9, h⟩ := h
    refine P_iast C kd_136 (fxl fx_136) hv9 dX12_save_51 ?_
    refine P_nm (fun σ10 eσ10 => ?_)
    have h := h σ10 eσ10
    refine P_aload_n C dX12_save_52 0 rfl ?_
    refine P_getS C (e := 137) fa_X12_save_123 kd_74 (d := 63) rfl (fxl fx_74) rfl dX12_save_53 ?_
    refine P_iload_n C dX12_save_56 1 rfl ?_
    refine P_aload_n C dX12_save_57 0 rfl ?_
    refine P_getS C (e := 108) fa_X12_save_35 kd_74 (d := 34) rfl (fxl fx_74) rfl dX12_save_58 ?_
    refine P_iload_n C dX12_save_61 1 rfl ?_
    obtain ⟨hv11, h⟩ := h
    refine P_iald C kd_108 (fxl fx_108) hv11 dX12_save_62 ?_
    obtain ⟨hv12, h⟩ := h
    refine P_iast C kd_137 (fxl fx_137) hv12 dX12_save_63 ?_
    refine P_nm (fun σ13 eσ13 => ?_)
    have h := h σ13 eσ13
    refine P_aload_n C dX12_save_64 0 rfl ?_
    refine P_getS C (e := 132) fa_X12_save_108 kd_74 (d := 58) rfl (fxl fx_74) rfl dX12_save_65 ?_
    refine P_iload_n C dX12_save_68 1 rfl ?_
    refine P_iconst C dX12_save_69 (v := (0 : Int32)) rfl ?_
    obtain ⟨hv14, h⟩ := h
    refine P_iast C kd_132 (fxl fx_132) hv14 dX12_save_70 ?_
    refine P_nm (fun σ15 eσ15 => ?_)
    have h := h σ15 eσ15
    obtain ⟨v16, ev16⟩ : ∃ v : Int32, v = x1 + 1 := ⟨_, rfl⟩
    have h := h v16 ev16
    refine P_iinc (v := v16) C dX12_save_71 1 rfl (by rw [ev16]; rfl) (by rw [hN]; decide) rfl ?_
    refine P_goto C dX12_save_74 (tgt := 10) (by decide +kernel) ?_
    exact P_sub [1, 0] rfl h
theorem fa_X12_putBack_111 : FA RX12 wsX12_putBack 111 12 33 "NineMowersModel" := by
  show _ ∧ _ ∧ _ ∧ _
  exact ⟨by decide +kernel, fun _ h => List.mem_cons_of_mem _ (List.mem_append_right _ h), List.mem_of_getElem? (i := 1) rfl, Or.inl rfl⟩
theorem pa_X12_putBack_13 : PA RX12 wsX12_putBack 13 12 1 "NineMowersModel" .int := by
  show _ ∧ _ ∧ _ ∧ _ ∧ _ ∧ _ ∧ _ ∧ _
  exact ⟨by decide +kernel, fun _ h => List.mem_cons_of_mem _ (List.mem_append_right _ h), List.mem_of_getElem? (i := 2) rfl, rfl, rfl, by decide +kernel, ⟨tyX12, tyX12_ok⟩, nmX12⟩
theorem fa_X12_putBack_26 : FA RX12 wsX12_putBack 26 12 5 "NineMowersModel" := by
  show _ ∧ _ ∧ _ ∧ _
  exact ⟨by decide +kernel, fun _ h => List.mem_cons_of_mem _ (List.mem_append_right _ h), List.mem_of_getElem? (i := 3) rfl, Or.inl rfl⟩
theorem fa_X12_putBack_114 : FA RX12 wsX12_putBack 114 12 34 "NineMowersModel" := by
  show _ ∧ _ ∧ _ ∧ _
  exact ⟨by decide +kernel, fun _ h => List.mem_cons_of_mem _ (List.mem_append_right _ h), List.mem_of_getElem? (i := 4) rfl, Or.inl rfl⟩
theorem fa_X12_putBack_29 : FA RX12 wsX12_putBack 29 12 6 "NineMowersModel" := by
  show _ ∧ _ ∧ _ ∧ _
  exact ⟨by decide +kernel, fun _ h => List.mem_cons_of_mem _ (List.mem_append_right _ h), List.mem_of_getElem? (i := 5) rfl, Or.inl rfl⟩
theorem fa_X12_putBack_117 : FA RX12 wsX12_putBack 117 12 35 "NineMowersModel" := by
  show _ ∧ _ ∧ _ ∧ _
  exact ⟨by decide +kernel, fun _ h => List.mem_cons_of_mem _ (List.mem_append_right _ h), List.mem_of_getElem? (i := 6) rfl, Or.inl rfl⟩
theorem fa_X12_putBack_32 : FA RX12 wsX12_putBack 32 12 7 "NineMowersModel" := by
  show _ ∧ _ ∧ _ ∧ _
  exact ⟨by decide +kernel, fun _ h => List.mem_cons_of_mem _ (List.mem_append_right _ h), List.mem_of_getElem? (i := 7) rfl, Or.inl rfl⟩
theorem fa_X12_putBack_120 : FA RX12 wsX12_putBack 120 12 36 "NineMowersModel" := by
  show _ ∧ _ ∧ _ ∧ _
  exact ⟨by decide +kernel, fun _ h => List.mem_cons_of_mem _ (List.mem_append_right _ h), List.mem_of_getElem? (i := 8) rfl, Or.inl rfl⟩
theorem fa_X12_putBack_35 : FA RX12 wsX12_putBack 35 12 8 "NineMowersModel" := by
  show _ ∧ _ ∧ _ ∧ _
  exact ⟨by decide +kernel, fun _ h => List.mem_cons_of_mem _ (List.mem_append_right _ h), List.mem_of_getElem? (i := 9) rfl, Or.inl rfl⟩
theorem fa_X12_putBack_123 : FA RX12 wsX12_putBack 123 12 37 "NineMowersModel" := by
  show _ ∧ _ ∧ _ ∧ _
  exact ⟨by decide +kernel, fun _ h => List.mem_cons_of_mem _ (List.mem_append_right _ h), List.mem_of_getElem? (i := 10) rfl, Or.inl rfl⟩
noncomputable def K_X12_putBack (l : Launch) (V : Vx) (σ : Sg) (Qk : Sg → Prop) : Prop := Ka l V yX12_putBack wsX12_putBack (rmz 0) 0 0 [.ref 74] σ (QV V Qk)
theorem e_X12_putBack {l : Launch} {V : Vx} {σ : Sg} {Qk : Sg → Prop} (h : ∀ M : Mx, mL M = l → mV M = V → mN M = 2 → Cx M cX12_putBack none RX12 wsX12_putBack (rmz 0) 0 0 (QV (mV M) Qk) → PS M 0 [(0, .ref 74)] [] σ (0, 0)) : K_X12_putBack l V σ Qk :=
  Ka_of (by decide +kernel) rfl rfl (Nat.le_of_ble_eq_true rfl) (fun M h1 h2 h3 C => h M h1 h2 h3 (by rw [h2]; exact C))
set_option maxRecDepth 100000 in
set_option maxHeartbeats 4000000 in
theorem s_X12_putBack_0 {M : Mx} {Qk : Sg → Prop} (C : Cx M cX12_putBack none RX12 wsX12_putBack (rmz 0) 0 0 (QV (mV M) Qk)) (hN : mN M = 2) {σ : Sg} (h : (∀ σ1 : Sg, σ1 = si σ 74 1 (gi σ 74 33) → PS M 10 [(0, .ref 74), (1, .int (0 : Int32))] [] σ1 (0, 0))) : PS M 0 [(0, .ref 74)] [] σ (0, 0) := by
  refine P_aload_n C dX12_putBack_0 0 rfl ?_
  refine P_aload_n C dX12_putBack_1 0 rfl ?_
  refine P_getI C fa_X12_putBack_111 kd_74 rfl (fxl fx_74) dX12_putBack_2 ?_
  refine P_putI C pa_X12_putBack_13 kd_74 rfl (fxl fx_74) dX12_putBack_5 ?_
  refine P_nm (fun σ1 eσ1 => ?_)
  have h := h σ1 eσ1
  refine P_iconst C dX12_putBack_8 (v := (0 : Int32)) rfl ?_
  refine P_istore_n C dX12_putBack_9 (by rw [hN]; decide) rfl ?_
  exact P_sub [1, 0] rfl h
set_option maxRecDepth 100000 in
set_option maxHeartbeats 4000000 in
theorem s_X12_putBack_10 {M : Mx} {Qk : Sg → Prop} (C : Cx M cX12_putBack none RX12 wsX12_putBack (rmz 0) 0 0 (QV (mV M) Qk)) (hN : mN M = 2) {x1 : Int32} {σ : Sg} (h : (((6 : Int32) ≤ x1 → Qk σ) ∧ (¬ (6 : Int32) ≤ x1 → (vp_in x1 6 ∧ (vp_in x1 6 ∧ (∀ σ4 : Sg, σ4 = si σ 105 x1.toNatClampNeg (gi σ 134 x1.toNatClampNeg) → (vp_in x1 6 ∧ (vp_in x1 6 ∧ (∀ σ7 : Sg, σ7 = si σ4 106 x1.toNatClampNeg (gi σ4 135 x1.toNatClampNeg) → (vp_in x1 6 ∧ (vp_in x1 6 ∧ (∀ σ10 : Sg, σ10 = si σ7 107 x1.toNatClampNeg (gi σ7 136 x1.toNatClampNeg) → (vp_in x1 6 ∧ (vp_in x1 6 ∧ (∀ σ13 : Sg, σ13 = si σ10 108 x1.toNatClampNeg (gi σ10 137 x1.toNatClampNeg) → (∀ v14 : Int32, v14 = x1 + 1 → PS M 10 [(0, .ref 74), (1, .int v14)] [] σ13 (0, 0))))))))))))))))) : PS M 10 [(0, .ref 74), (1, .int x1)] [] σ (0, 0) := by
  refine P_iload_n C dX12_putBack_10 1 rfl ?_
  refine P_bipush C dX12_putBack_11 (v := (6 : Int32)) rfl ?_
  refine P_icmp_ge C dX12_putBack_13 (tgt := 70) (by decide +kernel) (fun q1 => ?_) (fun q1 => ?_)
  · have h := h.1 q1
    exact P_vret C dX12_putBack_70 h
  · have h := h.2 q1
    refine P_aload_n C dX12_putBack_16 0 rfl ?_
    refine P_getS C (e := 105) fa_X12_putBack_26 kd_74 (d := 31) rfl (fxl fx_74) rfl dX12_putBack_17 ?_
    refine P_iload_n C dX12_putBack_20 1 rfl ?_
    refine P_aload_n C dX12_putBack_21 0 rfl ?_
    refine P_getS C (e := 134) fa_X12_putBack_114 kd_74 (d := 60) rfl (fxl fx_74) rfl dX12_putBack_22 ?_
    refine P_iload_n C dX12_putBack_25 1 rfl ?_
    obtain ⟨hv2, h⟩ := h
    refine P_iald C kd_134 (fxl fx_134) hv2 dX12_putBack_26 ?_
    obtain ⟨hv3, h⟩ := h
    refine P_iast C kd_105 (fxl fx_105) hv3 dX12_putBack_27 ?_
    refine P_nm (fun σ4 eσ4 => ?_)
    have h := h σ4 eσ4
    refine P_aload_n C dX12_putBack_28 0 rfl ?_
    refine P_getS C (e := 106) fa_X12_putBack_29 kd_74 (d := 32) rfl (fxl fx_74) rfl dX12_putBack_29 ?_
    refine P_iload_n C dX12_putBack_32 1 rfl ?_
    refine P_aload_n C dX12_putBack_33 0 rfl ?_
    refine P_getS C (e := 135) fa_X12_putBack_117 kd_74 (d := 61) rfl (fxl fx_74) rfl dX12_putBack_34 ?_
    refine P_iload_n C dX12_putBack_37 1 rfl ?_
    obtain ⟨hv5, h⟩ := h
    refine P_iald C kd_135 (fxl fx_135) hv5 dX12_putBack_38 ?_
    obtain ⟨hv6, h⟩ := h
    refine P_iast C kd_106 (fxl fx_106) hv6 dX12_putBack_39 ?_
    refine P_nm (fun σ7 eσ7 => ?_)
    have h := h σ7 eσ7
    refine P_aload_n C dX12_putBack_40 0 rfl ?_
    refine P_getS C (e := 107) fa_X12_putBack_32 kd_74 (d := 33) rfl (fxl fx_74) rfl dX12_putBack_41 ?_
    refine P_iload_n C dX12_putBack_44 1 rfl ?_
    refine P_aload_n C dX12_putBack_45 0 rfl ?_
    refine P_getS C (e := 136) fa_X12_putBack_120 kd_74 (d := 62) rfl (fxl fx_74) rfl dX12_putBack_46 ?_
    refine P_iload_n C dX12_putBack_49 1 rfl ?_
    obtain ⟨hv8, h⟩ := h
    refine P_iald C kd_136 (fxl fx_136) hv8 dX12_putBack_50 ?_
    obtain ⟨hv9, h⟩ := h
    refine P_iast C kd_107 (fxl fx_107) hv9 dX12_putBack_51 ?_
    refine P_nm (fun σ10 eσ10 => ?_)
    have h := h σ10 eσ10
    refine P_aload_n C dX12_putBack_52 0 rfl ?_
    refine P_getS C (e := 108) fa_X12_putBack_35 kd_74 (d := 34) rfl (fxl fx_74) rfl dX12_putBack_53 ?_
    refine P_iload_n C dX12_putBack_56 1 rfl ?_
    refine P_aload_n C dX12_putBack_57 0 rfl ?_
    refine P_getS C (e := 137) fa_X12_putBack_123 kd_74 (d := 63) rfl (fxl fx_74) rfl dX12_putBack_58 ?_
    refine P_iload_n C dX12_putBack_61 1 rfl ?_
    obtain ⟨hv11, h⟩ := h
    refine P_iald C kd_137 (fxl fx_137) hv11 dX12_putBack_62 ?_
    obtain ⟨hv12, h⟩ := h
    refine P_iast C kd_108 (fxl fx_108) hv12 dX12_putBack_63 ?_
    refine P_nm (fun σ13 eσ13 => ?_)
    have h := h σ13 eσ13
    obtain ⟨v14, ev14⟩ : ∃ v : Int32, v = x1 + 1 := ⟨_, rfl⟩
    have h := h v14 ev14
    refine P_iinc (v := v14) C dX12_putBack_64 1 rfl (by rw [ev14]; rfl) (by rw [hN]; decide) rfl ?_
    refine P_goto C dX12_putBack_67 (tgt := 10) (by decide +kernel) ?_
    exact P_sub [1, 0] rfl h
theorem fa_X12_all_7 : FA RX12 wsX12_all 7 12 0 "NineMowersModel" := by
  show _ ∧ _ ∧ _ ∧ _
  exact ⟨by decide +kernel, fun _ h => List.mem_cons_of_mem _ (List.mem_append_right _ h), List.mem_of_getElem? (i := 1) rfl, Or.inl rfl⟩
theorem fa_X12_all_26 : FA RX12 wsX12_all 26 12 5 "NineMowersModel" := by
  show _ ∧ _ ∧ _ ∧ _
  exact ⟨by decide +kernel, fun _ h => List.mem_cons_of_mem _ (List.mem_append_right _ h), List.mem_of_getElem? (i := 2) rfl, Or.inl rfl⟩
noncomputable def K_X12_all (l : Launch) (V : Vx) (σ : Sg) (Qk : Int32 → Sg → Prop) : Prop := Ka l V yX12_all wsX12_all (rmz 0) 0 0 [.ref 74] σ (QI V Qk)
theorem e_X12_all {l : Launch} {V : Vx} {σ : Sg} {Qk : Int32 → Sg → Prop} (h : ∀ M : Mx, mL M = l → mV M = V → mN M = 3 → Cx M cX12_all (some .int) RX12 wsX12_all (rmz 0) 0 0 (QI (mV M) Qk) → PS M 0 [(0, .ref 74)] [] σ (0, 0)) : K_X12_all l V σ Qk :=
  Ka_of (by decide +kernel) rfl rfl (Nat.le_of_ble_eq_true rfl) (fun M h1 h2 h3 C => h M h1 h2 h3 (by rw [h2]; exact C))
set_option maxRecDepth 100000 in
set_option maxHeartbeats 4000000 in
theorem s_X12_all_0 {M : Mx} {Qk : Int32 → Sg → Prop} (C : Cx M cX12_all (some .int) RX12 wsX12_all (rmz 0) 0 0 (QI (mV M) Qk)) (hN : mN M = 3) {σ : Sg} (h : PS M 4 [(0, .ref 74), (1, .int (0 : Int32)), (2, .int (0 : Int32))] [] σ (0, 0)) : PS M 0 [(0, .ref 74)] [] σ (0, 0) := by
  refine P_iconst C dX12_all_0 (v := (0 : Int32)) rfl ?_
  refine P_istore_n C dX12_all_1 (by rw [hN]; decide) rfl ?_
  refine P_iconst C dX12_all_2 (v := (0 : Int32)) rfl ?_
  refine P_istore_n C dX12_all_3 (by rw [hN]; decide) rfl ?_
  exact P_sub [2, 1, 0] rfl h
set_option maxRecDepth 100000 in
set_option maxHeartbeats 4000000 in
theorem s_X12_all_4 {M : Mx} {Qk : Int32 → Sg → Prop} (C : Cx M cX12_all (some .int) RX12 wsX12_all (rmz 0) 0 0 (QI (mV M) Qk)) (hN : mN M = 3) {x1 : Int32} {x2 : Int32} {σ : Sg} (h : (((gi σ 74 0) ≤ x2 → Qk x1 σ) ∧ (¬ (gi σ 74 0) ≤ x2 → (vp_in x2 6 ∧ (∀ v3 : Int32, v3 = x1 + (gi σ 105 x2.toNatClampNeg) → (∀ v4 : Int32, v4 = x2 + 1 → PS M 4 [(0, .ref 74), (1, .int v3), (2, .int v4)] [] σ (0, 0))))))) : PS M 4 [(0, .ref 74), (1, .int x1), (2, .int x2)] [] σ (0, 0) := by
  refine P_iload_n C dX12_all_4 2 rfl ?_
  refine P_aload_n C dX12_all_5 0 rfl ?_
  refine P_getI C fa_X12_all_7 kd_74 rfl (fxl fx_74) dX12_all_6 ?_
  refine P_icmp_ge C dX12_all_9 (tgt := 27) (by decide +kernel) (fun q1 => ?_) (fun q1 => ?_)
  · have h := h.1 q1
    refine P_iload_n C dX12_all_27 1 rfl ?_
    exact P_iret C dX12_all_28 h
  · have h := h.2 q1
    refine P_iload_n C dX12_all_12 1 rfl ?_
    refine P_aload_n C dX12_all_13 0 rfl ?_
    refine P_getS C (e := 105) fa_X12_all_26 kd_74 (d := 31) rfl (fxl fx_74) rfl dX12_all_14 ?_
    refine P_iload_n C dX12_all_17 2 rfl ?_
    obtain ⟨hv2, h⟩ := h
    refine P_iald C kd_105 (fxl fx_105) hv2 dX12_all_18 ?_
    refine P_iadd C dX12_all_19 ?_
    refine P_nmi (fun v3 ev3 => ?_)
    have h := h v3 ev3
    refine P_istore_n C dX12_all_20 (by rw [hN]; decide) rfl ?_
    obtain ⟨v4, ev4⟩ : ∃ v : Int32, v = x2 + 1 := ⟨_, rfl⟩
    have h := h v4 ev4
    refine P_iinc (v := v4) C dX12_all_21 2 rfl (by rw [ev4]; rfl) (by rw [hN]; decide) rfl ?_
    refine P_goto C dX12_all_24 (tgt := 4) (by decide +kernel) ?_
    exact P_sub [2, 1, 0] rfl h
noncomputable def K_X12_divisor (l : Launch) (V : Vx) (a1 : Int32) (a2 : Int32) (σ : Sg) (Qk : Int32 → Sg → Prop) : Prop := Ka l V yX12_divisor wsX12_divisor (rmz 0) 0 0 [.ref 74, .int a1, .int a2] σ (QI V Qk)
theorem e_X12_divisor {l : Launch} {V : Vx} {a1 : Int32} {a2 : Int32} {σ : Sg} {Qk : Int32 → Sg → Prop} (h : ∀ M : Mx, mL M = l → mV M = V → mN M = 6 → Cx M cX12_divisor (some .int) RX12 wsX12_divisor (rmz 0) 0 0 (QI (mV M) Qk) → PS M 0 [(0, .ref 74), (1, .int a1), (2, .int a2)] [] σ (0, 0)) : K_X12_divisor l V a1 a2 σ Qk :=
  Ka_of (by decide +kernel) rfl rfl (Nat.le_of_ble_eq_true rfl) (fun M h1 h2 h3 C => h M h1 h2 h3 (by rw [h2]; exact C))
set_option maxRecDepth 100000 in
set_option maxHeartbeats 4000000 in
theorem s_X12_divisor_0 {M : Mx} {Qk : Int32 → Sg → Prop} (C : Cx M cX12_divisor (some .int) RX12 wsX12_divisor (rmz 0) 0 0 (QI (mV M) Qk)) (hN : mN M = 6) {a1 : Int32} {a2 : Int32} {σ : Sg} (h : PS M 5 [(3, .int a1), (4, .int a2)] [] σ (0, 0)) : PS M 0 [(0, .ref 74), (1, .int a1), (2, .int a2)] [] σ (0, 0) := by
  refine P_iload_n C dX12_divisor_0 1 rfl ?_
  refine P_istore_n C dX12_divisor_1 (by rw [hN]; decide) rfl ?_
  refine P_iload_n C dX12_divisor_2 3 rfl ?_
  refine P_istore C dX12_divisor_3 (by rw [hN]; decide) rfl ?_
  exact P_sub [1, 0] rfl h
set_option maxRecDepth 100000 in
set_option maxHeartbeats 4000000 in
theorem s_X12_divisor_5 {M : Mx} {Qk : Int32 → Sg → Prop} (C : Cx M cX12_divisor (some .int) RX12 wsX12_divisor (rmz 0) 0 0 (QI (mV M) Qk)) (hN : mN M = 6) {x3 : Int32} {x4 : Int32} {σ : Sg} (h : ((x4 = 0 → Qk x3 σ) ∧ (¬ x4 = 0 → (¬ x4 = 0 ∧ (∀ v3 : Int32, v3 = x3 - x3 / x4 * x4 → PS M 5 [(3, .int x4), (4, .int v3)] [] σ (0, 0)))))) : PS M 5 [(3, .int x3), (4, .int x4)] [] σ (0, 0) := by
  refine P_iload C dX12_divisor_5 1 rfl ?_
  refine P_if_eq C dX12_divisor_7 (tgt := 26) (by decide +kernel) (fun q1 => ?_) (fun q1 => ?_)
  · have h := h.1 q1
    refine P_iload_n C dX12_divisor_26 0 rfl ?_
    exact P_iret C dX12_divisor_27 h
  · have h := h.2 q1
    refine P_iload_n C dX12_divisor_10 0 rfl ?_
    refine P_iload C dX12_divisor_11 1 rfl ?_
    obtain ⟨hz2, h⟩ := h
    refine P_irem C dX12_divisor_13 hz2 ?_
    refine P_nmi (fun v3 ev3 => ?_)
    have h := h v3 ev3
    refine P_istore C dX12_divisor_14 (by rw [hN]; decide) rfl ?_
    refine P_iload C dX12_divisor_16 2 rfl ?_
    refine P_istore_n C dX12_divisor_18 (by rw [hN]; decide) rfl ?_
    refine P_iload C dX12_divisor_19 1 rfl ?_
    refine P_istore C dX12_divisor_21 (by rw [hN]; decide) rfl ?_
    refine P_goto C dX12_divisor_23 (tgt := 5) (by decide +kernel) ?_
    exact P_sub [1, 0] rfl h
theorem pa_X12_image_159 : PA RX12 wsX12_image 159 12 49 "NineMowersModel" .boolean := by
  show _ ∧ _ ∧ _ ∧ _ ∧ _ ∧ _ ∧ _ ∧ _
  exact ⟨by decide +kernel, fun _ h => List.mem_cons_of_mem _ (List.mem_append_right _ h), List.mem_of_getElem? (i := 1) rfl, rfl, rfl, by decide +kernel, ⟨tyX12, tyX12_ok⟩, nmX12⟩
theorem fa_X12_image_47 : FA RX12 wsX12_image 47 12 12 "NineMowersModel" := by
  show _ ∧ _ ∧ _ ∧ _
  exact ⟨by decide +kernel, fun _ h => List.mem_cons_of_mem _ (List.mem_append_right _ h), List.mem_of_getElem? (i := 2) rfl, Or.inl rfl⟩
theorem pa_X12_image_163 : PA RX12 wsX12_image 163 12 50 "NineMowersModel" .int := by
  show _ ∧ _ ∧ _ ∧ _ ∧ _ ∧ _ ∧ _ ∧ _
  exact ⟨by decide +kernel, fun _ h => List.mem_cons_of_mem _ (List.mem_append_right _ h), List.mem_of_getElem? (i := 3) rfl, rfl, rfl, by decide +kernel, ⟨tyX12, tyX12_ok⟩, nmX12⟩
theorem fa_X12_image_7 : FA RX12 wsX12_image 7 12 0 "NineMowersModel" := by
  show _ ∧ _ ∧ _ ∧ _
  exact ⟨by decide +kernel, fun _ h => List.mem_cons_of_mem _ (List.mem_append_right _ h), List.mem_of_getElem? (i := 4) rfl, Or.inl rfl⟩
theorem pa_X12_image_166 : PA RX12 wsX12_image 166 12 51 "NineMowersModel" .int := by
  show _ ∧ _ ∧ _ ∧ _ ∧ _ ∧ _ ∧ _ ∧ _
  exact ⟨by decide +kernel, fun _ h => List.mem_cons_of_mem _ (List.mem_append_right _ h), List.mem_of_getElem? (i := 5) rfl, rfl, rfl, by decide +kernel, ⟨tyX12, tyX12_ok⟩, nmX12⟩
theorem fa_X12_image_13 : FA RX12 wsX12_image 13 12 1 "NineMowersModel" := by
  show _ ∧ _ ∧ _ ∧ _
  exact ⟨by decide +kernel, fun _ h => List.mem_cons_of_mem _ (List.mem_append_right _ h), List.mem_of_getElem? (i := 6) rfl, Or.inl rfl⟩
theorem pa_X12_image_169 : PA RX12 wsX12_image 169 12 52 "NineMowersModel" .int := by
  show _ ∧ _ ∧ _ ∧ _ ∧ _ ∧ _ ∧ _ ∧ _
  exact ⟨by decide +kernel, fun _ h => List.mem_cons_of_mem _ (List.mem_append_right _ h), List.mem_of_getElem? (i := 7) rfl, rfl, rfl, by decide +kernel, ⟨tyX12, tyX12_ok⟩, nmX12⟩
theorem fa_X12_image_135 : FA RX12 wsX12_image 135 12 41 "NineMowersModel" := by
  show _ ∧ _ ∧ _ ∧ _
  exact ⟨by decide +kernel, fun _ h => List.mem_cons_of_mem _ (List.mem_append_right _ h), List.mem_of_getElem? (i := 8) rfl, Or.inl rfl⟩
theorem pa_X12_image_172 : PA RX12 wsX12_image 172 12 53 "NineMowersModel" .int := by
  show _ ∧ _ ∧ _ ∧ _ ∧ _ ∧ _ ∧ _ ∧ _
  exact ⟨by decide +kernel, fun _ h => List.mem_cons_of_mem _ (List.mem_append_right _ h), List.mem_of_getElem? (i := 9) rfl, rfl, rfl, by decide +kernel, ⟨tyX12, tyX12_ok⟩, nmX12⟩
theorem fa_X12_image_147 : FA RX12 wsX12_image 147 12 45 "NineMowersModel" := by
  show _ ∧ _ ∧ _ ∧ _
  exact ⟨by decide +kernel, fun _ h => List.mem_cons_of_mem _ (List.mem_append_right _ h), List.mem_of_getElem? (i := 10) rfl, Or.inl rfl⟩
theorem pa_X12_image_175 : PA RX12 wsX12_image 175 12 54 "NineMowersModel" .int := by
  show _ ∧ _ ∧ _ ∧ _ ∧ _ ∧ _ ∧ _ ∧ _
  exact ⟨by decide +kernel, fun _ h => List.mem_cons_of_mem _ (List.mem_append_right _ h), List.mem_of_getElem? (i := 11) rfl, rfl, rfl, by decide +kernel, ⟨tyX12, tyX12_ok⟩, nmX12⟩
theorem fa_X12_image_150 : FA RX12 wsX12_image 150 12 46 "NineMowersModel" := by
  show _ ∧ _ ∧ _ ∧ _
  exact ⟨by decide +kernel, fun _ h => List.mem_cons_of_mem _ (List.mem_append_right _ h), List.mem_of_getElem? (i := 12) rfl, Or.inl rfl⟩
theorem pa_X12_image_178 : PA RX12 wsX12_image 178 12 55 "NineMowersModel" .int := by
  show _ ∧ _ ∧ _ ∧ _ ∧ _ ∧ _ ∧ _ ∧ _
  exact ⟨by decide +kernel, fun _ h => List.mem_cons_of_mem _ (List.mem_append_right _ h), List.mem_of_getElem? (i := 13) rfl, rfl, rfl, by decide +kernel, ⟨tyX12, tyX12_ok⟩, nmX12⟩
theorem fa_X12_image_181 : FA RX12 wsX12_image 181 12 56 "NineMowersModel" := by
  show _ ∧ _ ∧ _ ∧ _
  exact ⟨by decide +kernel, fun _ h => List.mem_cons_of_mem _ (List.mem_append_right _ h), List.mem_of_getElem? (i := 14) rfl, Or.inl rfl⟩
theorem fa_X12_image_19 : FA RX12 wsX12_image 19 12 3 "NineMowersModel" := by
  show _ ∧ _ ∧ _ ∧ _
  exact ⟨by decide +kernel, fun _ h => List.mem_cons_of_mem _ (List.mem_append_right _ h), List.mem_of_getElem? (i := 15) rfl, Or.inl rfl⟩
theorem fa_X12_image_184 : FA RX12 wsX12_image 184 12 57 "NineMowersModel" := by
  show _ ∧ _ ∧ _ ∧ _
  exact ⟨by decide +kernel, fun _ h => List.mem_cons_of_mem _ (List.mem_append_right _ h), List.mem_of_getElem? (i := 16) rfl, Or.inl rfl⟩
theorem fa_X12_image_23 : FA RX12 wsX12_image 23 12 4 "NineMowersModel" := by
  show _ ∧ _ ∧ _ ∧ _
  exact ⟨by decide +kernel, fun _ h => List.mem_cons_of_mem _ (List.mem_append_right _ h), List.mem_of_getElem? (i := 17) rfl, Or.inl rfl⟩
theorem fa_X12_image_187 : FA RX12 wsX12_image 187 12 58 "NineMowersModel" := by
  show _ ∧ _ ∧ _ ∧ _
  exact ⟨by decide +kernel, fun _ h => List.mem_cons_of_mem _ (List.mem_append_right _ h), List.mem_of_getElem? (i := 18) rfl, Or.inl rfl⟩
theorem fa_X12_image_26 : FA RX12 wsX12_image 26 12 5 "NineMowersModel" := by
  show _ ∧ _ ∧ _ ∧ _
  exact ⟨by decide +kernel, fun _ h => List.mem_cons_of_mem _ (List.mem_append_right _ h), List.mem_of_getElem? (i := 19) rfl, Or.inl rfl⟩
theorem fa_X12_image_190 : FA RX12 wsX12_image 190 12 59 "NineMowersModel" := by
  show _ ∧ _ ∧ _ ∧ _
  exact ⟨by decide +kernel, fun _ h => List.mem_cons_of_mem _ (List.mem_append_right _ h), List.mem_of_getElem? (i := 20) rfl, Or.inl rfl⟩
theorem fa_X12_image_29 : FA RX12 wsX12_image 29 12 6 "NineMowersModel" := by
  show _ ∧ _ ∧ _ ∧ _
  exact ⟨by decide +kernel, fun _ h => List.mem_cons_of_mem _ (List.mem_append_right _ h), List.mem_of_getElem? (i := 21) rfl, Or.inl rfl⟩
theorem fa_X12_image_193 : FA RX12 wsX12_image 193 12 60 "NineMowersModel" := by
  show _ ∧ _ ∧ _ ∧ _
  exact ⟨by decide +kernel, fun _ h => List.mem_cons_of_mem _ (List.mem_append_right _ h), List.mem_of_getElem? (i := 22) rfl, Or.inl rfl⟩
theorem fa_X12_image_32 : FA RX12 wsX12_image 32 12 7 "NineMowersModel" := by
  show _ ∧ _ ∧ _ ∧ _
  exact ⟨by decide +kernel, fun _ h => List.mem_cons_of_mem _ (List.mem_append_right _ h), List.mem_of_getElem? (i := 23) rfl, Or.inl rfl⟩
theorem fa_X12_image_196 : FA RX12 wsX12_image 196 12 61 "NineMowersModel" := by
  show _ ∧ _ ∧ _ ∧ _
  exact ⟨by decide +kernel, fun _ h => List.mem_cons_of_mem _ (List.mem_append_right _ h), List.mem_of_getElem? (i := 24) rfl, Or.inl rfl⟩
theorem fa_X12_image_35 : FA RX12 wsX12_image 35 12 8 "NineMowersModel" := by
  show _ ∧ _ ∧ _ ∧ _
  exact ⟨by decide +kernel, fun _ h => List.mem_cons_of_mem _ (List.mem_append_right _ h), List.mem_of_getElem? (i := 25) rfl, Or.inl rfl⟩
theorem fa_X12_image_199 : FA RX12 wsX12_image 199 12 62 "NineMowersModel" := by
  show _ ∧ _ ∧ _ ∧ _
  exact ⟨by decide +kernel, fun _ h => List.mem_cons_of_mem _ (List.mem_append_right _ h), List.mem_of_getElem? (i := 26) rfl, Or.inl rfl⟩
theorem fa_X12_image_41 : FA RX12 wsX12_image 41 12 10 "NineMowersModel" := by
  show _ ∧ _ ∧ _ ∧ _
  exact ⟨by decide +kernel, fun _ h => List.mem_cons_of_mem _ (List.mem_append_right _ h), List.mem_of_getElem? (i := 27) rfl, Or.inl rfl⟩
theorem fa_X12_image_205 : FA RX12 wsX12_image 205 12 64 "NineMowersModel" := by
  show _ ∧ _ ∧ _ ∧ _
  exact ⟨by decide +kernel, fun _ h => List.mem_cons_of_mem _ (List.mem_append_right _ h), List.mem_of_getElem? (i := 28) rfl, Or.inl rfl⟩
theorem fa_X12_image_138 : FA RX12 wsX12_image 138 12 42 "NineMowersModel" := by
  show _ ∧ _ ∧ _ ∧ _
  exact ⟨by decide +kernel, fun _ h => List.mem_cons_of_mem _ (List.mem_append_right _ h), List.mem_of_getElem? (i := 29) rfl, Or.inl rfl⟩
theorem fa_X12_image_208 : FA RX12 wsX12_image 208 12 65 "NineMowersModel" := by
  show _ ∧ _ ∧ _ ∧ _
  exact ⟨by decide +kernel, fun _ h => List.mem_cons_of_mem _ (List.mem_append_right _ h), List.mem_of_getElem? (i := 30) rfl, Or.inl rfl⟩
theorem fa_X12_image_141 : FA RX12 wsX12_image 141 12 43 "NineMowersModel" := by
  show _ ∧ _ ∧ _ ∧ _
  exact ⟨by decide +kernel, fun _ h => List.mem_cons_of_mem _ (List.mem_append_right _ h), List.mem_of_getElem? (i := 31) rfl, Or.inl rfl⟩
theorem fa_X12_image_211 : FA RX12 wsX12_image 211 12 66 "NineMowersModel" := by
  show _ ∧ _ ∧ _ ∧ _
  exact ⟨by decide +kernel, fun _ h => List.mem_cons_of_mem _ (List.mem_append_right _ h), List.mem_of_getElem? (i := 32) rfl, Or.inl rfl⟩
theorem fa_X12_image_144 : FA RX12 wsX12_image 144 12 44 "NineMowersModel" := by
  show _ ∧ _ ∧ _ ∧ _
  exact ⟨by decide +kernel, fun _ h => List.mem_cons_of_mem _ (List.mem_append_right _ h), List.mem_of_getElem? (i := 33) rfl, Or.inl rfl⟩
theorem fa_X12_image_202 : FA RX12 wsX12_image 202 12 63 "NineMowersModel" := by
  show _ ∧ _ ∧ _ ∧ _
  exact ⟨by decide +kernel, fun _ h => List.mem_cons_of_mem _ (List.mem_append_right _ h), List.mem_of_getElem? (i := 34) rfl, Or.inl rfl⟩
theorem fa_X12_image_38 : FA RX12 wsX12_image 38 12 9 "NineMowersModel" := by
  show _ ∧ _ ∧ _ ∧ _
  exact ⟨by decide +kernel, fun _ h => List.mem_cons_of_mem _ (List.mem_append_right _ h), List.mem_of_getElem? (i := 35) rfl, Or.inl rfl⟩
theorem fa_X12_image_214 : FA RX12 wsX12_image 214 12 67 "NineMowersModel" := by
  show _ ∧ _ ∧ _ ∧ _
  exact ⟨by decide +kernel, fun _ h => List.mem_cons_of_mem _ (List.mem_append_right _ h), List.mem_of_getElem? (i := 36) rfl, Or.inl rfl⟩
theorem fa_X12_image_153 : FA RX12 wsX12_image 153 12 47 "NineMowersModel" := by
  show _ ∧ _ ∧ _ ∧ _
  exact ⟨by decide +kernel, fun _ h => List.mem_cons_of_mem _ (List.mem_append_right _ h), List.mem_of_getElem? (i := 37) rfl, Or.inl rfl⟩
theorem fa_X12_image_217 : FA RX12 wsX12_image 217 12 68 "NineMowersModel" := by
  show _ ∧ _ ∧ _ ∧ _
  exact ⟨by decide +kernel, fun _ h => List.mem_cons_of_mem _ (List.mem_append_right _ h), List.mem_of_getElem? (i := 38) rfl, Or.inl rfl⟩
theorem fa_X12_image_156 : FA RX12 wsX12_image 156 12 48 "NineMowersModel" := by
  show _ ∧ _ ∧ _ ∧ _
  exact ⟨by decide +kernel, fun _ h => List.mem_cons_of_mem _ (List.mem_append_right _ h), List.mem_of_getElem? (i := 39) rfl, Or.inl rfl⟩
noncomputable def K_X12_image (l : Launch) (V : Vx) (σ : Sg) (Qk : Int32 → Sg → Prop) : Prop := Ka l V yX12_image wsX12_image (rmz 0) 0 0 [.ref 74] σ (QI V Qk)
theorem e_X12_image {l : Launch} {V : Vx} {σ : Sg} {Qk : Int32 → Sg → Prop} (h : ∀ M : Mx, mL M = l → mV M = V → mN M = 2 → Cx M cX12_image (some .int) RX12 wsX12_image (rmz 0) 0 0 (QI (mV M) Qk) → PS M 0 [(0, .ref 74)] [] σ (0, 0)) : K_X12_image l V σ Qk :=
  Ka_of (by decide +kernel) rfl rfl (Nat.le_of_ble_eq_true rfl) (fun M h1 h2 h3 C => h M h1 h2 h3 (by rw [h2]; exact C))
set_option maxRecDepth 100000 in
set_option maxHeartbeats 4000000 in
theorem s_X12_image_0 {M : Mx} {Qk : Int32 → Sg → Prop} (C : Cx M cX12_image (some .int) RX12 wsX12_image (rmz 0) 0 0 (QI (mV M) Qk)) (hN : mN M = 2) {σ : Sg} (h : (∀ σ1 : Sg, σ1 = si σ 74 49 (1 : Int32) → (∀ σ2 : Sg, σ2 = si σ1 74 50 (gi σ1 74 12) → (∀ σ3 : Sg, σ3 = si σ2 74 51 (gi σ2 74 0) → (∀ σ4 : Sg, σ4 = si σ3 74 52 (gi σ3 74 1) → (∀ σ5 : Sg, σ5 = si σ4 74 53 (gi σ4 74 41) → (∀ σ6 : Sg, σ6 = si σ5 74 54 (gi σ5 74 45) → (∀ σ7 : Sg, σ7 = si σ6 74 55 (gi σ6 74 46) → PS M 55 [(0, .ref 74), (1, .int (0 : Int32))] [] σ7 (0, 0))))))))) : PS M 0 [(0, .ref 74)] [] σ (0, 0) := by
  refine P_aload_n C dX12_image_0 0 rfl ?_
  refine P_iconst C dX12_image_1 (v := (1 : Int32)) rfl ?_
  refine P_putZ C pa_X12_image_159 kd_74 rfl (fxl fx_74) (by decide +kernel) (by decide +kernel) dX12_image_2 ?_
  refine P_nm (fun σ1 eσ1 => ?_)
  have h := h σ1 eσ1
  refine P_aload_n C dX12_image_5 0 rfl ?_
  refine P_aload_n C dX12_image_6 0 rfl ?_
  refine P_getI C fa_X12_image_47 kd_74 rfl (fxl fx_74) dX12_image_7 ?_
  refine P_putI C pa_X12_image_163 kd_74 rfl (fxl fx_74) dX12_image_10 ?_
  refine P_nm (fun σ2 eσ2 => ?_)
  have h := h σ2 eσ2
  refine P_aload_n C dX12_image_13 0 rfl ?_
  refine P_aload_n C dX12_image_14 0 rfl ?_
  refine P_getI C fa_X12_image_7 kd_74 rfl (fxl fx_74) dX12_image_15 ?_
  refine P_putI C pa_X12_image_166 kd_74 rfl (fxl fx_74) dX12_image_18 ?_
  refine P_nm (fun σ3 eσ3 => ?_)
  have h := h σ3 eσ3
  refine P_aload_n C dX12_image_21 0 rfl ?_
  refine P_aload_n C dX12_image_22 0 rfl ?_
  refine P_getI C fa_X12_image_13 kd_74 rfl (fxl fx_74) dX12_image_23 ?_
  refine P_putI C pa_X12_image_169 kd_74 rfl (fxl fx_74) dX12_image_26 ?_
  refine P_nm (fun σ4 eσ4 => ?_)
  have h := h σ4 eσ4
  refine P_aload_n C dX12_image_29 0 rfl ?_
  refine P_aload_n C dX12_image_30 0 rfl ?_
  refine P_getI C fa_X12_image_135 kd_74 rfl (fxl fx_74) dX12_image_31 ?_
  refine P_putI C pa_X12_image_172 kd_74 rfl (fxl fx_74) dX12_image_34 ?_
  refine P_nm (fun σ5 eσ5 => ?_)
  have h := h σ5 eσ5
  refine P_aload_n C dX12_image_37 0 rfl ?_
  refine P_aload_n C dX12_image_38 0 rfl ?_
  refine P_getI C fa_X12_image_147 kd_74 rfl (fxl fx_74) dX12_image_39 ?_
  refine P_putI C pa_X12_image_175 kd_74 rfl (fxl fx_74) dX12_image_42 ?_
  refine P_nm (fun σ6 eσ6 => ?_)
  have h := h σ6 eσ6
  refine P_aload_n C dX12_image_45 0 rfl ?_
  refine P_aload_n C dX12_image_46 0 rfl ?_
  refine P_getI C fa_X12_image_150 kd_74 rfl (fxl fx_74) dX12_image_47 ?_
  refine P_putI C pa_X12_image_178 kd_74 rfl (fxl fx_74) dX12_image_50 ?_
  refine P_nm (fun σ7 eσ7 => ?_)
  have h := h σ7 eσ7
  refine P_iconst C dX12_image_53 (v := (0 : Int32)) rfl ?_
  refine P_istore_n C dX12_image_54 (by rw [hN]; decide) rfl ?_
  exact P_sub [1, 0] rfl h
set_option maxRecDepth 100000 in
set_option maxHeartbeats 4000000 in
theorem s_X12_image_55 {M : Mx} {Qk : Int32 → Sg → Prop} (C : Cx M cX12_image (some .int) RX12 wsX12_image (rmz 0) 0 0 (QI (mV M) Qk)) (hN : mN M = 2) {x1 : Int32} {σ : Sg} (h : (((6 : Int32) ≤ x1 → PS M 189 [(0, .ref 74), (1, .int (0 : Int32))] [] σ (0, 0)) ∧ (¬ (6 : Int32) ≤ x1 → (vp_in x1 6 ∧ (vp_in x1 6 ∧ (∀ σ4 : Sg, σ4 = si σ 156 x1.toNatClampNeg (gi σ 103 x1.toNatClampNeg) → (vp_in x1 6 ∧ (vp_in x1 6 ∧ (∀ σ7 : Sg, σ7 = si σ4 157 x1.toNatClampNeg (gi σ4 104 x1.toNatClampNeg) → (vp_in x1 6 ∧ (vp_in x1 6 ∧ (∀ σ10 : Sg, σ10 = si σ7 158 x1.toNatClampNeg (gi σ7 105 x1.toNatClampNeg) → (vp_in x1 6 ∧ (vp_in x1 6 ∧ (∀ σ13 : Sg, σ13 = si σ10 159 x1.toNatClampNeg (gi σ10 106 x1.toNatClampNeg) → (vp_in x1 6 ∧ (vp_in x1 6 ∧ (∀ σ16 : Sg, σ16 = si σ13 160 x1.toNatClampNeg (gi σ13 107 x1.toNatClampNeg) → (vp_in x1 6 ∧ (vp_in x1 6 ∧ (∀ σ19 : Sg, σ19 = si σ16 161 x1.toNatClampNeg (gi σ16 108 x1.toNatClampNeg) → (vp_in x1 6 ∧ (vp_in x1 6 ∧ (∀ σ22 : Sg, σ22 = si σ19 162 x1.toNatClampNeg (gi σ19 110 x1.toNatClampNeg) → (vp_in x1 6 ∧ (vp_in x1 6 ∧ (∀ σ25 : Sg, σ25 = si σ22 164 x1.toNatClampNeg (gi σ22 142 x1.toNatClampNeg) → (vp_in x1 6 ∧ (vp_in x1 6 ∧ (∀ σ28 : Sg, σ28 = si σ25 165 x1.toNatClampNeg (gi σ25 143 x1.toNatClampNeg) → (vp_in x1 6 ∧ (vp_in x1 6 ∧ (∀ σ31 : Sg, σ31 = si σ28 166 x1.toNatClampNeg (gi σ28 144 x1.toNatClampNeg) → (∀ v32 : Int32, v32 = x1 + 1 → PS M 55 [(0, .ref 74), (1, .int v32)] [] σ31 (0, 0))))))))))))))))))))))))))))))))))) : PS M 55 [(0, .ref 74), (1, .int x1)] [] σ (0, 0) := by
  refine P_iload_n C dX12_image_55 1 rfl ?_
  refine P_bipush C dX12_image_56 (v := (6 : Int32)) rfl ?_
  refine P_icmp_ge C dX12_image_58 (tgt := 187) (by decide +kernel) (fun q1 => ?_) (fun q1 => ?_)
  · have h := h.1 q1
    refine P_iconst C dX12_image_187 (v := (0 : Int32)) rfl ?_
    refine P_istore_n C dX12_image_188 (by rw [hN]; decide) rfl ?_
    exact P_sub [1, 0] rfl h
  · have h := h.2 q1
    refine P_aload_n C dX12_image_61 0 rfl ?_
    refine P_getS C (e := 156) fa_X12_image_181 kd_74 (d := 82) rfl (fxl fx_74) rfl dX12_image_62 ?_
    refine P_iload_n C dX12_image_65 1 rfl ?_
    refine P_aload_n C dX12_image_66 0 rfl ?_
    refine P_getS C (e := 103) fa_X12_image_19 kd_74 (d := 29) rfl (fxl fx_74) rfl dX12_image_67 ?_
    refine P_iload_n C dX12_image_70 1 rfl ?_
    obtain ⟨hv2, h⟩ := h
    refine P_iald C kd_103 (fxl fx_103) hv2 dX12_image_71 ?_
    obtain ⟨hv3, h⟩ := h
    refine P_iast C kd_156 (fxl fx_156) hv3 dX12_image_72 ?_
    refine P_nm (fun σ4 eσ4 => ?_)
    have h := h σ4 eσ4
    refine P_aload_n C dX12_image_73 0 rfl ?_
    refine P_getS C (e := 157) fa_X12_image_184 kd_74 (d := 83) rfl (fxl fx_74) rfl dX12_image_74 ?_
    refine P_iload_n C dX12_image_77 1 rfl ?_
    refine P_aload_n C dX12_image_78 0 rfl ?_
    refine P_getS C (e := 104) fa_X12_image_23 kd_74 (d := 30) rfl (fxl fx_74) rfl dX12_image_79 ?_
    refine P_iload_n C dX12_image_82 1 rfl ?_
    obtain ⟨hv5, h⟩ := h
    refine P_iald C kd_104 (fxl fx_104) hv5 dX12_image_83 ?_
    obtain ⟨hv6, h⟩ := h
    refine P_iast C kd_157 (fxl fx_157) hv6 dX12_image_84 ?_
    refine P_nm (fun σ7 eσ7 => ?_)
    have h := h σ7 eσ7
    refine P_aload_n C dX12_image_85 0 rfl ?_
    refine P_getS C (e := 158) fa_X12_image_187 kd_74 (d := 84) rfl (fxl fx_74) rfl dX12_image_86 ?_
    refine P_iload_n C dX12_image_89 1 rfl ?_
    refine P_aload_n C dX12_image_90 0 rfl ?_
    refine P_getS C (e := 105) fa_X12_image_26 kd_74 (d := 31) rfl (fxl fx_74) rfl dX12_image_91 ?_
    refine P_iload_n C dX12_image_94 1 rfl ?_
    obtain ⟨hv8, h⟩ := h
    refine P_iald C kd_105 (fxl fx_105) hv8 dX12_image_95 ?_
    obtain ⟨hv9, h⟩ := h
    refine P_iast C kd_158 (fxl fx_158) hv9 dX12_image_96 ?_
    refine P_nm (fun σ10 eσ10 => ?_)
    have h := h σ10 eσ10
    refine P_aload_n C dX12_image_97 0 rfl ?_
    refine P_getS C (e := 159) fa_X12_image_190 kd_74 (d := 85) rfl (fxl fx_74) rfl dX12_image_98 ?_
    refine P_iload_n C dX12_image_101 1 rfl ?_
    refine P_aload_n C dX12_image_102 0 rfl ?_
    refine P_getS C (e := 106) fa_X12_image_29 kd_74 (d := 32) rfl (fxl fx_74) rfl dX12_image_103 ?_
    refine P_iload_n C dX12_image_106 1 rfl ?_
    obtain ⟨hv11, h⟩ := h
    refine P_iald C kd_106 (fxl fx_106) hv11 dX12_image_107 ?_
    obtain ⟨hv12, h⟩ := h
    refine P_iast C kd_159 (fxl fx_159) hv12 dX12_image_108 ?_
    refine P_nm (fun σ13 eσ13 => ?_)
    have h := h σ13 eσ13
    refine P_aload_n C dX12_image_109 0 rfl ?_
    refine P_getS C (e := 160) fa_X12_image_193 kd_74 (d := 86) rfl (fxl fx_74) rfl dX12_image_110 ?_
    refine P_iload_n C dX12_image_113 1 rfl ?_
    refine P_aload_n C dX12_image_114 0 rfl ?_
    refine P_getS C (e := 107) fa_X12_image_32 kd_74 (d := 33) rfl (fxl fx_74) rfl dX12_image_115 ?_
    refine P_iload_n C dX12_image_118 1 rfl ?_
    obtain ⟨hv14, h⟩ := h
    refine P_iald C kd_107 (fxl fx_107) hv14 dX12_image_119 ?_
    obtain ⟨hv15, h⟩ := h
    refine P_iast C kd_160 (fxl fx_160) hv15 dX12_image_120 ?_
    refine P_nm (fun σ16 eσ16 => ?_)
    have h := h σ16 eσ16
    refine P_aload_n C dX12_image_121 0 rfl ?_
    refine P_getS C (e := 161) fa_X12_image_196 kd_74 (d := 87) rfl (fxl fx_74) rfl dX12_image_122 ?_
    refine P_iload_n C dX12_image_125 1 rfl ?_
    refine P_aload_n C dX12_image_126 0 rfl ?_
    refine P_getS C (e := 108) fa_X12_image_35 kd_74 (d := 34) rfl (fxl fx_74) rfl dX12_image_127 ?_
    refine P_iload_n C dX12_image_130 1 rfl ?_
    obtain ⟨hv17, h⟩ := h
    refine P_iald C kd_108 (fxl fx_108) hv17 dX12_image_131 ?_
    obtain ⟨hv18, h⟩ := h
    refine P_iast C kd_161 (fxl fx_161) hv18 dX12_image_132 ?_
    refine P_nm (fun σ19 eσ19 => ?_)
    have h := h σ19 eσ19
    refine P_aload_n C dX12_image_133 0 rfl ?_
    refine P_getS C (e := 162) fa_X12_image_199 kd_74 (d := 88) rfl (fxl fx_74) rfl dX12_image_134 ?_
    refine P_iload_n C dX12_image_137 1 rfl ?_
    refine P_aload_n C dX12_image_138 0 rfl ?_
    refine P_getS C (e := 110) fa_X12_image_41 kd_74 (d := 36) rfl (fxl fx_74) rfl dX12_image_139 ?_
    refine P_iload_n C dX12_image_142 1 rfl ?_
    obtain ⟨hv20, h⟩ := h
    refine P_iald C kd_110 (fxl fx_110) hv20 dX12_image_143 ?_
    obtain ⟨hv21, h⟩ := h
    refine P_iast C kd_162 (fxl fx_162) hv21 dX12_image_144 ?_
    refine P_nm (fun σ22 eσ22 => ?_)
    have h := h σ22 eσ22
    refine P_aload_n C dX12_image_145 0 rfl ?_
    refine P_getS C (e := 164) fa_X12_image_205 kd_74 (d := 90) rfl (fxl fx_74) rfl dX12_image_146 ?_
    refine P_iload_n C dX12_image_149 1 rfl ?_
    refine P_aload_n C dX12_image_150 0 rfl ?_
    refine P_getS C (e := 142) fa_X12_image_138 kd_74 (d := 68) rfl (fxl fx_74) rfl dX12_image_151 ?_
    refine P_iload_n C dX12_image_154 1 rfl ?_
    obtain ⟨hv23, h⟩ := h
    refine P_iald C kd_142 (fxl fx_142) hv23 dX12_image_155 ?_
    obtain ⟨hv24, h⟩ := h
    refine P_iast C kd_164 (fxl fx_164) hv24 dX12_image_156 ?_
    refine P_nm (fun σ25 eσ25 => ?_)
    have h := h σ25 eσ25
    refine P_aload_n C dX12_image_157 0 rfl ?_
    refine P_getS C (e := 165) fa_X12_image_208 kd_74 (d := 91) rfl (fxl fx_74) rfl dX12_image_158 ?_
    refine P_iload_n C dX12_image_161 1 rfl ?_
    refine P_aload_n C dX12_image_162 0 rfl ?_
    refine P_getS C (e := 143) fa_X12_image_141 kd_74 (d := 69) rfl (fxl fx_74) rfl dX12_image_163 ?_
    refine P_iload_n C dX12_image_166 1 rfl ?_
    obtain ⟨hv26, h⟩ := h
    refine P_iald C kd_143 (fxl fx_143) hv26 dX12_image_167 ?_
    obtain ⟨hv27, h⟩ := h
    refine P_iast C kd_165 (fxl fx_165) hv27 dX12_image_168 ?_
    refine P_nm (fun σ28 eσ28 => ?_)
    have h := h σ28 eσ28
    refine P_aload_n C dX12_image_169 0 rfl ?_
    refine P_getS C (e := 166) fa_X12_image_211 kd_74 (d := 92) rfl (fxl fx_74) rfl dX12_image_170 ?_
    refine P_iload_n C dX12_image_173 1 rfl ?_
    refine P_aload_n C dX12_image_174 0 rfl ?_
    refine P_getS C (e := 144) fa_X12_image_144 kd_74 (d := 70) rfl (fxl fx_74) rfl dX12_image_175 ?_
    refine P_iload_n C dX12_image_178 1 rfl ?_
    obtain ⟨hv29, h⟩ := h
    refine P_iald C kd_144 (fxl fx_144) hv29 dX12_image_179 ?_
    obtain ⟨hv30, h⟩ := h
    refine P_iast C kd_166 (fxl fx_166) hv30 dX12_image_180 ?_
    refine P_nm (fun σ31 eσ31 => ?_)
    have h := h σ31 eσ31
    obtain ⟨v32, ev32⟩ : ∃ v : Int32, v = x1 + 1 := ⟨_, rfl⟩
    have h := h v32 ev32
    refine P_iinc (v := v32) C dX12_image_181 1 rfl (by rw [ev32]; rfl) (by rw [hN]; decide) rfl ?_
    refine P_goto C dX12_image_184 (tgt := 55) (by decide +kernel) ?_
    exact P_sub [1, 0] rfl h
set_option maxRecDepth 100000 in
set_option maxHeartbeats 4000000 in
theorem s_X12_image_189 {M : Mx} {Qk : Int32 → Sg → Prop} (C : Cx M cX12_image (some .int) RX12 wsX12_image (rmz 0) 0 0 (QI (mV M) Qk)) (hN : mN M = 2) {x1 : Int32} {σ : Sg} (h : (((24 : Int32) ≤ x1 → PS M 215 [(0, .ref 74), (1, .int (0 : Int32))] [] σ (0, 0)) ∧ (¬ (24 : Int32) ≤ x1 → (vp_in x1 24 ∧ (vp_in x1 24 ∧ (∀ σ4 : Sg, σ4 = si σ 163 x1.toNatClampNeg (gi σ 109 x1.toNatClampNeg) → (∀ v5 : Int32, v5 = x1 + 1 → PS M 189 [(0, .ref 74), (1, .int v5)] [] σ4 (0, 0)))))))) : PS M 189 [(0, .ref 74), (1, .int x1)] [] σ (0, 0) := by
  refine P_iload_n C dX12_image_189 1 rfl ?_
  refine P_bipush C dX12_image_190 (v := (24 : Int32)) rfl ?_
  refine P_icmp_ge C dX12_image_192 (tgt := 213) (by decide +kernel) (fun q1 => ?_) (fun q1 => ?_)
  · have h := h.1 q1
    refine P_iconst C dX12_image_213 (v := (0 : Int32)) rfl ?_
    refine P_istore_n C dX12_image_214 (by rw [hN]; decide) rfl ?_
    exact P_sub [1, 0] rfl h
  · have h := h.2 q1
    refine P_aload_n C dX12_image_195 0 rfl ?_
    refine P_getS C (e := 163) fa_X12_image_202 kd_74 (d := 89) rfl (fxl fx_74) rfl dX12_image_196 ?_
    refine P_iload_n C dX12_image_199 1 rfl ?_
    refine P_aload_n C dX12_image_200 0 rfl ?_
    refine P_getS C (e := 109) fa_X12_image_38 kd_74 (d := 35) rfl (fxl fx_74) rfl dX12_image_201 ?_
    refine P_iload_n C dX12_image_204 1 rfl ?_
    obtain ⟨hv2, h⟩ := h
    refine P_iald C kd_109 (fxl fx_109) hv2 dX12_image_205 ?_
    obtain ⟨hv3, h⟩ := h
    refine P_iast C kd_163 (fxl fx_163) hv3 dX12_image_206 ?_
    refine P_nm (fun σ4 eσ4 => ?_)
    have h := h σ4 eσ4
    obtain ⟨v5, ev5⟩ : ∃ v : Int32, v = x1 + 1 := ⟨_, rfl⟩
    have h := h v5 ev5
    refine P_iinc (v := v5) C dX12_image_207 1 rfl (by rw [ev5]; rfl) (by rw [hN]; decide) rfl ?_
    refine P_goto C dX12_image_210 (tgt := 189) (by decide +kernel) ?_
    exact P_sub [1, 0] rfl h
set_option maxRecDepth 100000 in
set_option maxHeartbeats 4000000 in
theorem s_X12_image_215 {M : Mx} {Qk : Int32 → Sg → Prop} (C : Cx M cX12_image (some .int) RX12 wsX12_image (rmz 0) 0 0 (QI (mV M) Qk)) (hN : mN M = 2) {x1 : Int32} {σ : Sg} (h : (((10 : Int32) ≤ x1 → PS M 241 [(0, .ref 74), (1, .int (0 : Int32))] [] σ (0, 0)) ∧ (¬ (10 : Int32) ≤ x1 → (vp_in x1 10 ∧ (vp_in x1 10 ∧ (∀ σ4 : Sg, σ4 = si σ 167 x1.toNatClampNeg (gi σ 147 x1.toNatClampNeg) → (∀ v5 : Int32, v5 = x1 + 1 → PS M 215 [(0, .ref 74), (1, .int v5)] [] σ4 (0, 0)))))))) : PS M 215 [(0, .ref 74), (1, .int x1)] [] σ (0, 0) := by
  refine P_iload_n C dX12_image_215 1 rfl ?_
  refine P_bipush C dX12_image_216 (v := (10 : Int32)) rfl ?_
  refine P_icmp_ge C dX12_image_218 (tgt := 239) (by decide +kernel) (fun q1 => ?_) (fun q1 => ?_)
  · have h := h.1 q1
    refine P_iconst C dX12_image_239 (v := (0 : Int32)) rfl ?_
    refine P_istore_n C dX12_image_240 (by rw [hN]; decide) rfl ?_
    exact P_sub [1, 0] rfl h
  · have h := h.2 q1
    refine P_aload_n C dX12_image_221 0 rfl ?_
    refine P_getS C (e := 167) fa_X12_image_214 kd_74 (d := 93) rfl (fxl fx_74) rfl dX12_image_222 ?_
    refine P_iload_n C dX12_image_225 1 rfl ?_
    refine P_aload_n C dX12_image_226 0 rfl ?_
    refine P_getS C (e := 147) fa_X12_image_153 kd_74 (d := 73) rfl (fxl fx_74) rfl dX12_image_227 ?_
    refine P_iload_n C dX12_image_230 1 rfl ?_
    obtain ⟨hv2, h⟩ := h
    refine P_iald C kd_147 (fxl fx_147) hv2 dX12_image_231 ?_
    obtain ⟨hv3, h⟩ := h
    refine P_iast C kd_167 (fxl fx_167) hv3 dX12_image_232 ?_
    refine P_nm (fun σ4 eσ4 => ?_)
    have h := h σ4 eσ4
    obtain ⟨v5, ev5⟩ : ∃ v : Int32, v = x1 + 1 := ⟨_, rfl⟩
    have h := h v5 ev5
    refine P_iinc (v := v5) C dX12_image_233 1 rfl (by rw [ev5]; rfl) (by rw [hN]; decide) rfl ?_
    refine P_goto C dX12_image_236 (tgt := 215) (by decide +kernel) ?_
    exact P_sub [1, 0] rfl h
set_option maxRecDepth 100000 in
set_option maxHeartbeats 4000000 in
theorem s_X12_image_241 {M : Mx} {Qk : Int32 → Sg → Prop} (C : Cx M cX12_image (some .int) RX12 wsX12_image (rmz 0) 0 0 (QI (mV M) Qk)) (hN : mN M = 2) {x1 : Int32} {σ : Sg} (h : (((8 : Int32) ≤ x1 → Qk (gi σ 74 0) σ) ∧ (¬ (8 : Int32) ≤ x1 → (vp_in x1 8 ∧ (vp_in x1 8 ∧ (∀ σ4 : Sg, σ4 = si σ 168 x1.toNatClampNeg (gi σ 148 x1.toNatClampNeg) → (∀ v5 : Int32, v5 = x1 + 1 → PS M 241 [(0, .ref 74), (1, .int v5)] [] σ4 (0, 0)))))))) : PS M 241 [(0, .ref 74), (1, .int x1)] [] σ (0, 0) := by
  refine P_iload_n C dX12_image_241 1 rfl ?_
  refine P_bipush C dX12_image_242 (v := (8 : Int32)) rfl ?_
  refine P_icmp_ge C dX12_image_244 (tgt := 265) (by decide +kernel) (fun q1 => ?_) (fun q1 => ?_)
  · have h := h.1 q1
    refine P_aload_n C dX12_image_265 0 rfl ?_
    refine P_getI C fa_X12_image_7 kd_74 rfl (fxl fx_74) dX12_image_266 ?_
    exact P_iret C dX12_image_269 h
  · have h := h.2 q1
    refine P_aload_n C dX12_image_247 0 rfl ?_
    refine P_getS C (e := 168) fa_X12_image_217 kd_74 (d := 94) rfl (fxl fx_74) rfl dX12_image_248 ?_
    refine P_iload_n C dX12_image_251 1 rfl ?_
    refine P_aload_n C dX12_image_252 0 rfl ?_
    refine P_getS C (e := 148) fa_X12_image_156 kd_74 (d := 74) rfl (fxl fx_74) rfl dX12_image_253 ?_
    refine P_iload_n C dX12_image_256 1 rfl ?_
    obtain ⟨hv2, h⟩ := h
    refine P_iald C kd_148 (fxl fx_148) hv2 dX12_image_257 ?_
    obtain ⟨hv3, h⟩ := h
    refine P_iast C kd_168 (fxl fx_168) hv3 dX12_image_258 ?_
    refine P_nm (fun σ4 eσ4 => ?_)
    have h := h σ4 eσ4
    obtain ⟨v5, ev5⟩ : ∃ v : Int32, v = x1 + 1 := ⟨_, rfl⟩
    have h := h v5 ev5
    refine P_iinc (v := v5) C dX12_image_259 1 rfl (by rw [ev5]; rfl) (by rw [hN]; decide) rfl ?_
    refine P_goto C dX12_image_262 (tgt := 241) (by decide +kernel) ?_
    exact P_sub [1, 0] rfl h
theorem fa_X12_undo_159 : FA RX12 wsX12_undo 159 12 49 "NineMowersModel" := by
  show _ ∧ _ ∧ _ ∧ _
  exact ⟨by decide +kernel, fun _ h => List.mem_cons_of_mem _ (List.mem_append_right _ h), List.mem_of_getElem? (i := 1) rfl, Or.inl rfl⟩
theorem fa_X12_undo_163 : FA RX12 wsX12_undo 163 12 50 "NineMowersModel" := by
  show _ ∧ _ ∧ _ ∧ _
  exact ⟨by decide +kernel, fun _ h => List.mem_cons_of_mem _ (List.mem_append_right _ h), List.mem_of_getElem? (i := 2) rfl, Or.inl rfl⟩
theorem pa_X12_undo_47 : PA RX12 wsX12_undo 47 12 12 "NineMowersModel" .int := by
  show _ ∧ _ ∧ _ ∧ _ ∧ _ ∧ _ ∧ _ ∧ _
  exact ⟨by decide +kernel, fun _ h => List.mem_cons_of_mem _ (List.mem_append_right _ h), List.mem_of_getElem? (i := 3) rfl, rfl, rfl, by decide +kernel, ⟨tyX12, tyX12_ok⟩, nmX12⟩
theorem fa_X12_undo_166 : FA RX12 wsX12_undo 166 12 51 "NineMowersModel" := by
  show _ ∧ _ ∧ _ ∧ _
  exact ⟨by decide +kernel, fun _ h => List.mem_cons_of_mem _ (List.mem_append_right _ h), List.mem_of_getElem? (i := 4) rfl, Or.inl rfl⟩
theorem pa_X12_undo_7 : PA RX12 wsX12_undo 7 12 0 "NineMowersModel" .int := by
  show _ ∧ _ ∧ _ ∧ _ ∧ _ ∧ _ ∧ _ ∧ _
  exact ⟨by decide +kernel, fun _ h => List.mem_cons_of_mem _ (List.mem_append_right _ h), List.mem_of_getElem? (i := 5) rfl, rfl, rfl, by decide +kernel, ⟨tyX12, tyX12_ok⟩, nmX12⟩
theorem pa_X12_undo_16 : PA RX12 wsX12_undo 16 12 2 "NineMowersModel" .int := by
  show _ ∧ _ ∧ _ ∧ _ ∧ _ ∧ _ ∧ _ ∧ _
  exact ⟨by decide +kernel, fun _ h => List.mem_cons_of_mem _ (List.mem_append_right _ h), List.mem_of_getElem? (i := 6) rfl, rfl, rfl, by decide +kernel, ⟨tyX12, tyX12_ok⟩, nmX12⟩
theorem fa_X12_undo_169 : FA RX12 wsX12_undo 169 12 52 "NineMowersModel" := by
  show _ ∧ _ ∧ _ ∧ _
  exact ⟨by decide +kernel, fun _ h => List.mem_cons_of_mem _ (List.mem_append_right _ h), List.mem_of_getElem? (i := 7) rfl, Or.inl rfl⟩
theorem pa_X12_undo_13 : PA RX12 wsX12_undo 13 12 1 "NineMowersModel" .int := by
  show _ ∧ _ ∧ _ ∧ _ ∧ _ ∧ _ ∧ _ ∧ _
  exact ⟨by decide +kernel, fun _ h => List.mem_cons_of_mem _ (List.mem_append_right _ h), List.mem_of_getElem? (i := 8) rfl, rfl, rfl, by decide +kernel, ⟨tyX12, tyX12_ok⟩, nmX12⟩
theorem fa_X12_undo_172 : FA RX12 wsX12_undo 172 12 53 "NineMowersModel" := by
  show _ ∧ _ ∧ _ ∧ _
  exact ⟨by decide +kernel, fun _ h => List.mem_cons_of_mem _ (List.mem_append_right _ h), List.mem_of_getElem? (i := 9) rfl, Or.inl rfl⟩
theorem pa_X12_undo_135 : PA RX12 wsX12_undo 135 12 41 "NineMowersModel" .int := by
  show _ ∧ _ ∧ _ ∧ _ ∧ _ ∧ _ ∧ _ ∧ _
  exact ⟨by decide +kernel, fun _ h => List.mem_cons_of_mem _ (List.mem_append_right _ h), List.mem_of_getElem? (i := 10) rfl, rfl, rfl, by decide +kernel, ⟨tyX12, tyX12_ok⟩, nmX12⟩
theorem fa_X12_undo_175 : FA RX12 wsX12_undo 175 12 54 "NineMowersModel" := by
  show _ ∧ _ ∧ _ ∧ _
  exact ⟨by decide +kernel, fun _ h => List.mem_cons_of_mem _ (List.mem_append_right _ h), List.mem_of_getElem? (i := 11) rfl, Or.inl rfl⟩
theorem pa_X12_undo_147 : PA RX12 wsX12_undo 147 12 45 "NineMowersModel" .int := by
  show _ ∧ _ ∧ _ ∧ _ ∧ _ ∧ _ ∧ _ ∧ _
  exact ⟨by decide +kernel, fun _ h => List.mem_cons_of_mem _ (List.mem_append_right _ h), List.mem_of_getElem? (i := 12) rfl, rfl, rfl, by decide +kernel, ⟨tyX12, tyX12_ok⟩, nmX12⟩
theorem fa_X12_undo_178 : FA RX12 wsX12_undo 178 12 55 "NineMowersModel" := by
  show _ ∧ _ ∧ _ ∧ _
  exact ⟨by decide +kernel, fun _ h => List.mem_cons_of_mem _ (List.mem_append_right _ h), List.mem_of_getElem? (i := 13) rfl, Or.inl rfl⟩
theorem pa_X12_undo_150 : PA RX12 wsX12_undo 150 12 46 "NineMowersModel" .int := by
  show _ ∧ _ ∧ _ ∧ _ ∧ _ ∧ _ ∧ _ ∧ _
  exact ⟨by decide +kernel, fun _ h => List.mem_cons_of_mem _ (List.mem_append_right _ h), List.mem_of_getElem? (i := 14) rfl, rfl, rfl, by decide +kernel, ⟨tyX12, tyX12_ok⟩, nmX12⟩
theorem fa_X12_undo_19 : FA RX12 wsX12_undo 19 12 3 "NineMowersModel" := by
  show _ ∧ _ ∧ _ ∧ _
  exact ⟨by decide +kernel, fun _ h => List.mem_cons_of_mem _ (List.mem_append_right _ h), List.mem_of_getElem? (i := 15) rfl, Or.inl rfl⟩
theorem fa_X12_undo_181 : FA RX12 wsX12_undo 181 12 56 "NineMowersModel" := by
  show _ ∧ _ ∧ _ ∧ _
  exact ⟨by decide +kernel, fun _ h => List.mem_cons_of_mem _ (List.mem_append_right _ h), List.mem_of_getElem? (i := 16) rfl, Or.inl rfl⟩
theorem fa_X12_undo_23 : FA RX12 wsX12_undo 23 12 4 "NineMowersModel" := by
  show _ ∧ _ ∧ _ ∧ _
  exact ⟨by decide +kernel, fun _ h => List.mem_cons_of_mem _ (List.mem_append_right _ h), List.mem_of_getElem? (i := 17) rfl, Or.inl rfl⟩
theorem fa_X12_undo_184 : FA RX12 wsX12_undo 184 12 57 "NineMowersModel" := by
  show _ ∧ _ ∧ _ ∧ _
  exact ⟨by decide +kernel, fun _ h => List.mem_cons_of_mem _ (List.mem_append_right _ h), List.mem_of_getElem? (i := 18) rfl, Or.inl rfl⟩
theorem fa_X12_undo_26 : FA RX12 wsX12_undo 26 12 5 "NineMowersModel" := by
  show _ ∧ _ ∧ _ ∧ _
  exact ⟨by decide +kernel, fun _ h => List.mem_cons_of_mem _ (List.mem_append_right _ h), List.mem_of_getElem? (i := 19) rfl, Or.inl rfl⟩
theorem fa_X12_undo_187 : FA RX12 wsX12_undo 187 12 58 "NineMowersModel" := by
  show _ ∧ _ ∧ _ ∧ _
  exact ⟨by decide +kernel, fun _ h => List.mem_cons_of_mem _ (List.mem_append_right _ h), List.mem_of_getElem? (i := 20) rfl, Or.inl rfl⟩
theorem fa_X12_undo_29 : FA RX12 wsX12_undo 29 12 6 "NineMowersModel" := by
  show _ ∧ _ ∧ _ ∧ _
  exact ⟨by decide +kernel, fun _ h => List.mem_cons_of_mem _ (List.mem_append_right _ h), List.mem_of_getElem? (i := 21) rfl, Or.inl rfl⟩
theorem fa_X12_undo_190 : FA RX12 wsX12_undo 190 12 59 "NineMowersModel" := by
  show _ ∧ _ ∧ _ ∧ _
  exact ⟨by decide +kernel, fun _ h => List.mem_cons_of_mem _ (List.mem_append_right _ h), List.mem_of_getElem? (i := 22) rfl, Or.inl rfl⟩
theorem fa_X12_undo_32 : FA RX12 wsX12_undo 32 12 7 "NineMowersModel" := by
  show _ ∧ _ ∧ _ ∧ _
  exact ⟨by decide +kernel, fun _ h => List.mem_cons_of_mem _ (List.mem_append_right _ h), List.mem_of_getElem? (i := 23) rfl, Or.inl rfl⟩
theorem fa_X12_undo_193 : FA RX12 wsX12_undo 193 12 60 "NineMowersModel" := by
  show _ ∧ _ ∧ _ ∧ _
  exact ⟨by decide +kernel, fun _ h => List.mem_cons_of_mem _ (List.mem_append_right _ h), List.mem_of_getElem? (i := 24) rfl, Or.inl rfl⟩
theorem fa_X12_undo_35 : FA RX12 wsX12_undo 35 12 8 "NineMowersModel" := by
  show _ ∧ _ ∧ _ ∧ _
  exact ⟨by decide +kernel, fun _ h => List.mem_cons_of_mem _ (List.mem_append_right _ h), List.mem_of_getElem? (i := 25) rfl, Or.inl rfl⟩
theorem fa_X12_undo_196 : FA RX12 wsX12_undo 196 12 61 "NineMowersModel" := by
  show _ ∧ _ ∧ _ ∧ _
  exact ⟨by decide +kernel, fun _ h => List.mem_cons_of_mem _ (List.mem_append_right _ h), List.mem_of_getElem? (i := 26) rfl, Or.inl rfl⟩
theorem fa_X12_undo_41 : FA RX12 wsX12_undo 41 12 10 "NineMowersModel" := by
  show _ ∧ _ ∧ _ ∧ _
  exact ⟨by decide +kernel, fun _ h => List.mem_cons_of_mem _ (List.mem_append_right _ h), List.mem_of_getElem? (i := 27) rfl, Or.inl rfl⟩
theorem fa_X12_undo_199 : FA RX12 wsX12_undo 199 12 62 "NineMowersModel" := by
  show _ ∧ _ ∧ _ ∧ _
  exact ⟨by decide +kernel, fun _ h => List.mem_cons_of_mem _ (List.mem_append_right _ h), List.mem_of_getElem? (i := 28) rfl, Or.inl rfl⟩
theorem fa_X12_undo_138 : FA RX12 wsX12_undo 138 12 42 "NineMowersModel" := by
  show _ ∧ _ ∧ _ ∧ _
  exact ⟨by decide +kernel, fun _ h => List.mem_cons_of_mem _ (List.mem_append_right _ h), List.mem_of_getElem? (i := 29) rfl, Or.inl rfl⟩
theorem fa_X12_undo_205 : FA RX12 wsX12_undo 205 12 64 "NineMowersModel" := by
  show _ ∧ _ ∧ _ ∧ _
  exact ⟨by decide +kernel, fun _ h => List.mem_cons_of_mem _ (List.mem_append_right _ h), List.mem_of_getElem? (i := 30) rfl, Or.inl rfl⟩
theorem fa_X12_undo_141 : FA RX12 wsX12_undo 141 12 43 "NineMowersModel" := by
  show _ ∧ _ ∧ _ ∧ _
  exact ⟨by decide +kernel, fun _ h => List.mem_cons_of_mem _ (List.mem_append_right _ h), List.mem_of_getElem? (i := 31) rfl, Or.inl rfl⟩
theorem fa_X12_undo_208 : FA RX12 wsX12_undo 208 12 65 "NineMowersModel" := by
  show _ ∧ _ ∧ _ ∧ _
  exact ⟨by decide +kernel, fun _ h => List.mem_cons_of_mem _ (List.mem_append_right _ h), List.mem_of_getElem? (i := 32) rfl, Or.inl rfl⟩
theorem fa_X12_undo_144 : FA RX12 wsX12_undo 144 12 44 "NineMowersModel" := by
  show _ ∧ _ ∧ _ ∧ _
  exact ⟨by decide +kernel, fun _ h => List.mem_cons_of_mem _ (List.mem_append_right _ h), List.mem_of_getElem? (i := 33) rfl, Or.inl rfl⟩
theorem fa_X12_undo_211 : FA RX12 wsX12_undo 211 12 66 "NineMowersModel" := by
  show _ ∧ _ ∧ _ ∧ _
  exact ⟨by decide +kernel, fun _ h => List.mem_cons_of_mem _ (List.mem_append_right _ h), List.mem_of_getElem? (i := 34) rfl, Or.inl rfl⟩
theorem fa_X12_undo_38 : FA RX12 wsX12_undo 38 12 9 "NineMowersModel" := by
  show _ ∧ _ ∧ _ ∧ _
  exact ⟨by decide +kernel, fun _ h => List.mem_cons_of_mem _ (List.mem_append_right _ h), List.mem_of_getElem? (i := 35) rfl, Or.inl rfl⟩
theorem fa_X12_undo_202 : FA RX12 wsX12_undo 202 12 63 "NineMowersModel" := by
  show _ ∧ _ ∧ _ ∧ _
  exact ⟨by decide +kernel, fun _ h => List.mem_cons_of_mem _ (List.mem_append_right _ h), List.mem_of_getElem? (i := 36) rfl, Or.inl rfl⟩
theorem fa_X12_undo_153 : FA RX12 wsX12_undo 153 12 47 "NineMowersModel" := by
  show _ ∧ _ ∧ _ ∧ _
  exact ⟨by decide +kernel, fun _ h => List.mem_cons_of_mem _ (List.mem_append_right _ h), List.mem_of_getElem? (i := 37) rfl, Or.inl rfl⟩
theorem fa_X12_undo_214 : FA RX12 wsX12_undo 214 12 67 "NineMowersModel" := by
  show _ ∧ _ ∧ _ ∧ _
  exact ⟨by decide +kernel, fun _ h => List.mem_cons_of_mem _ (List.mem_append_right _ h), List.mem_of_getElem? (i := 38) rfl, Or.inl rfl⟩
theorem fa_X12_undo_7 : FA RX12 wsX12_undo 7 12 0 "NineMowersModel" := by
  show _ ∧ _ ∧ _ ∧ _
  exact ⟨by decide +kernel, fun _ h => List.mem_cons_of_mem _ (List.mem_append_right _ h), List.mem_of_getElem? (i := 5) rfl, Or.inl rfl⟩
theorem fa_X12_undo_156 : FA RX12 wsX12_undo 156 12 48 "NineMowersModel" := by
  show _ ∧ _ ∧ _ ∧ _
  exact ⟨by decide +kernel, fun _ h => List.mem_cons_of_mem _ (List.mem_append_right _ h), List.mem_of_getElem? (i := 39) rfl, Or.inl rfl⟩
theorem fa_X12_undo_217 : FA RX12 wsX12_undo 217 12 68 "NineMowersModel" := by
  show _ ∧ _ ∧ _ ∧ _
  exact ⟨by decide +kernel, fun _ h => List.mem_cons_of_mem _ (List.mem_append_right _ h), List.mem_of_getElem? (i := 40) rfl, Or.inl rfl⟩
noncomputable def K_X12_undo (l : Launch) (V : Vx) (σ : Sg) (Qk : Int32 → Sg → Prop) : Prop := Ka l V yX12_undo wsX12_undo (rmz 0) 0 0 [.ref 74] σ (QI V Qk)
theorem e_X12_undo {l : Launch} {V : Vx} {σ : Sg} {Qk : Int32 → Sg → Prop} (h : ∀ M : Mx, mL M = l → mV M = V → mN M = 2 → Cx M cX12_undo (some .int) RX12 wsX12_undo (rmz 0) 0 0 (QI (mV M) Qk) → PS M 0 [(0, .ref 74)] [] σ (0, 0)) : K_X12_undo l V σ Qk :=
  Ka_of (by decide +kernel) rfl rfl (Nat.le_of_ble_eq_true rfl) (fun M h1 h2 h3 C => h M h1 h2 h3 (by rw [h2]; exact C))
set_option maxRecDepth 100000 in
set_option maxHeartbeats 4000000 in
theorem s_X12_undo_0 {M : Mx} {Qk : Int32 → Sg → Prop} (C : Cx M cX12_undo (some .int) RX12 wsX12_undo (rmz 0) 0 0 (QI (mV M) Qk)) (hN : mN M = 2) {σ : Sg} (h : ((¬ (gi σ 74 49) = 0 → (∀ σ2 : Sg, σ2 = si σ 74 12 (gi σ 74 50) → (∀ σ3 : Sg, σ3 = si σ2 74 0 (gi σ2 74 51) → (∀ σ4 : Sg, σ4 = si σ3 74 2 (gi σ3 74 51) → (∀ σ5 : Sg, σ5 = si σ4 74 1 (gi σ4 74 52) → (∀ σ6 : Sg, σ6 = si σ5 74 41 (gi σ5 74 53) → (∀ σ7 : Sg, σ7 = si σ6 74 45 (gi σ6 74 54) → (∀ σ8 : Sg, σ8 = si σ7 74 46 (gi σ7 74 55) → PS M 68 [(0, .ref 74), (1, .int (0 : Int32))] [] σ8 (0, 0))))))))) ∧ ((gi σ 74 49) = 0 → Qk (-3 : Int32) σ))) : PS M 0 [(0, .ref 74)] [] σ (0, 0) := by
  refine P_aload_n C dX12_undo_0 0 rfl ?_
  refine P_getI C fa_X12_undo_159 kd_74 rfl (fxl fx_74) dX12_undo_1 ?_
  refine P_if_ne C dX12_undo_4 (tgt := 10) (by decide +kernel) (fun q1 => ?_) (fun q1 => ?_)
  · have h := h.1 q1
    refine P_aload_n C dX12_undo_10 0 rfl ?_
    refine P_aload_n C dX12_undo_11 0 rfl ?_
    refine P_getI C fa_X12_undo_163 kd_74 rfl (fxl fx_74) dX12_undo_12 ?_
    refine P_putI C pa_X12_undo_47 kd_74 rfl (fxl fx_74) dX12_undo_15 ?_
    refine P_nm (fun σ2 eσ2 => ?_)
    have h := h σ2 eσ2
    refine P_aload_n C dX12_undo_18 0 rfl ?_
    refine P_aload_n C dX12_undo_19 0 rfl ?_
    refine P_getI C fa_X12_undo_166 kd_74 rfl (fxl fx_74) dX12_undo_20 ?_
    refine P_putI C pa_X12_undo_7 kd_74 rfl (fxl fx_74) dX12_undo_23 ?_
    refine P_nm (fun σ3 eσ3 => ?_)
    have h := h σ3 eσ3
    refine P_aload_n C dX12_undo_26 0 rfl ?_
    refine P_aload_n C dX12_undo_27 0 rfl ?_
    refine P_getI C fa_X12_undo_166 kd_74 rfl (fxl fx_74) dX12_undo_28 ?_
    refine P_putI C pa_X12_undo_16 kd_74 rfl (fxl fx_74) dX12_undo_31 ?_
    refine P_nm (fun σ4 eσ4 => ?_)
    have h := h σ4 eσ4
    refine P_aload_n C dX12_undo_34 0 rfl ?_
    refine P_aload_n C dX12_undo_35 0 rfl ?_
    refine P_getI C fa_X12_undo_169 kd_74 rfl (fxl fx_74) dX12_undo_36 ?_
    refine P_putI C pa_X12_undo_13 kd_74 rfl (fxl fx_74) dX12_undo_39 ?_
    refine P_nm (fun σ5 eσ5 => ?_)
    have h := h σ5 eσ5
    refine P_aload_n C dX12_undo_42 0 rfl ?_
    refine P_aload_n C dX12_undo_43 0 rfl ?_
    refine P_getI C fa_X12_undo_172 kd_74 rfl (fxl fx_74) dX12_undo_44 ?_
    refine P_putI C pa_X12_undo_135 kd_74 rfl (fxl fx_74) dX12_undo_47 ?_
    refine P_nm (fun σ6 eσ6 => ?_)
    have h := h σ6 eσ6
    refine P_aload_n C dX12_undo_50 0 rfl ?_
    refine P_aload_n C dX12_undo_51 0 rfl ?_
    refine P_getI C fa_X12_undo_175 kd_74 rfl (fxl fx_74) dX12_undo_52 ?_
    refine P_putI C pa_X12_undo_147 kd_74 rfl (fxl fx_74) dX12_undo_55 ?_
    refine P_nm (fun σ7 eσ7 => ?_)
    have h := h σ7 eσ7
    refine P_aload_n C dX12_undo_58 0 rfl ?_
    refine P_aload_n C dX12_undo_59 0 rfl ?_
    refine P_getI C fa_X12_undo_178 kd_74 rfl (fxl fx_74) dX12_undo_60 ?_
    refine P_putI C pa_X12_undo_150 kd_74 rfl (fxl fx_74) dX12_undo_63 ?_
    refine P_nm (fun σ8 eσ8 => ?_)
    have h := h σ8 eσ8
    refine P_iconst C dX12_undo_66 (v := (0 : Int32)) rfl ?_
    refine P_istore_n C dX12_undo_67 (by rw [hN]; decide) rfl ?_
    exact P_sub [1, 0] rfl h
  · have h := h.2 q1
    refine P_bipush C dX12_undo_7 (v := (-3 : Int32)) rfl ?_
    exact P_iret C dX12_undo_9 h
set_option maxRecDepth 100000 in
set_option maxHeartbeats 4000000 in
theorem s_X12_undo_68 {M : Mx} {Qk : Int32 → Sg → Prop} (C : Cx M cX12_undo (some .int) RX12 wsX12_undo (rmz 0) 0 0 (QI (mV M) Qk)) (hN : mN M = 2) {x1 : Int32} {σ : Sg} (h : (((6 : Int32) ≤ x1 → PS M 202 [(0, .ref 74), (1, .int (0 : Int32))] [] σ (0, 0)) ∧ (¬ (6 : Int32) ≤ x1 → (vp_in x1 6 ∧ (vp_in x1 6 ∧ (∀ σ4 : Sg, σ4 = si σ 103 x1.toNatClampNeg (gi σ 156 x1.toNatClampNeg) → (vp_in x1 6 ∧ (vp_in x1 6 ∧ (∀ σ7 : Sg, σ7 = si σ4 104 x1.toNatClampNeg (gi σ4 157 x1.toNatClampNeg) → (vp_in x1 6 ∧ (vp_in x1 6 ∧ (∀ σ10 : Sg, σ10 = si σ7 105 x1.toNatClampNeg (gi σ7 158 x1.toNatClampNeg) → (vp_in x1 6 ∧ (vp_in x1 6 ∧ (∀ σ13 : Sg, σ13 = si σ10 106 x1.toNatClampNeg (gi σ10 159 x1.toNatClampNeg) → (vp_in x1 6 ∧ (vp_in x1 6 ∧ (∀ σ16 : Sg, σ16 = si σ13 107 x1.toNatClampNeg (gi σ13 160 x1.toNatClampNeg) → (vp_in x1 6 ∧ (vp_in x1 6 ∧ (∀ σ19 : Sg, σ19 = si σ16 108 x1.toNatClampNeg (gi σ16 161 x1.toNatClampNeg) → (vp_in x1 6 ∧ (vp_in x1 6 ∧ (∀ σ22 : Sg, σ22 = si σ19 110 x1.toNatClampNeg (gi σ19 162 x1.toNatClampNeg) → (vp_in x1 6 ∧ (vp_in x1 6 ∧ (∀ σ25 : Sg, σ25 = si σ22 142 x1.toNatClampNeg (gi σ22 164 x1.toNatClampNeg) → (vp_in x1 6 ∧ (vp_in x1 6 ∧ (∀ σ28 : Sg, σ28 = si σ25 143 x1.toNatClampNeg (gi σ25 165 x1.toNatClampNeg) → (vp_in x1 6 ∧ (vp_in x1 6 ∧ (∀ σ31 : Sg, σ31 = si σ28 144 x1.toNatClampNeg (gi σ28 166 x1.toNatClampNeg) → (∀ v32 : Int32, v32 = x1 + 1 → PS M 68 [(0, .ref 74), (1, .int v32)] [] σ31 (0, 0))))))))))))))))))))))))))))))))))) : PS M 68 [(0, .ref 74), (1, .int x1)] [] σ (0, 0) := by
  refine P_iload_n C dX12_undo_68 1 rfl ?_
  refine P_bipush C dX12_undo_69 (v := (6 : Int32)) rfl ?_
  refine P_icmp_ge C dX12_undo_71 (tgt := 200) (by decide +kernel) (fun q1 => ?_) (fun q1 => ?_)
  · have h := h.1 q1
    refine P_iconst C dX12_undo_200 (v := (0 : Int32)) rfl ?_
    refine P_istore_n C dX12_undo_201 (by rw [hN]; decide) rfl ?_
    exact P_sub [1, 0] rfl h
  · have h := h.2 q1
    refine P_aload_n C dX12_undo_74 0 rfl ?_
    refine P_getS C (e := 103) fa_X12_undo_19 kd_74 (d := 29) rfl (fxl fx_74) rfl dX12_undo_75 ?_
    refine P_iload_n C dX12_undo_78 1 rfl ?_
    refine P_aload_n C dX12_undo_79 0 rfl ?_
    refine P_getS C (e := 156) fa_X12_undo_181 kd_74 (d := 82) rfl (fxl fx_74) rfl dX12_undo_80 ?_
    refine P_iload_n C dX12_undo_83 1 rfl ?_
    obtain ⟨hv2, h⟩ := h
    refine P_iald C kd_156 (fxl fx_156) hv2 dX12_undo_84 ?_
    obtain ⟨hv3, h⟩ := h
    refine P_iast C kd_103 (fxl fx_103) hv3 dX12_undo_85 ?_
    refine P_nm (fun σ4 eσ4 => ?_)
    have h := h σ4 eσ4
    refine P_aload_n C dX12_undo_86 0 rfl ?_
    refine P_getS C (e := 104) fa_X12_undo_23 kd_74 (d := 30) rfl (fxl fx_74) rfl dX12_undo_87 ?_
    refine P_iload_n C dX12_undo_90 1 rfl ?_
    refine P_aload_n C dX12_undo_91 0 rfl ?_
    refine P_getS C (e := 157) fa_X12_undo_184 kd_74 (d := 83) rfl (fxl fx_74) rfl dX12_undo_92 ?_
    refine P_iload_n C dX12_undo_95 1 rfl ?_
    obtain ⟨hv5, h⟩ := h
    refine P_iald C kd_157 (fxl fx_157) hv5 dX12_undo_96 ?_
    obtain ⟨hv6, h⟩ := h
    refine P_iast C kd_104 (fxl fx_104) hv6 dX12_undo_97 ?_
    refine P_nm (fun σ7 eσ7 => ?_)
    have h := h σ7 eσ7
    refine P_aload_n C dX12_undo_98 0 rfl ?_
    refine P_getS C (e := 105) fa_X12_undo_26 kd_74 (d := 31) rfl (fxl fx_74) rfl dX12_undo_99 ?_
    refine P_iload_n C dX12_undo_102 1 rfl ?_
    refine P_aload_n C dX12_undo_103 0 rfl ?_
    refine P_getS C (e := 158) fa_X12_undo_187 kd_74 (d := 84) rfl (fxl fx_74) rfl dX12_undo_104 ?_
    refine P_iload_n C dX12_undo_107 1 rfl ?_
    obtain ⟨hv8, h⟩ := h
    refine P_iald C kd_158 (fxl fx_158) hv8 dX12_undo_108 ?_
    obtain ⟨hv9, h⟩ := h
    refine P_iast C kd_105 (fxl fx_105) hv9 dX12_undo_109 ?_
    refine P_nm (fun σ10 eσ10 => ?_)
    have h := h σ10 eσ10
    refine P_aload_n C dX12_undo_110 0 rfl ?_
    refine P_getS C (e := 106) fa_X12_undo_29 kd_74 (d := 32) rfl (fxl fx_74) rfl dX12_undo_111 ?_
    refine P_iload_n C dX12_undo_114 1 rfl ?_
    refine P_aload_n C dX12_undo_115 0 rfl ?_
    refine P_getS C (e := 159) fa_X12_undo_190 kd_74 (d := 85) rfl (fxl fx_74) rfl dX12_undo_116 ?_
    refine P_iload_n C dX12_undo_119 1 rfl ?_
    obtain ⟨hv11, h⟩ := h
    refine P_iald C kd_159 (fxl fx_159) hv11 dX12_undo_120 ?_
    obtain ⟨hv12, h⟩ := h
    refine P_iast C kd_106 (fxl fx_106) hv12 dX12_undo_121 ?_
    refine P_nm (fun σ13 eσ13 => ?_)
    have h := h σ13 eσ13
    refine P_aload_n C dX12_undo_122 0 rfl ?_
    refine P_getS C (e := 107) fa_X12_undo_32 kd_74 (d := 33) rfl (fxl fx_74) rfl dX12_undo_123 ?_
    refine P_iload_n C dX12_undo_126 1 rfl ?_
    refine P_aload_n C dX12_undo_127 0 rfl ?_
    refine P_getS C (e := 160) fa_X12_undo_193 kd_74 (d := 86) rfl (fxl fx_74) rfl dX12_undo_128 ?_
    refine P_iload_n C dX12_undo_131 1 rfl ?_
    obtain ⟨hv14, h⟩ := h
    refine P_iald C kd_160 (fxl fx_160) hv14 dX12_undo_132 ?_
    obtain ⟨hv15, h⟩ := h
    refine P_iast C kd_107 (fxl fx_107) hv15 dX12_undo_133 ?_
    refine P_nm (fun σ16 eσ16 => ?_)
    have h := h σ16 eσ16
    refine P_aload_n C dX12_undo_134 0 rfl ?_
    refine P_getS C (e := 108) fa_X12_undo_35 kd_74 (d := 34) rfl (fxl fx_74) rfl dX12_undo_135 ?_
    refine P_iload_n C dX12_undo_138 1 rfl ?_
    refine P_aload_n C dX12_undo_139 0 rfl ?_
    refine P_getS C (e := 161) fa_X12_undo_196 kd_74 (d := 87) rfl (fxl fx_74) rfl dX12_undo_140 ?_
    refine P_iload_n C dX12_undo_143 1 rfl ?_
    obtain ⟨hv17, h⟩ := h
    refine P_iald C kd_161 (fxl fx_161) hv17 dX12_undo_144 ?_
    obtain ⟨hv18, h⟩ := h
    refine P_iast C kd_108 (fxl fx_108) hv18 dX12_undo_145 ?_
    refine P_nm (fun σ19 eσ19 => ?_)
    have h := h σ19 eσ19
    refine P_aload_n C dX12_undo_146 0 rfl ?_
    refine P_getS C (e := 110) fa_X12_undo_41 kd_74 (d := 36) rfl (fxl fx_74) rfl dX12_undo_147 ?_
    refine P_iload_n C dX12_undo_150 1 rfl ?_
    refine P_aload_n C dX12_undo_151 0 rfl ?_
    refine P_getS C (e := 162) fa_X12_undo_199 kd_74 (d := 88) rfl (fxl fx_74) rfl dX12_undo_152 ?_
    refine P_iload_n C dX12_undo_155 1 rfl ?_
    obtain ⟨hv20, h⟩ := h
    refine P_iald C kd_162 (fxl fx_162) hv20 dX12_undo_156 ?_
    obtain ⟨hv21, h⟩ := h
    refine P_iast C kd_110 (fxl fx_110) hv21 dX12_undo_157 ?_
    refine P_nm (fun σ22 eσ22 => ?_)
    have h := h σ22 eσ22
    refine P_aload_n C dX12_undo_158 0 rfl ?_
    refine P_getS C (e := 142) fa_X12_undo_138 kd_74 (d := 68) rfl (fxl fx_74) rfl dX12_undo_159 ?_
    refine P_iload_n C dX12_undo_162 1 rfl ?_
    refine P_aload_n C dX12_undo_163 0 rfl ?_
    refine P_getS C (e := 164) fa_X12_undo_205 kd_74 (d := 90) rfl (fxl fx_74) rfl dX12_undo_164 ?_
    refine P_iload_n C dX12_undo_167 1 rfl ?_
    obtain ⟨hv23, h⟩ := h
    refine P_iald C kd_164 (fxl fx_164) hv23 dX12_undo_168 ?_
    obtain ⟨hv24, h⟩ := h
    refine P_iast C kd_142 (fxl fx_142) hv24 dX12_undo_169 ?_
    refine P_nm (fun σ25 eσ25 => ?_)
    have h := h σ25 eσ25
    refine P_aload_n C dX12_undo_170 0 rfl ?_
    refine P_getS C (e := 143) fa_X12_undo_141 kd_74 (d := 69) rfl (fxl fx_74) rfl dX12_undo_171 ?_
    refine P_iload_n C dX12_undo_174 1 rfl ?_
    refine P_aload_n C dX12_undo_175 0 rfl ?_
    refine P_getS C (e := 165) fa_X12_undo_208 kd_74 (d := 91) rfl (fxl fx_74) rfl dX12_undo_176 ?_
    refine P_iload_n C dX12_undo_179 1 rfl ?_
    obtain ⟨hv26, h⟩ := h
    refine P_iald C kd_165 (fxl fx_165) hv26 dX12_undo_180 ?_
    obtain ⟨hv27, h⟩ := h
    refine P_iast C kd_143 (fxl fx_143) hv27 dX12_undo_181 ?_
    refine P_nm (fun σ28 eσ28 => ?_)
    have h := h σ28 eσ28
    refine P_aload_n C dX12_undo_182 0 rfl ?_
    refine P_getS C (e := 144) fa_X12_undo_144 kd_74 (d := 70) rfl (fxl fx_74) rfl dX12_undo_183 ?_
    refine P_iload_n C dX12_undo_186 1 rfl ?_
    refine P_aload_n C dX12_undo_187 0 rfl ?_
    refine P_getS C (e := 166) fa_X12_undo_211 kd_74 (d := 92) rfl (fxl fx_74) rfl dX12_undo_188 ?_
    refine P_iload_n C dX12_undo_191 1 rfl ?_
    obtain ⟨hv29, h⟩ := h
    refine P_iald C kd_166 (fxl fx_166) hv29 dX12_undo_192 ?_
    obtain ⟨hv30, h⟩ := h
    refine P_iast C kd_144 (fxl fx_144) hv30 dX12_undo_193 ?_
    refine P_nm (fun σ31 eσ31 => ?_)
    have h := h σ31 eσ31
    obtain ⟨v32, ev32⟩ : ∃ v : Int32, v = x1 + 1 := ⟨_, rfl⟩
    have h := h v32 ev32
    refine P_iinc (v := v32) C dX12_undo_194 1 rfl (by rw [ev32]; rfl) (by rw [hN]; decide) rfl ?_
    refine P_goto C dX12_undo_197 (tgt := 68) (by decide +kernel) ?_
    exact P_sub [1, 0] rfl h
set_option maxRecDepth 100000 in
set_option maxHeartbeats 4000000 in
theorem s_X12_undo_202 {M : Mx} {Qk : Int32 → Sg → Prop} (C : Cx M cX12_undo (some .int) RX12 wsX12_undo (rmz 0) 0 0 (QI (mV M) Qk)) (hN : mN M = 2) {x1 : Int32} {σ : Sg} (h : (((24 : Int32) ≤ x1 → PS M 228 [(0, .ref 74), (1, .int (0 : Int32))] [] σ (0, 0)) ∧ (¬ (24 : Int32) ≤ x1 → (vp_in x1 24 ∧ (vp_in x1 24 ∧ (∀ σ4 : Sg, σ4 = si σ 109 x1.toNatClampNeg (gi σ 163 x1.toNatClampNeg) → (∀ v5 : Int32, v5 = x1 + 1 → PS M 202 [(0, .ref 74), (1, .int v5)] [] σ4 (0, 0)))))))) : PS M 202 [(0, .ref 74), (1, .int x1)] [] σ (0, 0) := by
  refine P_iload_n C dX12_undo_202 1 rfl ?_
  refine P_bipush C dX12_undo_203 (v := (24 : Int32)) rfl ?_
  refine P_icmp_ge C dX12_undo_205 (tgt := 226) (by decide +kernel) (fun q1 => ?_) (fun q1 => ?_)
  · have h := h.1 q1
    refine P_iconst C dX12_undo_226 (v := (0 : Int32)) rfl ?_
    refine P_istore_n C dX12_undo_227 (by rw [hN]; decide) rfl ?_
    exact P_sub [1, 0] rfl h
  · have h := h.2 q1
    refine P_aload_n C dX12_undo_208 0 rfl ?_
    refine P_getS C (e := 109) fa_X12_undo_38 kd_74 (d := 35) rfl (fxl fx_74) rfl dX12_undo_209 ?_
    refine P_iload_n C dX12_undo_212 1 rfl ?_
    refine P_aload_n C dX12_undo_213 0 rfl ?_
    refine P_getS C (e := 163) fa_X12_undo_202 kd_74 (d := 89) rfl (fxl fx_74) rfl dX12_undo_214 ?_
    refine P_iload_n C dX12_undo_217 1 rfl ?_
    obtain ⟨hv2, h⟩ := h
    refine P_iald C kd_163 (fxl fx_163) hv2 dX12_undo_218 ?_
    obtain ⟨hv3, h⟩ := h
    refine P_iast C kd_109 (fxl fx_109) hv3 dX12_undo_219 ?_
    refine P_nm (fun σ4 eσ4 => ?_)
    have h := h σ4 eσ4
    obtain ⟨v5, ev5⟩ : ∃ v : Int32, v = x1 + 1 := ⟨_, rfl⟩
    have h := h v5 ev5
    refine P_iinc (v := v5) C dX12_undo_220 1 rfl (by rw [ev5]; rfl) (by rw [hN]; decide) rfl ?_
    refine P_goto C dX12_undo_223 (tgt := 202) (by decide +kernel) ?_
    exact P_sub [1, 0] rfl h
set_option maxRecDepth 100000 in
set_option maxHeartbeats 4000000 in
theorem s_X12_undo_228 {M : Mx} {Qk : Int32 → Sg → Prop} (C : Cx M cX12_undo (some .int) RX12 wsX12_undo (rmz 0) 0 0 (QI (mV M) Qk)) (hN : mN M = 2) {x1 : Int32} {σ : Sg} (h : (((10 : Int32) ≤ x1 → PS M 254 [(0, .ref 74), (1, .int (0 : Int32))] [] σ (0, 0)) ∧ (¬ (10 : Int32) ≤ x1 → (vp_in x1 10 ∧ (vp_in x1 10 ∧ (∀ σ4 : Sg, σ4 = si σ 147 x1.toNatClampNeg (gi σ 167 x1.toNatClampNeg) → (∀ v5 : Int32, v5 = x1 + 1 → PS M 228 [(0, .ref 74), (1, .int v5)] [] σ4 (0, 0)))))))) : PS M 228 [(0, .ref 74), (1, .int x1)] [] σ (0, 0) := by
  refine P_iload_n C dX12_undo_228 1 rfl ?_
  refine P_bipush C dX12_undo_229 (v := (10 : Int32)) rfl ?_
  refine P_icmp_ge C dX12_undo_231 (tgt := 252) (by decide +kernel) (fun q1 => ?_) (fun q1 => ?_)
  · have h := h.1 q1
    refine P_iconst C dX12_undo_252 (v := (0 : Int32)) rfl ?_
    refine P_istore_n C dX12_undo_253 (by rw [hN]; decide) rfl ?_
    exact P_sub [1, 0] rfl h
  · have h := h.2 q1
    refine P_aload_n C dX12_undo_234 0 rfl ?_
    refine P_getS C (e := 147) fa_X12_undo_153 kd_74 (d := 73) rfl (fxl fx_74) rfl dX12_undo_235 ?_
    refine P_iload_n C dX12_undo_238 1 rfl ?_
    refine P_aload_n C dX12_undo_239 0 rfl ?_
    refine P_getS C (e := 167) fa_X12_undo_214 kd_74 (d := 93) rfl (fxl fx_74) rfl dX12_undo_240 ?_
    refine P_iload_n C dX12_undo_243 1 rfl ?_
    obtain ⟨hv2, h⟩ := h
    refine P_iald C kd_167 (fxl fx_167) hv2 dX12_undo_244 ?_
    obtain ⟨hv3, h⟩ := h
    refine P_iast C kd_147 (fxl fx_147) hv3 dX12_undo_245 ?_
    refine P_nm (fun σ4 eσ4 => ?_)
    have h := h σ4 eσ4
    obtain ⟨v5, ev5⟩ : ∃ v : Int32, v = x1 + 1 := ⟨_, rfl⟩
    have h := h v5 ev5
    refine P_iinc (v := v5) C dX12_undo_246 1 rfl (by rw [ev5]; rfl) (by rw [hN]; decide) rfl ?_
    refine P_goto C dX12_undo_249 (tgt := 228) (by decide +kernel) ?_
    exact P_sub [1, 0] rfl h
set_option maxRecDepth 100000 in
set_option maxHeartbeats 4000000 in
theorem s_X12_undo_254 {M : Mx} {Qk : Int32 → Sg → Prop} (C : Cx M cX12_undo (some .int) RX12 wsX12_undo (rmz 0) 0 0 (QI (mV M) Qk)) (hN : mN M = 2) {x1 : Int32} {σ : Sg} (h : (((8 : Int32) ≤ x1 → Qk (gi σ 74 0) σ) ∧ (¬ (8 : Int32) ≤ x1 → (vp_in x1 8 ∧ (vp_in x1 8 ∧ (∀ σ4 : Sg, σ4 = si σ 148 x1.toNatClampNeg (gi σ 168 x1.toNatClampNeg) → (∀ v5 : Int32, v5 = x1 + 1 → PS M 254 [(0, .ref 74), (1, .int v5)] [] σ4 (0, 0)))))))) : PS M 254 [(0, .ref 74), (1, .int x1)] [] σ (0, 0) := by
  refine P_iload_n C dX12_undo_254 1 rfl ?_
  refine P_bipush C dX12_undo_255 (v := (8 : Int32)) rfl ?_
  refine P_icmp_ge C dX12_undo_257 (tgt := 278) (by decide +kernel) (fun q1 => ?_) (fun q1 => ?_)
  · have h := h.1 q1
    refine P_aload_n C dX12_undo_278 0 rfl ?_
    refine P_getI C fa_X12_undo_7 kd_74 rfl (fxl fx_74) dX12_undo_279 ?_
    exact P_iret C dX12_undo_282 h
  · have h := h.2 q1
    refine P_aload_n C dX12_undo_260 0 rfl ?_
    refine P_getS C (e := 148) fa_X12_undo_156 kd_74 (d := 74) rfl (fxl fx_74) rfl dX12_undo_261 ?_
    refine P_iload_n C dX12_undo_264 1 rfl ?_
    refine P_aload_n C dX12_undo_265 0 rfl ?_
    refine P_getS C (e := 168) fa_X12_undo_217 kd_74 (d := 94) rfl (fxl fx_74) rfl dX12_undo_266 ?_
    refine P_iload_n C dX12_undo_269 1 rfl ?_
    obtain ⟨hv2, h⟩ := h
    refine P_iald C kd_168 (fxl fx_168) hv2 dX12_undo_270 ?_
    obtain ⟨hv3, h⟩ := h
    refine P_iast C kd_148 (fxl fx_148) hv3 dX12_undo_271 ?_
    refine P_nm (fun σ4 eσ4 => ?_)
    have h := h σ4 eσ4
    obtain ⟨v5, ev5⟩ : ∃ v : Int32, v = x1 + 1 := ⟨_, rfl⟩
    have h := h v5 ev5
    refine P_iinc (v := v5) C dX12_undo_272 1 rfl (by rw [ev5]; rfl) (by rw [hN]; decide) rfl ?_
    refine P_goto C dX12_undo_275 (tgt := 254) (by decide +kernel) ?_
    exact P_sub [1, 0] rfl h
theorem fa_X12_body_220 : FA RX12 wsX12_body 220 12 69 "NineMowersModel" := by
  show _ ∧ _ ∧ _ ∧ _
  exact ⟨by decide +kernel, fun _ h => List.mem_cons_of_mem _ (List.mem_append_right _ h), List.mem_of_getElem? (i := 1) rfl, Or.inl rfl⟩
theorem pa_X12_body_220 : PA RX12 wsX12_body 220 12 69 "NineMowersModel" .int := by
  show _ ∧ _ ∧ _ ∧ _ ∧ _ ∧ _ ∧ _ ∧ _
  exact ⟨by decide +kernel, fun _ h => List.mem_cons_of_mem _ (List.mem_append_right _ h), List.mem_of_getElem? (i := 1) rfl, rfl, rfl, by decide +kernel, ⟨tyX12, tyX12_ok⟩, nmX12⟩
theorem fa_X12_body_223 : FA RX12 wsX12_body 223 12 70 "NineMowersModel" := by
  show _ ∧ _ ∧ _ ∧ _
  exact ⟨by decide +kernel, fun _ h => List.mem_cons_of_mem _ (List.mem_append_right _ h), List.mem_of_getElem? (i := 2) rfl, Or.inl rfl⟩
noncomputable def K_X12_body (l : Launch) (V : Vx) (a1 : Int32) (σ : Sg) (Qk : Sg → Prop) : Prop := Ka l V yX12_body wsX12_body (rmz 0) 0 0 [.ref 74, .int a1] σ (QV V Qk)
theorem e_X12_body {l : Launch} {V : Vx} {a1 : Int32} {σ : Sg} {Qk : Sg → Prop} (h : ∀ M : Mx, mL M = l → mV M = V → mN M = 2 → Cx M cX12_body none RX12 wsX12_body (rmz 0) 0 0 (QV (mV M) Qk) → PS M 0 [(0, .ref 74), (1, .int a1)] [] σ (0, 0)) : K_X12_body l V a1 σ Qk :=
  Ka_of (by decide +kernel) rfl rfl (Nat.le_of_ble_eq_true rfl) (fun M h1 h2 h3 C => h M h1 h2 h3 (by rw [h2]; exact C))
set_option maxRecDepth 100000 in
set_option maxHeartbeats 4000000 in
theorem s_X12_body_0 {M : Mx} {Qk : Sg → Prop} (C : Cx M cX12_body none RX12 wsX12_body (rmz 0) 0 0 (QV (mV M) Qk)) (hN : mN M = 2) {a1 : Int32} {σ : Sg} (h : (((20 : Int32) ≤ (gi σ 74 69) → (∀ σ2 : Sg, σ2 = si σ 74 69 ((gi σ 74 69) + (1 : Int32)) → Qk σ2)) ∧ (¬ (20 : Int32) ≤ (gi σ 74 69) → (vp_in (gi σ 74 69) 20 ∧ (∀ σ4 : Sg, σ4 = si σ 170 (gi σ 74 69).toNatClampNeg a1 → (∀ σ5 : Sg, σ5 = si σ4 74 69 ((gi σ4 74 69) + (1 : Int32)) → Qk σ5)))))) : PS M 0 [(0, .ref 74), (1, .int a1)] [] σ (0, 0) := by
  refine P_aload_n C dX12_body_0 0 rfl ?_
  refine P_getI C fa_X12_body_220 kd_74 rfl (fxl fx_74) dX12_body_1 ?_
  refine P_bipush C dX12_body_4 (v := (20 : Int32)) rfl ?_
  refine P_icmp_ge C dX12_body_6 (tgt := 19) (by decide +kernel) (fun q1 => ?_) (fun q1 => ?_)
  · have h := h.1 q1
    refine P_aload_n C dX12_body_19 0 rfl ?_
    refine P_dup C dX12_body_20 rfl ?_
    refine P_getI C fa_X12_body_220 kd_74 rfl (fxl fx_74) dX12_body_21 ?_
    refine P_iconst C dX12_body_24 (v := (1 : Int32)) rfl ?_
    refine P_iadd C dX12_body_25 ?_
    refine P_putI C pa_X12_body_220 kd_74 rfl (fxl fx_74) dX12_body_26 ?_
    refine P_nm (fun σ2 eσ2 => ?_)
    have h := h σ2 eσ2
    exact P_vret C dX12_body_29 h
  · have h := h.2 q1
    refine P_aload_n C dX12_body_9 0 rfl ?_
    refine P_getS C (e := 170) fa_X12_body_223 kd_74 (d := 96) rfl (fxl fx_74) rfl dX12_body_10 ?_
    refine P_aload_n C dX12_body_13 0 rfl ?_
    refine P_getI C fa_X12_body_220 kd_74 rfl (fxl fx_74) dX12_body_14 ?_
    refine P_iload_n C dX12_body_17 1 rfl ?_
    obtain ⟨hv3, h⟩ := h
    refine P_iast C kd_170 (fxl fx_170) hv3 dX12_body_18 ?_
    refine P_nm (fun σ4 eσ4 => ?_)
    have h := h σ4 eσ4
    refine P_aload_n C dX12_body_19 0 rfl ?_
    refine P_dup C dX12_body_20 rfl ?_
    refine P_getI C fa_X12_body_220 kd_74 rfl (fxl fx_74) dX12_body_21 ?_
    refine P_iconst C dX12_body_24 (v := (1 : Int32)) rfl ?_
    refine P_iadd C dX12_body_25 ?_
    refine P_putI C pa_X12_body_220 kd_74 rfl (fxl fx_74) dX12_body_26 ?_
    refine P_nm (fun σ5 eσ5 => ?_)
    have h := h σ5 eσ5
    exact P_vret C dX12_body_29 h
theorem fa_X12_count_7 : FA RX12 wsX12_count 7 12 0 "NineMowersModel" := by
  show _ ∧ _ ∧ _ ∧ _
  exact ⟨by decide +kernel, fun _ h => List.mem_cons_of_mem _ (List.mem_append_right _ h), List.mem_of_getElem? (i := 1) rfl, Or.inl rfl⟩
theorem fa_X12_count_44 : FA RX12 wsX12_count 44 12 11 "NineMowersModel" := by
  show _ ∧ _ ∧ _ ∧ _
  exact ⟨by decide +kernel, fun _ h => List.mem_cons_of_mem _ (List.mem_append_right _ h), List.mem_of_getElem? (i := 2) rfl, Or.inl rfl⟩
theorem fa_X12_count_135 : FA RX12 wsX12_count 135 12 41 "NineMowersModel" := by
  show _ ∧ _ ∧ _ ∧ _
  exact ⟨by decide +kernel, fun _ h => List.mem_cons_of_mem _ (List.mem_append_right _ h), List.mem_of_getElem? (i := 3) rfl, Or.inl rfl⟩
theorem fa_X12_count_147 : FA RX12 wsX12_count 147 12 45 "NineMowersModel" := by
  show _ ∧ _ ∧ _ ∧ _
  exact ⟨by decide +kernel, fun _ h => List.mem_cons_of_mem _ (List.mem_append_right _ h), List.mem_of_getElem? (i := 4) rfl, Or.inl rfl⟩
theorem fa_X12_count_150 : FA RX12 wsX12_count 150 12 46 "NineMowersModel" := by
  show _ ∧ _ ∧ _ ∧ _
  exact ⟨by decide +kernel, fun _ h => List.mem_cons_of_mem _ (List.mem_append_right _ h), List.mem_of_getElem? (i := 5) rfl, Or.inl rfl⟩
theorem fa_X12_count_50 : FA RX12 wsX12_count 50 12 13 "NineMowersModel" := by
  show _ ∧ _ ∧ _ ∧ _
  exact ⟨by decide +kernel, fun _ h => List.mem_cons_of_mem _ (List.mem_append_right _ h), List.mem_of_getElem? (i := 6) rfl, Or.inl rfl⟩
theorem fa_X12_count_220 : FA RX12 wsX12_count 220 12 69 "NineMowersModel" := by
  show _ ∧ _ ∧ _ ∧ _
  exact ⟨by decide +kernel, fun _ h => List.mem_cons_of_mem _ (List.mem_append_right _ h), List.mem_of_getElem? (i := 7) rfl, Or.inl rfl⟩
noncomputable def K_X12_count (l : Launch) (V : Vx) (a1 : Int32) (σ : Sg) (Qk : Int32 → Sg → Prop) : Prop := Ka l V yX12_count wsX12_count (rmz 0) 0 0 [.ref 74, .int a1] σ (QI V Qk)
theorem e_X12_count {l : Launch} {V : Vx} {a1 : Int32} {σ : Sg} {Qk : Int32 → Sg → Prop} (h : ∀ M : Mx, mL M = l → mV M = V → mN M = 2 → Cx M cX12_count (some .int) RX12 wsX12_count (rmz 0) 0 0 (QI (mV M) Qk) → PS M 0 [(0, .ref 74), (1, .int a1)] [] σ (0, 0)) : K_X12_count l V a1 σ Qk :=
  Ka_of (by decide +kernel) rfl rfl (Nat.le_of_ble_eq_true rfl) (fun M h1 h2 h3 C => h M h1 h2 h3 (by rw [h2]; exact C))
set_option maxRecDepth 100000 in
set_option maxHeartbeats 4000000 in
theorem s_X12_count_0 {M : Mx} {Qk : Int32 → Sg → Prop} (C : Cx M cX12_count (some .int) RX12 wsX12_count (rmz 0) 0 0 (QI (mV M) Qk)) (hN : mN M = 2) {a1 : Int32} {σ : Sg} (h : ((a1.toInt < 0 ∨ 6 < a1.toInt → Qk (-2 : Int32) σ) ∧ (a1.toInt = 0 → Qk (gi σ 74 0) σ) ∧ (a1.toInt = 1 → Qk (gi σ 74 11) σ) ∧ (a1.toInt = 2 → Qk (gi σ 74 41) σ) ∧ (a1.toInt = 3 → Qk (gi σ 74 45) σ) ∧ (a1.toInt = 4 → Qk (gi σ 74 46) σ) ∧ (a1.toInt = 5 → Qk (gi σ 74 13) σ) ∧ (a1.toInt = 6 → Qk (gi σ 74 69) σ))) : PS M 0 [(0, .ref 74), (1, .int a1)] [] σ (0, 0) := by
  refine P_iload_n C dX12_count_0 1 rfl ?_
  refine P_tsw C dX12_count_1 79 (by decide +kernel) (fun q1 => ?_) (by decide +kernel) (fun i off ho q1 => ?_)
  · have h := h.1 q1
    refine P_bipush C dX12_count_79 (v := (-2 : Int32)) rfl ?_
    exact P_iret C dX12_count_81 h
  · rcases i with _ | _ | _ | _ | _ | _ | _ | i
    · obtain rfl : (43 : Int) = off := Option.some.inj ho
      refine ⟨?_, by decide +kernel⟩
      show PS M 44 _ _ _ _
      have h := h.2.1 (by have q := q1; simp at q; omega)
      refine P_aload_n C dX12_count_44 0 rfl ?_
      refine P_getI C fa_X12_count_7 kd_74 rfl (fxl fx_74) dX12_count_45 ?_
      exact P_iret C dX12_count_48 h
    · obtain rfl : (48 : Int) = off := Option.some.inj ho
      refine ⟨?_, by decide +kernel⟩
      show PS M 49 _ _ _ _
      have h := h.2.2.1 (by have q := q1; simp at q; omega)
      refine P_aload_n C dX12_count_49 0 rfl ?_
      refine P_getI C fa_X12_count_44 kd_74 rfl (fxl fx_74) dX12_count_50 ?_
      exact P_iret C dX12_count_53 h
    · obtain rfl : (53 : Int) = off := Option.some.inj ho
      refine ⟨?_, by decide +kernel⟩
      show PS M 54 _ _ _ _
      have h := h.2.2.2.1 (by have q := q1; simp at q; omega)
      refine P_aload_n C dX12_count_54 0 rfl ?_
      refine P_getI C fa_X12_count_135 kd_74 rfl (fxl fx_74) dX12_count_55 ?_
      exact P_iret C dX12_count_58 h
    · obtain rfl : (58 : Int) = off := Option.some.inj ho
      refine ⟨?_, by decide +kernel⟩
      show PS M 59 _ _ _ _
      have h := h.2.2.2.2.1 (by have q := q1; simp at q; omega)
      refine P_aload_n C dX12_count_59 0 rfl ?_
      refine P_getI C fa_X12_count_147 kd_74 rfl (fxl fx_74) dX12_count_60 ?_
      exact P_iret C dX12_count_63 h
    · obtain rfl : (63 : Int) = off := Option.some.inj ho
      refine ⟨?_, by decide +kernel⟩
      show PS M 64 _ _ _ _
      have h := h.2.2.2.2.2.1 (by have q := q1; simp at q; omega)
      refine P_aload_n C dX12_count_64 0 rfl ?_
      refine P_getI C fa_X12_count_150 kd_74 rfl (fxl fx_74) dX12_count_65 ?_
      exact P_iret C dX12_count_68 h
    · obtain rfl : (68 : Int) = off := Option.some.inj ho
      refine ⟨?_, by decide +kernel⟩
      show PS M 69 _ _ _ _
      have h := h.2.2.2.2.2.2.1 (by have q := q1; simp at q; omega)
      refine P_aload_n C dX12_count_69 0 rfl ?_
      refine P_getI C fa_X12_count_50 kd_74 rfl (fxl fx_74) dX12_count_70 ?_
      exact P_iret C dX12_count_73 h
    · obtain rfl : (73 : Int) = off := Option.some.inj ho
      refine ⟨?_, by decide +kernel⟩
      show PS M 74 _ _ _ _
      have h := h.2.2.2.2.2.2.2 (by have q := q1; simp at q; omega)
      refine P_aload_n C dX12_count_74 0 rfl ?_
      refine P_getI C fa_X12_count_220 kd_74 rfl (fxl fx_74) dX12_count_75 ?_
      exact P_iret C dX12_count_78 h
    · exact absurd (Array.getElem?_eq_some_iff.mp ho).1 (Nat.not_lt.mpr (by show 7 ≤ _; omega))
noncomputable def K_X12_narrow (l : Launch) (V : Vx) (a1 : Int32) (a2 : Int64) (σ : Sg) (Qk : Int64 → Sg → Prop) : Prop := Ka l V yX12_narrow wsX12_narrow (rmz 0) 0 0 [.ref 74, .int a1, .long a2] σ (QL V Qk)
theorem e_X12_narrow {l : Launch} {V : Vx} {a1 : Int32} {a2 : Int64} {σ : Sg} {Qk : Int64 → Sg → Prop} (h : ∀ M : Mx, mL M = l → mV M = V → mN M = 4 → Cx M cX12_narrow (some .long) RX12 wsX12_narrow (rmz 0) 0 0 (QL (mV M) Qk) → PS M 0 [(0, .ref 74), (1, .int a1), (2, .long a2)] [] σ (0, 0)) : K_X12_narrow l V a1 a2 σ Qk :=
  Ka_of (by decide +kernel) rfl rfl (Nat.le_of_ble_eq_true rfl) (fun M h1 h2 h3 C => h M h1 h2 h3 (by rw [h2]; exact C))
set_option maxRecDepth 100000 in
set_option maxHeartbeats 4000000 in
theorem s_X12_narrow_0 {M : Mx} {Qk : Int64 → Sg → Prop} (C : Cx M cX12_narrow (some .long) RX12 wsX12_narrow (rmz 0) 0 0 (QL (mV M) Qk)) (hN : mN M = 4) {a1 : Int32} {a2 : Int64} {σ : Sg} (h : ((¬ a1 = 0 → ((¬ a1 = (1 : Int32) → ((¬ a1 = (2 : Int32) → ((¬ a1 = (4 : Int32) → Qk a2 σ) ∧ (a1 = (4 : Int32) → (((lg_cmp a2 (0 : Int64)) = 0 → Qk (0 : Int64) σ) ∧ (¬ (lg_cmp a2 (0 : Int64)) = 0 → Qk (1 : Int64) σ))))) ∧ (a1 = (2 : Int32) → Qk a2.toInt32.toInt64 σ))) ∧ (a1 = (1 : Int32) → Qk a2.toInt32.toInt16.toInt32.toInt64 σ))) ∧ (a1 = 0 → Qk a2.toInt32.toInt8.toInt32.toInt64 σ))) : PS M 0 [(0, .ref 74), (1, .int a1), (2, .long a2)] [] σ (0, 0) := by
  refine P_iload_n C dX12_narrow_0 1 rfl ?_
  refine P_if_ne C dX12_narrow_1 (tgt := 11) (by decide +kernel) (fun q1 => ?_) (fun q1 => ?_)
  · have h := h.1 q1
    refine P_iload_n C dX12_narrow_11 1 rfl ?_
    refine P_iconst C dX12_narrow_12 (v := (1 : Int32)) rfl ?_
    refine P_icmp_ne C dX12_narrow_13 (tgt := 23) (by decide +kernel) (fun q2 => ?_) (fun q2 => ?_)
    · have h := h.1 q2
      refine P_iload_n C dX12_narrow_23 1 rfl ?_
      refine P_iconst C dX12_narrow_24 (v := (2 : Int32)) rfl ?_
      refine P_icmp_ne C dX12_narrow_25 (tgt := 34) (by decide +kernel) (fun q3 => ?_) (fun q3 => ?_)
      · have h := h.1 q3
        refine P_iload_n C dX12_narrow_34 1 rfl ?_
        refine P_iconst C dX12_narrow_35 (v := (4 : Int32)) rfl ?_
        refine P_icmp_ne C dX12_narrow_36 (tgt := 53) (by decide +kernel) (fun q4 => ?_) (fun q4 => ?_)
        · have h := h.1 q4
          refine P_lload_n C dX12_narrow_53 2 rfl ?_
          exact P_lret C dX12_narrow_54 h
        · have h := h.2 q4
          refine P_lload_n C dX12_narrow_39 2 rfl ?_
          refine P_lconst C dX12_narrow_40 (v := (0 : Int64)) rfl ?_
          refine P_lcmp C dX12_narrow_41 ?_
          refine P_if_eq C dX12_narrow_42 (tgt := 49) (by decide +kernel) (fun q5 => ?_) (fun q5 => ?_)
          · have h := h.1 q5
            refine P_lconst C dX12_narrow_49 (v := (0 : Int64)) rfl ?_
            refine P_goto C dX12_narrow_50 (tgt := 54) (by decide +kernel) ?_
            exact P_lret C dX12_narrow_54 h
          · have h := h.2 q5
            refine P_lconst C dX12_narrow_45 (v := (1 : Int64)) rfl ?_
            refine P_goto C dX12_narrow_46 (tgt := 54) (by decide +kernel) ?_
            exact P_lret C dX12_narrow_54 h
      · have h := h.2 q3
        refine P_lload_n C dX12_narrow_28 2 rfl ?_
        refine P_l2i C dX12_narrow_29 ?_
        refine P_i2l C dX12_narrow_30 ?_
        refine P_goto C dX12_narrow_31 (tgt := 54) (by decide +kernel) ?_
        exact P_lret C dX12_narrow_54 h
    · have h := h.2 q2
      refine P_lload_n C dX12_narrow_16 2 rfl ?_
      refine P_l2i C dX12_narrow_17 ?_
      refine P_i2s C dX12_narrow_18 ?_
      refine P_i2l C dX12_narrow_19 ?_
      refine P_goto C dX12_narrow_20 (tgt := 54) (by decide +kernel) ?_
      exact P_lret C dX12_narrow_54 h
  · have h := h.2 q1
    refine P_lload_n C dX12_narrow_4 2 rfl ?_
    refine P_l2i C dX12_narrow_5 ?_
    refine P_i2b C dX12_narrow_6 ?_
    refine P_i2l C dX12_narrow_7 ?_
    refine P_goto C dX12_narrow_8 (tgt := 54) (by decide +kernel) ?_
    exact P_lret C dX12_narrow_54 h
theorem fa_X12_isMower_7 : FA RX12 wsX12_isMower 7 12 0 "NineMowersModel" := by
  show _ ∧ _ ∧ _ ∧ _
  exact ⟨by decide +kernel, fun _ h => List.mem_cons_of_mem _ (List.mem_append_right _ h), List.mem_of_getElem? (i := 1) rfl, Or.inl rfl⟩
theorem kv_X12_isMower_X12_in : KV RX12 wsX12_isMower (rmz 1) 239 RX12 yX12_in wsX12_in (rmz 0) 3 := ⟨_, _, _, _, gX12_isMower_X12_in, rfl, by decide +kernel, by decide +kernel⟩
noncomputable def K_X12_isMower (l : Launch) (V : Vx) (a1 : Int32) (σ : Sg) (Qk : Int32 → Sg → Prop) : Prop := Ka l V yX12_isMower wsX12_isMower (rmz 1) 0 0 [.ref 74, .int a1] σ (QI V Qk)
theorem e_X12_isMower {l : Launch} {V : Vx} {a1 : Int32} {σ : Sg} {Qk : Int32 → Sg → Prop} (h : ∀ M : Mx, mL M = l → mV M = V → mN M = 2 → Cx M cX12_isMower (some .boolean) RX12 wsX12_isMower (rmz 1) 0 0 (QI (mV M) Qk) → PS M 0 [(0, .ref 74), (1, .int a1)] [] σ (0, 0)) : K_X12_isMower l V a1 σ Qk :=
  Ka_of (by decide +kernel) rfl rfl (Nat.le_of_ble_eq_true rfl) (fun M h1 h2 h3 C => h M h1 h2 h3 (by rw [h2]; exact C))
set_option maxRecDepth 100000 in
set_option maxHeartbeats 4000000 in
theorem s_X12_isMower_0 {M : Mx} {Qk : Int32 → Sg → Prop} (C : Cx M cX12_isMower (some .boolean) RX12 wsX12_isMower (rmz 1) 0 0 (QI (mV M) Qk)) (hN : mN M = 2) {a1 : Int32} {σ : Sg} (h : K_X12_in (mL M) (mV M) a1 (0 : Int32) ((gi σ 74 0) - (1 : Int32)) σ (fun r2 σ1 => (narrow .boolean (.int r2) = .int r2 ∧ Qk r2 σ1))) : PS M 0 [(0, .ref 74), (1, .int a1)] [] σ (0, 0) := by
  refine P_aload_n C dX12_isMower_0 0 rfl ?_
  refine P_iload_n C dX12_isMower_1 1 rfl ?_
  refine P_iconst C dX12_isMower_2 (v := (0 : Int32)) rfl ?_
  refine P_aload_n C dX12_isMower_3 0 rfl ?_
  refine P_getI C fa_X12_isMower_7 kd_74 rfl (fxl fx_74) dX12_isMower_4 ?_
  refine P_iconst C dX12_isMower_7 (v := (1 : Int32)) rfl ?_
  refine P_isub C dX12_isMower_8 ?_
  refine P_ci (R_v (ci := 12) C kv_X12_isMower_X12_in (As := [.int a1, .int (0 : Int32), .int ((gi σ 74 0) - (1 : Int32))]) rfl kd_74 rfl (fxl fx_74) (Nat.le_of_ble_eq_true rfl) dX12_isMower_9 ⟨Nat.le_refl _, Nat.le_refl _⟩ h) (fun r2 σ1 h => ?_)
  exact P_zret C h.1 dX12_isMower_12 h.2
theorem kv_X12_mower_X12_in : KV RX12 wsX12_mower (rmz 1) 239 RX12 yX12_in wsX12_in (rmz 0) 3 := ⟨_, _, _, _, gX12_mower_X12_in, rfl, by decide +kernel, by decide +kernel⟩
theorem fa_X12_mower_7 : FA RX12 wsX12_mower 7 12 0 "NineMowersModel" := by
  show _ ∧ _ ∧ _ ∧ _
  exact ⟨by decide +kernel, fun _ h => List.mem_cons_of_mem _ (List.mem_append_right _ h), List.mem_of_getElem? (i := 1) rfl, Or.inl rfl⟩
theorem fa_X12_mower_19 : FA RX12 wsX12_mower 19 12 3 "NineMowersModel" := by
  show _ ∧ _ ∧ _ ∧ _
  exact ⟨by decide +kernel, fun _ h => List.mem_cons_of_mem _ (List.mem_append_right _ h), List.mem_of_getElem? (i := 2) rfl, Or.inl rfl⟩
theorem fa_X12_mower_23 : FA RX12 wsX12_mower 23 12 4 "NineMowersModel" := by
  show _ ∧ _ ∧ _ ∧ _
  exact ⟨by decide +kernel, fun _ h => List.mem_cons_of_mem _ (List.mem_append_right _ h), List.mem_of_getElem? (i := 3) rfl, Or.inl rfl⟩
theorem fa_X12_mower_26 : FA RX12 wsX12_mower 26 12 5 "NineMowersModel" := by
  show _ ∧ _ ∧ _ ∧ _
  exact ⟨by decide +kernel, fun _ h => List.mem_cons_of_mem _ (List.mem_append_right _ h), List.mem_of_getElem? (i := 4) rfl, Or.inl rfl⟩
theorem fa_X12_mower_29 : FA RX12 wsX12_mower 29 12 6 "NineMowersModel" := by
  show _ ∧ _ ∧ _ ∧ _
  exact ⟨by decide +kernel, fun _ h => List.mem_cons_of_mem _ (List.mem_append_right _ h), List.mem_of_getElem? (i := 5) rfl, Or.inl rfl⟩
theorem fa_X12_mower_32 : FA RX12 wsX12_mower 32 12 7 "NineMowersModel" := by
  show _ ∧ _ ∧ _ ∧ _
  exact ⟨by decide +kernel, fun _ h => List.mem_cons_of_mem _ (List.mem_append_right _ h), List.mem_of_getElem? (i := 6) rfl, Or.inl rfl⟩
theorem fa_X12_mower_35 : FA RX12 wsX12_mower 35 12 8 "NineMowersModel" := by
  show _ ∧ _ ∧ _ ∧ _
  exact ⟨by decide +kernel, fun _ h => List.mem_cons_of_mem _ (List.mem_append_right _ h), List.mem_of_getElem? (i := 7) rfl, Or.inl rfl⟩
theorem fa_X12_mower_41 : FA RX12 wsX12_mower 41 12 10 "NineMowersModel" := by
  show _ ∧ _ ∧ _ ∧ _
  exact ⟨by decide +kernel, fun _ h => List.mem_cons_of_mem _ (List.mem_append_right _ h), List.mem_of_getElem? (i := 8) rfl, Or.inl rfl⟩
theorem pa_X12_mower_7 : PA RX12 wsX12_mower 7 12 0 "NineMowersModel" .int := by
  show _ ∧ _ ∧ _ ∧ _ ∧ _ ∧ _ ∧ _ ∧ _
  exact ⟨by decide +kernel, fun _ h => List.mem_cons_of_mem _ (List.mem_append_right _ h), List.mem_of_getElem? (i := 1) rfl, rfl, rfl, by decide +kernel, ⟨tyX12, tyX12_ok⟩, nmX12⟩
theorem pa_X12_mower_16 : PA RX12 wsX12_mower 16 12 2 "NineMowersModel" .int := by
  show _ ∧ _ ∧ _ ∧ _ ∧ _ ∧ _ ∧ _ ∧ _
  exact ⟨by decide +kernel, fun _ h => List.mem_cons_of_mem _ (List.mem_append_right _ h), List.mem_of_getElem? (i := 10) rfl, rfl, rfl, by decide +kernel, ⟨tyX12, tyX12_ok⟩, nmX12⟩
theorem fa_X12_mower_38 : FA RX12 wsX12_mower 38 12 9 "NineMowersModel" := by
  show _ ∧ _ ∧ _ ∧ _
  exact ⟨by decide +kernel, fun _ h => List.mem_cons_of_mem _ (List.mem_append_right _ h), List.mem_of_getElem? (i := 9) rfl, Or.inl rfl⟩
noncomputable def K_X12_mower (l : Launch) (V : Vx) (a1 : Int32) (a2 : Int32) (σ : Sg) (Qk : Int32 → Sg → Prop) : Prop := Ka l V yX12_mower wsX12_mower (rmz 1) 0 0 [.ref 74, .int a1, .int a2] σ (QI V Qk)
theorem e_X12_mower {l : Launch} {V : Vx} {a1 : Int32} {a2 : Int32} {σ : Sg} {Qk : Int32 → Sg → Prop} (h : ∀ M : Mx, mL M = l → mV M = V → mN M = 4 → Cx M cX12_mower (some .int) RX12 wsX12_mower (rmz 1) 0 0 (QI (mV M) Qk) → PS M 0 [(0, .ref 74), (1, .int a1), (2, .int a2)] [] σ (0, 0)) : K_X12_mower l V a1 a2 σ Qk :=
  Ka_of (by decide +kernel) rfl rfl (Nat.le_of_ble_eq_true rfl) (fun M h1 h2 h3 C => h M h1 h2 h3 (by rw [h2]; exact C))
set_option maxRecDepth 100000 in
set_option maxHeartbeats 4000000 in
theorem s_X12_mower_0 {M : Mx} {Qk : Int32 → Sg → Prop} (C : Cx M cX12_mower (some .int) RX12 wsX12_mower (rmz 1) 0 0 (QI (mV M) Qk)) (hN : mN M = 4) {a1 : Int32} {a2 : Int32} {σ : Sg} (h : K_X12_in (mL M) (mV M) a1 (0 : Int32) (6 : Int32) σ (fun r2 σ1 => ((¬ r2 = 0 → K_X12_in (mL M) (mV M) a2 (0 : Int32) (9 : Int32) σ1 (fun r5 σ4 => ((¬ r5 = 0 → ((¬ (gi σ4 74 0) = (6 : Int32) → (vp_in (gi σ4 74 0) 6 ∧ (∀ σ9 : Sg, σ9 = si σ4 103 (gi σ4 74 0).toNatClampNeg a1 → (vp_in (gi σ9 74 0) 6 ∧ (∀ σ11 : Sg, σ11 = si σ9 104 (gi σ9 74 0).toNatClampNeg a2 → (vp_in (gi σ11 74 0) 6 ∧ (∀ σ13 : Sg, σ13 = si σ11 105 (gi σ11 74 0).toNatClampNeg (0 : Int32) → (vp_in (gi σ13 74 0) 6 ∧ (∀ σ15 : Sg, σ15 = si σ13 106 (gi σ13 74 0).toNatClampNeg (10 : Int32) → (vp_in (gi σ15 74 0) 6 ∧ (∀ σ17 : Sg, σ17 = si σ15 107 (gi σ15 74 0).toNatClampNeg (0 : Int32) → (vp_in (gi σ17 74 0) 6 ∧ (∀ σ19 : Sg, σ19 = si σ17 108 (gi σ17 74 0).toNatClampNeg (0 : Int32) → (vp_in (gi σ19 74 0) 6 ∧ (∀ σ21 : Sg, σ21 = si σ19 110 (gi σ19 74 0).toNatClampNeg (gi σ19 74 0) → PS M 115 [(0, .ref 74), (3, .int (0 : Int32))] [] σ21 (0, 0)))))))))))))))) ∧ ((gi σ4 74 0) = (6 : Int32) → Qk (-4 : Int32) σ4))) ∧ (r5 = 0 → Qk (-2 : Int32) σ4)))) ∧ (r2 = 0 → Qk (-1 : Int32) σ1)))) : PS M 0 [(0, .ref 74), (1, .int a1), (2, .int a2)] [] σ (0, 0) := by
  refine P_aload_n C dX12_mower_0 0 rfl ?_
  refine P_iload_n C dX12_mower_1 1 rfl ?_
  refine P_iconst C dX12_mower_2 (v := (0 : Int32)) rfl ?_
  refine P_bipush C dX12_mower_3 (v := (6 : Int32)) rfl ?_
  refine P_ci (R_v (ci := 12) C kv_X12_mower_X12_in (As := [.int a1, .int (0 : Int32), .int (6 : Int32)]) rfl kd_74 rfl (fxl fx_74) (Nat.le_of_ble_eq_true rfl) dX12_mower_5 ⟨Nat.le_refl _, Nat.le_refl _⟩ h) (fun r2 σ1 h => ?_)
  refine P_if_ne C dX12_mower_8 (tgt := 13) (by decide +kernel) (fun q3 => ?_) (fun q3 => ?_)
  · have h := h.1 q3
    refine P_aload_n C dX12_mower_13 0 rfl ?_
    refine P_iload_n C dX12_mower_14 2 rfl ?_
    refine P_iconst C dX12_mower_15 (v := (0 : Int32)) rfl ?_
    refine P_bipush C dX12_mower_16 (v := (9 : Int32)) rfl ?_
    refine P_ci (R_v (ci := 12) C kv_X12_mower_X12_in (As := [.int a2, .int (0 : Int32), .int (9 : Int32)]) rfl kd_74 rfl (fxl fx_74) (Nat.le_of_ble_eq_true rfl) dX12_mower_18 ⟨Nat.le_refl _, Nat.le_refl _⟩ h) (fun r5 σ4 h => ?_)
    refine P_if_ne C dX12_mower_21 (tgt := 27) (by decide +kernel) (fun q6 => ?_) (fun q6 => ?_)
    · have h := h.1 q6
      refine P_aload_n C dX12_mower_27 0 rfl ?_
      refine P_getI C fa_X12_mower_7 kd_74 rfl (fxl fx_74) dX12_mower_28 ?_
      refine P_bipush C dX12_mower_31 (v := (6 : Int32)) rfl ?_
      refine P_icmp_ne C dX12_mower_33 (tgt := 39) (by decide +kernel) (fun q7 => ?_) (fun q7 => ?_)
      · have h := h.1 q7
        refine P_aload_n C dX12_mower_39 0 rfl ?_
        refine P_getS C (e := 103) fa_X12_mower_19 kd_74 (d := 29) rfl (fxl fx_74) rfl dX12_mower_40 ?_
        refine P_aload_n C dX12_mower_43 0 rfl ?_
        refine P_getI C fa_X12_mower_7 kd_74 rfl (fxl fx_74) dX12_mower_44 ?_
        refine P_iload_n C dX12_mower_47 1 rfl ?_
        obtain ⟨hv8, h⟩ := h
        refine P_iast C kd_103 (fxl fx_103) hv8 dX12_mower_48 ?_
        refine P_nm (fun σ9 eσ9 => ?_)
        have h := h σ9 eσ9
        refine P_aload_n C dX12_mower_49 0 rfl ?_
        refine P_getS C (e := 104) fa_X12_mower_23 kd_74 (d := 30) rfl (fxl fx_74) rfl dX12_mower_50 ?_
        refine P_aload_n C dX12_mower_53 0 rfl ?_
        refine P_getI C fa_X12_mower_7 kd_74 rfl (fxl fx_74) dX12_mower_54 ?_
        refine P_iload_n C dX12_mower_57 2 rfl ?_
        obtain ⟨hv10, h⟩ := h
        refine P_iast C kd_104 (fxl fx_104) hv10 dX12_mower_58 ?_
        refine P_nm (fun σ11 eσ11 => ?_)
        have h := h σ11 eσ11
        refine P_aload_n C dX12_mower_59 0 rfl ?_
        refine P_getS C (e := 105) fa_X12_mower_26 kd_74 (d := 31) rfl (fxl fx_74) rfl dX12_mower_60 ?_
        refine P_aload_n C dX12_mower_63 0 rfl ?_
        refine P_getI C fa_X12_mower_7 kd_74 rfl (fxl fx_74) dX12_mower_64 ?_
        refine P_iconst C dX12_mower_67 (v := (0 : Int32)) rfl ?_
        obtain ⟨hv12, h⟩ := h
        refine P_iast C kd_105 (fxl fx_105) hv12 dX12_mower_68 ?_
        refine P_nm (fun σ13 eσ13 => ?_)
        have h := h σ13 eσ13
        refine P_aload_n C dX12_mower_69 0 rfl ?_
        refine P_getS C (e := 106) fa_X12_mower_29 kd_74 (d := 32) rfl (fxl fx_74) rfl dX12_mower_70 ?_
        refine P_aload_n C dX12_mower_73 0 rfl ?_
        refine P_getI C fa_X12_mower_7 kd_74 rfl (fxl fx_74) dX12_mower_74 ?_
        refine P_bipush C dX12_mower_77 (v := (10 : Int32)) rfl ?_
        obtain ⟨hv14, h⟩ := h
        refine P_iast C kd_106 (fxl fx_106) hv14 dX12_mower_79 ?_
        refine P_nm (fun σ15 eσ15 => ?_)
        have h := h σ15 eσ15
        refine P_aload_n C dX12_mower_80 0 rfl ?_
        refine P_getS C (e := 107) fa_X12_mower_32 kd_74 (d := 33) rfl (fxl fx_74) rfl dX12_mower_81 ?_
        refine P_aload_n C dX12_mower_84 0 rfl ?_
        refine P_getI C fa_X12_mower_7 kd_74 rfl (fxl fx_74) dX12_mower_85 ?_
        refine P_iconst C dX12_mower_88 (v := (0 : Int32)) rfl ?_
        obtain ⟨hv16, h⟩ := h
        refine P_iast C kd_107 (fxl fx_107) hv16 dX12_mower_89 ?_
        refine P_nm (fun σ17 eσ17 => ?_)
        have h := h σ17 eσ17
        refine P_aload_n C dX12_mower_90 0 rfl ?_
        refine P_getS C (e := 108) fa_X12_mower_35 kd_74 (d := 34) rfl (fxl fx_74) rfl dX12_mower_91 ?_
        refine P_aload_n C dX12_mower_94 0 rfl ?_
        refine P_getI C fa_X12_mower_7 kd_74 rfl (fxl fx_74) dX12_mower_95 ?_
        refine P_iconst C dX12_mower_98 (v := (0 : Int32)) rfl ?_
        obtain ⟨hv18, h⟩ := h
        refine P_iast C kd_108 (fxl fx_108) hv18 dX12_mower_99 ?_
        refine P_nm (fun σ19 eσ19 => ?_)
        have h := h σ19 eσ19
        refine P_aload_n C dX12_mower_100 0 rfl ?_
        refine P_getS C (e := 110) fa_X12_mower_41 kd_74 (d := 36) rfl (fxl fx_74) rfl dX12_mower_101 ?_
        refine P_aload_n C dX12_mower_104 0 rfl ?_
        refine P_getI C fa_X12_mower_7 kd_74 rfl (fxl fx_74) dX12_mower_105 ?_
        refine P_aload_n C dX12_mower_108 0 rfl ?_
        refine P_getI C fa_X12_mower_7 kd_74 rfl (fxl fx_74) dX12_mower_109 ?_
        obtain ⟨hv20, h⟩ := h
        refine P_iast C kd_110 (fxl fx_110) hv20 dX12_mower_112 ?_
        refine P_nm (fun σ21 eσ21 => ?_)
        have h := h σ21 eσ21
        refine P_iconst C dX12_mower_113 (v := (0 : Int32)) rfl ?_
        refine P_istore_n C dX12_mower_114 (by rw [hN]; decide) rfl ?_
        exact P_sub [1, 0] rfl h
      · have h := h.2 q7
        refine P_bipush C dX12_mower_36 (v := (-4 : Int32)) rfl ?_
        exact P_iret C dX12_mower_38 h
    · have h := h.2 q6
      refine P_bipush C dX12_mower_24 (v := (-2 : Int32)) rfl ?_
      exact P_iret C dX12_mower_26 h
  · have h := h.2 q3
    refine P_iconst C dX12_mower_11 (v := (-1 : Int32)) rfl ?_
    exact P_iret C dX12_mower_12 h
set_option maxRecDepth 100000 in
set_option maxHeartbeats 4000000 in
theorem s_X12_mower_115 {M : Mx} {Qk : Int32 → Sg → Prop} (C : Cx M cX12_mower (some .int) RX12 wsX12_mower (rmz 1) 0 0 (QI (mV M) Qk)) (hN : mN M = 4) {x3 : Int32} {σ : Sg} (h : (((4 : Int32) ≤ x3 → (∀ σ2 : Sg, σ2 = si σ 74 0 ((gi σ 74 0) + (1 : Int32)) → (∀ σ3 : Sg, σ3 = si σ2 74 2 (gi σ2 74 0) → Qk ((gi σ3 74 0) - (1 : Int32)) σ3))) ∧ (¬ (4 : Int32) ≤ x3 → (vp_in (((4 : Int32) * (gi σ 74 0)) + x3) 24 ∧ (∀ σ5 : Sg, σ5 = si σ 109 (((4 : Int32) * (gi σ 74 0)) + x3).toNatClampNeg (0 : Int32) → (∀ v6 : Int32, v6 = x3 + 1 → PS M 115 [(0, .ref 74), (3, .int v6)] [] σ5 (0, 0))))))) : PS M 115 [(0, .ref 74), (3, .int x3)] [] σ (0, 0) := by
  refine P_iload_n C dX12_mower_115 1 rfl ?_
  refine P_iconst C dX12_mower_116 (v := (4 : Int32)) rfl ?_
  refine P_icmp_ge C dX12_mower_117 (tgt := 140) (by decide +kernel) (fun q1 => ?_) (fun q1 => ?_)
  · have h := h.1 q1
    refine P_aload_n C dX12_mower_140 0 rfl ?_
    refine P_dup C dX12_mower_141 rfl ?_
    refine P_getI C fa_X12_mower_7 kd_74 rfl (fxl fx_74) dX12_mower_142 ?_
    refine P_iconst C dX12_mower_145 (v := (1 : Int32)) rfl ?_
    refine P_iadd C dX12_mower_146 ?_
    refine P_putI C pa_X12_mower_7 kd_74 rfl (fxl fx_74) dX12_mower_147 ?_
    refine P_nm (fun σ2 eσ2 => ?_)
    have h := h σ2 eσ2
    refine P_aload_n C dX12_mower_150 0 rfl ?_
    refine P_aload_n C dX12_mower_151 0 rfl ?_
    refine P_getI C fa_X12_mower_7 kd_74 rfl (fxl fx_74) dX12_mower_152 ?_
    refine P_putI C pa_X12_mower_16 kd_74 rfl (fxl fx_74) dX12_mower_155 ?_
    refine P_nm (fun σ3 eσ3 => ?_)
    have h := h σ3 eσ3
    refine P_aload_n C dX12_mower_158 0 rfl ?_
    refine P_getI C fa_X12_mower_7 kd_74 rfl (fxl fx_74) dX12_mower_159 ?_
    refine P_iconst C dX12_mower_162 (v := (1 : Int32)) rfl ?_
    refine P_isub C dX12_mower_163 ?_
    exact P_iret C dX12_mower_164 h
  · have h := h.2 q1
    refine P_aload_n C dX12_mower_120 0 rfl ?_
    refine P_getS C (e := 109) fa_X12_mower_38 kd_74 (d := 35) rfl (fxl fx_74) rfl dX12_mower_121 ?_
    refine P_iconst C dX12_mower_124 (v := (4 : Int32)) rfl ?_
    refine P_aload_n C dX12_mower_125 0 rfl ?_
    refine P_getI C fa_X12_mower_7 kd_74 rfl (fxl fx_74) dX12_mower_126 ?_
    refine P_imul C dX12_mower_129 ?_
    refine P_iload_n C dX12_mower_130 1 rfl ?_
    refine P_iadd C dX12_mower_131 ?_
    refine P_iconst C dX12_mower_132 (v := (0 : Int32)) rfl ?_
    obtain ⟨hv4, h⟩ := h
    refine P_iast C kd_109 (fxl fx_109) hv4 dX12_mower_133 ?_
    refine P_nm (fun σ5 eσ5 => ?_)
    have h := h σ5 eσ5
    obtain ⟨v6, ev6⟩ : ∃ v : Int32, v = x3 + 1 := ⟨_, rfl⟩
    have h := h v6 ev6
    refine P_iinc (v := v6) C dX12_mower_134 1 rfl (by rw [ev6]; rfl) (by rw [hN]; decide) rfl ?_
    refine P_goto C dX12_mower_137 (tgt := 115) (by decide +kernel) ?_
    exact P_sub [1, 0] rfl h
theorem kv_X12_feed_X12_in : KV RX12 wsX12_feed (rmz 1) 239 RX12 yX12_in wsX12_in (rmz 0) 3 := ⟨_, _, _, _, gX12_feed_X12_in, rfl, by decide +kernel, by decide +kernel⟩
theorem fa_X12_feed_50 : FA RX12 wsX12_feed 50 12 13 "NineMowersModel" := by
  show _ ∧ _ ∧ _ ∧ _
  exact ⟨by decide +kernel, fun _ h => List.mem_cons_of_mem _ (List.mem_append_right _ h), List.mem_of_getElem? (i := 1) rfl, Or.inl rfl⟩
theorem fa_X12_feed_59 : FA RX12 wsX12_feed 59 12 16 "NineMowersModel" := by
  show _ ∧ _ ∧ _ ∧ _
  exact ⟨by decide +kernel, fun _ h => List.mem_cons_of_mem _ (List.mem_append_right _ h), List.mem_of_getElem? (i := 2) rfl, Or.inl rfl⟩
theorem pa_X12_feed_50 : PA RX12 wsX12_feed 50 12 13 "NineMowersModel" .int := by
  show _ ∧ _ ∧ _ ∧ _ ∧ _ ∧ _ ∧ _ ∧ _
  exact ⟨by decide +kernel, fun _ h => List.mem_cons_of_mem _ (List.mem_append_right _ h), List.mem_of_getElem? (i := 1) rfl, rfl, rfl, by decide +kernel, ⟨tyX12, tyX12_ok⟩, nmX12⟩
noncomputable def K_X12_feed (l : Launch) (V : Vx) (a1 : Int32) (σ : Sg) (Qk : Int32 → Sg → Prop) : Prop := Ka l V yX12_feed wsX12_feed (rmz 1) 0 0 [.ref 74, .int a1] σ (QI V Qk)
theorem e_X12_feed {l : Launch} {V : Vx} {a1 : Int32} {σ : Sg} {Qk : Int32 → Sg → Prop} (h : ∀ M : Mx, mL M = l → mV M = V → mN M = 2 → Cx M cX12_feed (some .int) RX12 wsX12_feed (rmz 1) 0 0 (QI (mV M) Qk) → PS M 0 [(0, .ref 74), (1, .int a1)] [] σ (0, 0)) : K_X12_feed l V a1 σ Qk :=
  Ka_of (by decide +kernel) rfl rfl (Nat.le_of_ble_eq_true rfl) (fun M h1 h2 h3 C => h M h1 h2 h3 (by rw [h2]; exact C))
set_option maxRecDepth 100000 in
set_option maxHeartbeats 4000000 in
theorem s_X12_feed_0 {M : Mx} {Qk : Int32 → Sg → Prop} (C : Cx M cX12_feed (some .int) RX12 wsX12_feed (rmz 1) 0 0 (QI (mV M) Qk)) (hN : mN M = 2) {a1 : Int32} {σ : Sg} (h : K_X12_in (mL M) (mV M) a1 (0 : Int32) (127 : Int32) σ (fun r2 σ1 => ((¬ r2 = 0 → ((¬ (gi σ1 74 13) = (100 : Int32) → (vp_in (gi σ1 74 13) 100 ∧ (∀ σ6 : Sg, σ6 = si σ1 116 (gi σ1 74 13).toNatClampNeg a1 → (∀ σ7 : Sg, σ7 = si σ6 74 13 ((gi σ6 74 13) + (1 : Int32)) → Qk (gi σ7 74 13) σ7)))) ∧ ((gi σ1 74 13) = (100 : Int32) → Qk (-4 : Int32) σ1))) ∧ (r2 = 0 → Qk (-2 : Int32) σ1)))) : PS M 0 [(0, .ref 74), (1, .int a1)] [] σ (0, 0) := by
  refine P_aload_n C dX12_feed_0 0 rfl ?_
  refine P_iload_n C dX12_feed_1 1 rfl ?_
  refine P_iconst C dX12_feed_2 (v := (0 : Int32)) rfl ?_
  refine P_bipush C dX12_feed_3 (v := (127 : Int32)) rfl ?_
  refine P_ci (R_v (ci := 12) C kv_X12_feed_X12_in (As := [.int a1, .int (0 : Int32), .int (127 : Int32)]) rfl kd_74 rfl (fxl fx_74) (Nat.le_of_ble_eq_true rfl) dX12_feed_5 ⟨Nat.le_refl _, Nat.le_refl _⟩ h) (fun r2 σ1 h => ?_)
  refine P_if_ne C dX12_feed_8 (tgt := 14) (by decide +kernel) (fun q3 => ?_) (fun q3 => ?_)
  · have h := h.1 q3
    refine P_aload_n C dX12_feed_14 0 rfl ?_
    refine P_getI C fa_X12_feed_50 kd_74 rfl (fxl fx_74) dX12_feed_15 ?_
    refine P_bipush C dX12_feed_18 (v := (100 : Int32)) rfl ?_
    refine P_icmp_ne C dX12_feed_20 (tgt := 26) (by decide +kernel) (fun q4 => ?_) (fun q4 => ?_)
    · have h := h.1 q4
      refine P_aload_n C dX12_feed_26 0 rfl ?_
      refine P_getS C (e := 116) fa_X12_feed_59 kd_74 (d := 42) rfl (fxl fx_74) rfl dX12_feed_27 ?_
      refine P_aload_n C dX12_feed_30 0 rfl ?_
      refine P_getI C fa_X12_feed_50 kd_74 rfl (fxl fx_74) dX12_feed_31 ?_
      refine P_iload_n C dX12_feed_34 1 rfl ?_
      obtain ⟨hv5, h⟩ := h
      refine P_iast C kd_116 (fxl fx_116) hv5 dX12_feed_35 ?_
      refine P_nm (fun σ6 eσ6 => ?_)
      have h := h σ6 eσ6
      refine P_aload_n C dX12_feed_36 0 rfl ?_
      refine P_dup C dX12_feed_37 rfl ?_
      refine P_getI C fa_X12_feed_50 kd_74 rfl (fxl fx_74) dX12_feed_38 ?_
      refine P_iconst C dX12_feed_41 (v := (1 : Int32)) rfl ?_
      refine P_iadd C dX12_feed_42 ?_
      refine P_putI C pa_X12_feed_50 kd_74 rfl (fxl fx_74) dX12_feed_43 ?_
      refine P_nm (fun σ7 eσ7 => ?_)
      have h := h σ7 eσ7
      refine P_aload_n C dX12_feed_46 0 rfl ?_
      refine P_getI C fa_X12_feed_50 kd_74 rfl (fxl fx_74) dX12_feed_47 ?_
      exact P_iret C dX12_feed_50 h
    · have h := h.2 q4
      refine P_bipush C dX12_feed_23 (v := (-4 : Int32)) rfl ?_
      exact P_iret C dX12_feed_25 h
  · have h := h.2 q3
    refine P_bipush C dX12_feed_11 (v := (-2 : Int32)) rfl ?_
    exact P_iret C dX12_feed_13 h
theorem kv_X12_takes_X12_next : KV RX12 wsX12_takes (rmz 1) 251 RX12 yX12_next wsX12_next (rmz 0) 0 := ⟨_, _, _, _, gX12_takes_X12_next, rfl, by decide +kernel, by decide +kernel⟩
theorem fa_X12_takes_53 : FA RX12 wsX12_takes 53 12 14 "NineMowersModel" := by
  show _ ∧ _ ∧ _ ∧ _
  exact ⟨by decide +kernel, fun _ h => List.mem_cons_of_mem _ (List.mem_append_right _ h), List.mem_of_getElem? (i := 1) rfl, Or.inl rfl⟩
theorem pa_X12_takes_53 : PA RX12 wsX12_takes 53 12 14 "NineMowersModel" .int := by
  show _ ∧ _ ∧ _ ∧ _ ∧ _ ∧ _ ∧ _ ∧ _
  exact ⟨by decide +kernel, fun _ h => List.mem_cons_of_mem _ (List.mem_append_right _ h), List.mem_of_getElem? (i := 1) rfl, rfl, rfl, by decide +kernel, ⟨tyX12, tyX12_ok⟩, nmX12⟩
noncomputable def K_X12_takes (l : Launch) (V : Vx) (a1 : Int32) (σ : Sg) (Qk : Int32 → Sg → Prop) : Prop := Ka l V yX12_takes wsX12_takes (rmz 1) 0 0 [.ref 74, .int a1] σ (QI V Qk)
theorem e_X12_takes {l : Launch} {V : Vx} {a1 : Int32} {σ : Sg} {Qk : Int32 → Sg → Prop} (h : ∀ M : Mx, mL M = l → mV M = V → mN M = 2 → Cx M cX12_takes (some .boolean) RX12 wsX12_takes (rmz 1) 0 0 (QI (mV M) Qk) → PS M 0 [(0, .ref 74), (1, .int a1)] [] σ (0, 0)) : K_X12_takes l V a1 σ Qk :=
  Ka_of (by decide +kernel) rfl rfl (Nat.le_of_ble_eq_true rfl) (fun M h1 h2 h3 C => h M h1 h2 h3 (by rw [h2]; exact C))
set_option maxRecDepth 100000 in
set_option maxHeartbeats 4000000 in
theorem s_X12_takes_0 {M : Mx} {Qk : Int32 → Sg → Prop} (C : Cx M cX12_takes (some .boolean) RX12 wsX12_takes (rmz 1) 0 0 (QI (mV M) Qk)) (hN : mN M = 2) {a1 : Int32} {σ : Sg} (h : K_X12_next (mL M) (mV M) σ (fun r2 σ1 => ((r2 = a1 → (∀ σ4 : Sg, σ4 = si σ1 74 14 ((gi σ1 74 14) + (1 : Int32)) → Qk (1 : Int32) σ4)) ∧ (¬ r2 = a1 → Qk (0 : Int32) σ1)))) : PS M 0 [(0, .ref 74), (1, .int a1)] [] σ (0, 0) := by
  refine P_aload_n C dX12_takes_0 0 rfl ?_
  refine P_ci (R_v (ci := 12) C kv_X12_takes_X12_next (As := []) rfl kd_74 rfl (fxl fx_74) (Nat.le_of_ble_eq_true rfl) dX12_takes_1 ⟨Nat.le_refl _, Nat.le_refl _⟩ h) (fun r2 σ1 h => ?_)
  refine P_iload_n C dX12_takes_4 1 rfl ?_
  refine P_icmp_eq C dX12_takes_5 (tgt := 10) (by decide +kernel) (fun q3 => ?_) (fun q3 => ?_)
  · have h := h.1 q3
    refine P_aload_n C dX12_takes_10 0 rfl ?_
    refine P_dup C dX12_takes_11 rfl ?_
    refine P_getI C fa_X12_takes_53 kd_74 rfl (fxl fx_74) dX12_takes_12 ?_
    refine P_iconst C dX12_takes_15 (v := (1 : Int32)) rfl ?_
    refine P_iadd C dX12_takes_16 ?_
    refine P_putI C pa_X12_takes_53 kd_74 rfl (fxl fx_74) dX12_takes_17 ?_
    refine P_nm (fun σ4 eσ4 => ?_)
    have h := h σ4 eσ4
    refine P_iconst C dX12_takes_20 (v := (1 : Int32)) rfl ?_
    exact P_zret C (by decide +kernel) dX12_takes_21 h
  · have h := h.2 q3
    refine P_iconst C dX12_takes_8 (v := (0 : Int32)) rfl ?_
    exact P_zret C (by decide +kernel) dX12_takes_9 h
theorem kv_X12_isDigit_X12_next : KV RX12 wsX12_isDigit (rmz 1) 251 RX12 yX12_next wsX12_next (rmz 0) 0 := ⟨_, _, _, _, gX12_isDigit_X12_next, rfl, by decide +kernel, by decide +kernel⟩
theorem kv_X12_isDigit_X12_in : KV RX12 wsX12_isDigit (rmz 1) 239 RX12 yX12_in wsX12_in (rmz 0) 3 := ⟨_, _, _, _, gX12_isDigit_X12_in, rfl, by decide +kernel, by decide +kernel⟩
noncomputable def K_X12_isDigit (l : Launch) (V : Vx) (σ : Sg) (Qk : Int32 → Sg → Prop) : Prop := Ka l V yX12_isDigit wsX12_isDigit (rmz 1) 0 0 [.ref 74] σ (QI V Qk)
theorem e_X12_isDigit {l : Launch} {V : Vx} {σ : Sg} {Qk : Int32 → Sg → Prop} (h : ∀ M : Mx, mL M = l → mV M = V → mN M = 1 → Cx M cX12_isDigit (some .boolean) RX12 wsX12_isDigit (rmz 1) 0 0 (QI (mV M) Qk) → PS M 0 [(0, .ref 74)] [] σ (0, 0)) : K_X12_isDigit l V σ Qk :=
  Ka_of (by decide +kernel) rfl rfl (Nat.le_of_ble_eq_true rfl) (fun M h1 h2 h3 C => h M h1 h2 h3 (by rw [h2]; exact C))
set_option maxRecDepth 100000 in
set_option maxHeartbeats 4000000 in
theorem s_X12_isDigit_0 {M : Mx} {Qk : Int32 → Sg → Prop} (C : Cx M cX12_isDigit (some .boolean) RX12 wsX12_isDigit (rmz 1) 0 0 (QI (mV M) Qk)) (hN : mN M = 1) {σ : Sg} (h : K_X12_next (mL M) (mV M) σ (fun r2 σ1 => K_X12_in (mL M) (mV M) r2 (48 : Int32) (57 : Int32) σ1 (fun r4 σ3 => (narrow .boolean (.int r4) = .int r4 ∧ Qk r4 σ3)))) : PS M 0 [(0, .ref 74)] [] σ (0, 0) := by
  refine P_aload_n C dX12_isDigit_0 0 rfl ?_
  refine P_aload_n C dX12_isDigit_1 0 rfl ?_
  refine P_ci (R_v (ci := 12) C kv_X12_isDigit_X12_next (As := []) rfl kd_74 rfl (fxl fx_74) (Nat.le_of_ble_eq_true rfl) dX12_isDigit_2 ⟨Nat.le_refl _, Nat.le_refl _⟩ h) (fun r2 σ1 h => ?_)
  refine P_bipush C dX12_isDigit_5 (v := (48 : Int32)) rfl ?_
  refine P_bipush C dX12_isDigit_7 (v := (57 : Int32)) rfl ?_
  refine P_ci (R_v (ci := 12) C kv_X12_isDigit_X12_in (As := [.int r2, .int (48 : Int32), .int (57 : Int32)]) rfl kd_74 rfl (fxl fx_74) (Nat.le_of_ble_eq_true rfl) dX12_isDigit_9 ⟨Nat.le_refl _, Nat.le_refl _⟩ h) (fun r4 σ3 h => ?_)
  exact P_zret C h.1 dX12_isDigit_12 h.2
theorem fa_X12_whole_86 : FA RX12 wsX12_whole 86 12 25 "NineMowersModel" := by
  show _ ∧ _ ∧ _ ∧ _
  exact ⟨by decide +kernel, fun _ h => List.mem_cons_of_mem _ (List.mem_append_right _ h), List.mem_of_getElem? (i := 1) rfl, Or.inl rfl⟩
theorem fa_X12_whole_80 : FA RX12 wsX12_whole 80 12 23 "NineMowersModel" := by
  show _ ∧ _ ∧ _ ∧ _
  exact ⟨by decide +kernel, fun _ h => List.mem_cons_of_mem _ (List.mem_append_right _ h), List.mem_of_getElem? (i := 2) rfl, Or.inl rfl⟩
theorem kv_X12_whole_X12_emits : KV RX12 wsX12_whole (rmz 1) 262 RX12 yX12_emits wsX12_emits (rmz 0) 1 := ⟨_, _, _, _, gX12_whole_X12_emits, rfl, by decide +kernel, by decide +kernel⟩
theorem pa_X12_whole_86 : PA RX12 wsX12_whole 86 12 25 "NineMowersModel" .int := by
  show _ ∧ _ ∧ _ ∧ _ ∧ _ ∧ _ ∧ _ ∧ _
  exact ⟨by decide +kernel, fun _ h => List.mem_cons_of_mem _ (List.mem_append_right _ h), List.mem_of_getElem? (i := 1) rfl, rfl, rfl, by decide +kernel, ⟨tyX12, tyX12_ok⟩, nmX12⟩
theorem fa_X12_whole_89 : FA RX12 wsX12_whole 89 12 26 "NineMowersModel" := by
  show _ ∧ _ ∧ _ ∧ _
  exact ⟨by decide +kernel, fun _ h => List.mem_cons_of_mem _ (List.mem_append_right _ h), List.mem_of_getElem? (i := 3) rfl, Or.inl rfl⟩
theorem pa_X12_whole_89 : PA RX12 wsX12_whole 89 12 26 "NineMowersModel" .int := by
  show _ ∧ _ ∧ _ ∧ _ ∧ _ ∧ _ ∧ _ ∧ _
  exact ⟨by decide +kernel, fun _ h => List.mem_cons_of_mem _ (List.mem_append_right _ h), List.mem_of_getElem? (i := 3) rfl, rfl, rfl, by decide +kernel, ⟨tyX12, tyX12_ok⟩, nmX12⟩
noncomputable def K_X12_whole (l : Launch) (V : Vx) (σ : Sg) (Qk : Sg → Prop) : Prop := Ka l V yX12_whole wsX12_whole (rmz 1) 0 0 [.ref 74] σ (QV V Qk)
theorem e_X12_whole {l : Launch} {V : Vx} {σ : Sg} {Qk : Sg → Prop} (h : ∀ M : Mx, mL M = l → mV M = V → mN M = 1 → Cx M cX12_whole none RX12 wsX12_whole (rmz 1) 0 0 (QV (mV M) Qk) → PS M 0 [(0, .ref 74)] [] σ (0, 0)) : K_X12_whole l V σ Qk :=
  Ka_of (by decide +kernel) rfl rfl (Nat.le_of_ble_eq_true rfl) (fun M h1 h2 h3 C => h M h1 h2 h3 (by rw [h2]; exact C))
set_option maxRecDepth 100000 in
set_option maxHeartbeats 4000000 in
theorem s_X12_whole_0 {M : Mx} {Qk : Sg → Prop} (C : Cx M cX12_whole none RX12 wsX12_whole (rmz 1) 0 0 (QV (mV M) Qk)) (hN : mN M = 1) {σ : Sg} (h : (((gi σ 74 25) ≤ 0 → Qk σ) ∧ (¬ (gi σ 74 25) ≤ 0 → (vp_in ((gi σ 74 25) - (1 : Int32)) 101 ∧ ((¬ (gi σ 123 ((gi σ 74 25) - (1 : Int32)).toNatClampNeg) = (33 : Int32) → Qk σ) ∧ ((gi σ 123 ((gi σ 74 25) - (1 : Int32)).toNatClampNeg) = (33 : Int32) → K_X12_emits (mL M) (mV M) (-33 : Int32) σ (fun σ4 => (∀ σ5 : Sg, σ5 = si σ4 74 25 ((gi σ4 74 25) - (1 : Int32)) → (∀ σ6 : Sg, σ6 = si σ5 74 26 ((gi σ5 74 26) - (1 : Int32)) → PS M 0 [(0, .ref 74)] [] σ6 (0, 0)))))))))) : PS M 0 [(0, .ref 74)] [] σ (0, 0) := by
  refine P_aload_n C dX12_whole_0 0 rfl ?_
  refine P_getI C fa_X12_whole_86 kd_74 rfl (fxl fx_74) dX12_whole_1 ?_
  refine P_if_le C dX12_whole_4 (tgt := 52) (by decide +kernel) (fun q1 => ?_) (fun q1 => ?_)
  · have h := h.1 q1
    exact P_vret C dX12_whole_52 h
  · have h := h.2 q1
    refine P_aload_n C dX12_whole_7 0 rfl ?_
    refine P_getS C (e := 123) fa_X12_whole_80 kd_74 (d := 49) rfl (fxl fx_74) rfl dX12_whole_8 ?_
    refine P_aload_n C dX12_whole_11 0 rfl ?_
    refine P_getI C fa_X12_whole_86 kd_74 rfl (fxl fx_74) dX12_whole_12 ?_
    refine P_iconst C dX12_whole_15 (v := (1 : Int32)) rfl ?_
    refine P_isub C dX12_whole_16 ?_
    obtain ⟨hv2, h⟩ := h
    refine P_iald C kd_123 (fxl fx_123) hv2 dX12_whole_17 ?_
    refine P_bipush C dX12_whole_18 (v := (33 : Int32)) rfl ?_
    refine P_icmp_ne C dX12_whole_20 (tgt := 52) (by decide +kernel) (fun q3 => ?_) (fun q3 => ?_)
    · have h := h.1 q3
      exact P_vret C dX12_whole_52 h
    · have h := h.2 q3
      refine P_aload_n C dX12_whole_23 0 rfl ?_
      refine P_bipush C dX12_whole_24 (v := (-33 : Int32)) rfl ?_
      refine P_cv (R_v (ci := 12) C kv_X12_whole_X12_emits (As := [.int (-33 : Int32)]) rfl kd_74 rfl (fxl fx_74) (Nat.le_of_ble_eq_true rfl) dX12_whole_26 ⟨Nat.le_refl _, Nat.le_refl _⟩ h) (fun σ4 h => ?_)
      refine P_aload_n C dX12_whole_29 0 rfl ?_
      refine P_dup C dX12_whole_30 rfl ?_
      refine P_getI C fa_X12_whole_86 kd_74 rfl (fxl fx_74) dX12_whole_31 ?_
      refine P_iconst C dX12_whole_34 (v := (1 : Int32)) rfl ?_
      refine P_isub C dX12_whole_35 ?_
      refine P_putI C pa_X12_whole_86 kd_74 rfl (fxl fx_74) dX12_whole_36 ?_
      refine P_nm (fun σ5 eσ5 => ?_)
      have h := h σ5 eσ5
      refine P_aload_n C dX12_whole_39 0 rfl ?_
      refine P_dup C dX12_whole_40 rfl ?_
      refine P_getI C fa_X12_whole_89 kd_74 rfl (fxl fx_74) dX12_whole_41 ?_
      refine P_iconst C dX12_whole_44 (v := (1 : Int32)) rfl ?_
      refine P_isub C dX12_whole_45 ?_
      refine P_putI C pa_X12_whole_89 kd_74 rfl (fxl fx_74) dX12_whole_46 ?_
      refine P_nm (fun σ6 eσ6 => ?_)
      have h := h σ6 eσ6
      refine P_goto C dX12_whole_49 (tgt := 0) (by decide +kernel) ?_
      exact P_sub [0] rfl h
theorem fa_X12_settle_86 : FA RX12 wsX12_settle 86 12 25 "NineMowersModel" := by
  show _ ∧ _ ∧ _ ∧ _
  exact ⟨by decide +kernel, fun _ h => List.mem_cons_of_mem _ (List.mem_append_right _ h), List.mem_of_getElem? (i := 1) rfl, Or.inl rfl⟩
theorem fa_X12_settle_80 : FA RX12 wsX12_settle 80 12 23 "NineMowersModel" := by
  show _ ∧ _ ∧ _ ∧ _
  exact ⟨by decide +kernel, fun _ h => List.mem_cons_of_mem _ (List.mem_append_right _ h), List.mem_of_getElem? (i := 2) rfl, Or.inl rfl⟩
theorem pa_X12_settle_86 : PA RX12 wsX12_settle 86 12 25 "NineMowersModel" .int := by
  show _ ∧ _ ∧ _ ∧ _ ∧ _ ∧ _ ∧ _ ∧ _
  exact ⟨by decide +kernel, fun _ h => List.mem_cons_of_mem _ (List.mem_append_right _ h), List.mem_of_getElem? (i := 1) rfl, rfl, rfl, by decide +kernel, ⟨tyX12, tyX12_ok⟩, nmX12⟩
theorem kv_X12_settle_X12_emits : KV RX12 wsX12_settle (rmz 1) 262 RX12 yX12_emits wsX12_emits (rmz 0) 1 := ⟨_, _, _, _, gX12_settle_X12_emits, rfl, by decide +kernel, by decide +kernel⟩
noncomputable def K_X12_settle (l : Launch) (V : Vx) (a1 : Int32) (σ : Sg) (Qk : Sg → Prop) : Prop := Ka l V yX12_settle wsX12_settle (rmz 1) 0 0 [.ref 74, .int a1] σ (QV V Qk)
theorem e_X12_settle {l : Launch} {V : Vx} {a1 : Int32} {σ : Sg} {Qk : Sg → Prop} (h : ∀ M : Mx, mL M = l → mV M = V → mN M = 2 → Cx M cX12_settle none RX12 wsX12_settle (rmz 1) 0 0 (QV (mV M) Qk) → PS M 0 [(0, .ref 74), (1, .int a1)] [] σ (0, 0)) : K_X12_settle l V a1 σ Qk :=
  Ka_of (by decide +kernel) rfl rfl (Nat.le_of_ble_eq_true rfl) (fun M h1 h2 h3 C => h M h1 h2 h3 (by rw [h2]; exact C))
set_option maxRecDepth 100000 in
set_option maxHeartbeats 4000000 in
theorem s_X12_settle_0 {M : Mx} {Qk : Sg → Prop} (C : Cx M cX12_settle none RX12 wsX12_settle (rmz 1) 0 0 (QV (mV M) Qk)) (hN : mN M = 2) {x1 : Int32} {σ : Sg} (h : (((gi σ 74 25) ≤ 0 → Qk σ) ∧ (¬ (gi σ 74 25) ≤ 0 → (vp_in ((gi σ 74 25) - (1 : Int32)) 101 ∧ (((gi σ 123 ((gi σ 74 25) - (1 : Int32)).toNatClampNeg) = (38 : Int32) → PS M 45 [(0, .ref 74), (1, .int x1)] [] σ (0, 0)) ∧ (¬ (gi σ 123 ((gi σ 74 25) - (1 : Int32)).toNatClampNeg) = (38 : Int32) → (vp_in ((gi σ 74 25) - (1 : Int32)) 101 ∧ ((¬ (gi σ 123 ((gi σ 74 25) - (1 : Int32)).toNatClampNeg) = (124 : Int32) → Qk σ) ∧ ((gi σ 123 ((gi σ 74 25) - (1 : Int32)).toNatClampNeg) = (124 : Int32) → ((x1 = (38 : Int32) → Qk σ) ∧ (¬ x1 = (38 : Int32) → PS M 45 [(0, .ref 74), (1, .int x1)] [] σ (0, 0)))))))))))) : PS M 0 [(0, .ref 74), (1, .int x1)] [] σ (0, 0) := by
  refine P_aload_n C dX12_settle_0 0 rfl ?_
  refine P_getI C fa_X12_settle_86 kd_74 rfl (fxl fx_74) dX12_settle_1 ?_
  refine P_if_le C dX12_settle_4 (tgt := 72) (by decide +kernel) (fun q1 => ?_) (fun q1 => ?_)
  · have h := h.1 q1
    exact P_vret C dX12_settle_72 h
  · have h := h.2 q1
    refine P_aload_n C dX12_settle_7 0 rfl ?_
    refine P_getS C (e := 123) fa_X12_settle_80 kd_74 (d := 49) rfl (fxl fx_74) rfl dX12_settle_8 ?_
    refine P_aload_n C dX12_settle_11 0 rfl ?_
    refine P_getI C fa_X12_settle_86 kd_74 rfl (fxl fx_74) dX12_settle_12 ?_
    refine P_iconst C dX12_settle_15 (v := (1 : Int32)) rfl ?_
    refine P_isub C dX12_settle_16 ?_
    obtain ⟨hv2, h⟩ := h
    refine P_iald C kd_123 (fxl fx_123) hv2 dX12_settle_17 ?_
    refine P_bipush C dX12_settle_18 (v := (38 : Int32)) rfl ?_
    refine P_icmp_eq C dX12_settle_20 (tgt := 45) (by decide +kernel) (fun q3 => ?_) (fun q3 => ?_)
    · have h := h.1 q3
      exact P_sub [0, 1] rfl h
    · have h := h.2 q3
      refine P_aload_n C dX12_settle_23 0 rfl ?_
      refine P_getS C (e := 123) fa_X12_settle_80 kd_74 (d := 49) rfl (fxl fx_74) rfl dX12_settle_24 ?_
      refine P_aload_n C dX12_settle_27 0 rfl ?_
      refine P_getI C fa_X12_settle_86 kd_74 rfl (fxl fx_74) dX12_settle_28 ?_
      refine P_iconst C dX12_settle_31 (v := (1 : Int32)) rfl ?_
      refine P_isub C dX12_settle_32 ?_
      obtain ⟨hv4, h⟩ := h
      refine P_iald C kd_123 (fxl fx_123) hv4 dX12_settle_33 ?_
      refine P_bipush C dX12_settle_34 (v := (124 : Int32)) rfl ?_
      refine P_icmp_ne C dX12_settle_36 (tgt := 72) (by decide +kernel) (fun q5 => ?_) (fun q5 => ?_)
      · have h := h.1 q5
        exact P_vret C dX12_settle_72 h
      · have h := h.2 q5
        refine P_iload_n C dX12_settle_39 1 rfl ?_
        refine P_bipush C dX12_settle_40 (v := (38 : Int32)) rfl ?_
        refine P_icmp_eq C dX12_settle_42 (tgt := 72) (by decide +kernel) (fun q6 => ?_) (fun q6 => ?_)
        · have h := h.1 q6
          exact P_vret C dX12_settle_72 h
        · have h := h.2 q6
          exact P_sub [0, 1] rfl h
set_option maxRecDepth 100000 in
set_option maxHeartbeats 4000000 in
theorem s_X12_settle_45 {M : Mx} {Qk : Sg → Prop} (C : Cx M cX12_settle none RX12 wsX12_settle (rmz 1) 0 0 (QV (mV M) Qk)) (hN : mN M = 2) {x1 : Int32} {σ : Sg} (h : (∀ σ1 : Sg, σ1 = si σ 74 25 ((gi σ 74 25) - (1 : Int32)) → (vp_in (gi σ1 74 25) 101 ∧ K_X12_emits (mL M) (mV M) (-(gi σ1 123 (gi σ1 74 25).toNatClampNeg)) σ1 (fun σ3 => PS M 0 [(0, .ref 74), (1, .int x1)] [] σ3 (0, 0))))) : PS M 45 [(0, .ref 74), (1, .int x1)] [] σ (0, 0) := by
  refine P_aload_n C dX12_settle_45 0 rfl ?_
  refine P_dup C dX12_settle_46 rfl ?_
  refine P_getI C fa_X12_settle_86 kd_74 rfl (fxl fx_74) dX12_settle_47 ?_
  refine P_iconst C dX12_settle_50 (v := (1 : Int32)) rfl ?_
  refine P_isub C dX12_settle_51 ?_
  refine P_putI C pa_X12_settle_86 kd_74 rfl (fxl fx_74) dX12_settle_52 ?_
  refine P_nm (fun σ1 eσ1 => ?_)
  have h := h σ1 eσ1
  refine P_aload_n C dX12_settle_55 0 rfl ?_
  refine P_aload_n C dX12_settle_56 0 rfl ?_
  refine P_getS C (e := 123) fa_X12_settle_80 kd_74 (d := 49) rfl (fxl fx_74) rfl dX12_settle_57 ?_
  refine P_aload_n C dX12_settle_60 0 rfl ?_
  refine P_getI C fa_X12_settle_86 kd_74 rfl (fxl fx_74) dX12_settle_61 ?_
  obtain ⟨hv2, h⟩ := h
  refine P_iald C kd_123 (fxl fx_123) hv2 dX12_settle_64 ?_
  refine P_ineg C dX12_settle_65 ?_
  refine P_cv (R_v (ci := 12) C kv_X12_settle_X12_emits (As := [.int (-(gi σ1 123 (gi σ1 74 25).toNatClampNeg))]) rfl kd_74 rfl (fxl fx_74) (Nat.le_of_ble_eq_true rfl) dX12_settle_66 ⟨Nat.le_refl _, Nat.le_refl _⟩ h) (fun σ3 h => ?_)
  refine P_goto C dX12_settle_69 (tgt := 0) (by decide +kernel) ?_
  exact P_sub [0, 1] rfl h
theorem kv_X12_lastOf_X12_begin : KV RX12 wsX12_lastOf (rmz 1) 297 RX12 yX12_begin wsX12_begin (rmz 0) 0 := ⟨_, _, _, _, gX12_lastOf_X12_begin, rfl, by decide +kernel, by decide +kernel⟩
theorem kv_X12_lastOf_X12_behind : KV RX12 wsX12_lastOf (rmz 1) 300 RX12 yX12_behind wsX12_behind (rmz 0) 0 := ⟨_, _, _, _, gX12_lastOf_X12_behind, rfl, by decide +kernel, by decide +kernel⟩
theorem fa_X12_lastOf_65 : FA RX12 wsX12_lastOf 65 12 18 "NineMowersModel" := by
  show _ ∧ _ ∧ _ ∧ _
  exact ⟨by decide +kernel, fun _ h => List.mem_cons_of_mem _ (List.mem_append_right _ h), List.mem_of_getElem? (i := 1) rfl, Or.inl rfl⟩
theorem fa_X12_lastOf_68 : FA RX12 wsX12_lastOf 68 12 19 "NineMowersModel" := by
  show _ ∧ _ ∧ _ ∧ _
  exact ⟨by decide +kernel, fun _ h => List.mem_cons_of_mem _ (List.mem_append_right _ h), List.mem_of_getElem? (i := 2) rfl, Or.inl rfl⟩
noncomputable def K_X12_lastOf (l : Launch) (V : Vx) (a1 : Int32) (a2 : Int32) (σ : Sg) (Qk : Int32 → Sg → Prop) : Prop := Ka l V yX12_lastOf wsX12_lastOf (rmz 1) 0 0 [.ref 74, .int a1, .int a2] σ (QI V Qk)
theorem e_X12_lastOf {l : Launch} {V : Vx} {a1 : Int32} {a2 : Int32} {σ : Sg} {Qk : Int32 → Sg → Prop} (h : ∀ M : Mx, mL M = l → mV M = V → mN M = 5 → Cx M cX12_lastOf (some .int) RX12 wsX12_lastOf (rmz 1) 0 0 (QI (mV M) Qk) → PS M 0 [(0, .ref 74), (1, .int a1), (2, .int a2)] [] σ (0, 0)) : K_X12_lastOf l V a1 a2 σ Qk :=
  Ka_of (by decide +kernel) rfl rfl (Nat.le_of_ble_eq_true rfl) (fun M h1 h2 h3 C => h M h1 h2 h3 (by rw [h2]; exact C))
set_option maxRecDepth 100000 in
set_option maxHeartbeats 4000000 in
theorem s_X12_lastOf_0 {M : Mx} {Qk : Int32 → Sg → Prop} (C : Cx M cX12_lastOf (some .int) RX12 wsX12_lastOf (rmz 1) 0 0 (QI (mV M) Qk)) (hN : mN M = 5) {a1 : Int32} {a2 : Int32} {σ : Sg} (h : K_X12_begin (mL M) (mV M) σ (fun r2 σ1 => PS M 8 [(0, .ref 74), (1, .int a1), (3, .int a2), (4, .int r2)] [] σ1 (0, 0))) : PS M 0 [(0, .ref 74), (1, .int a1), (2, .int a2)] [] σ (0, 0) := by
  refine P_iload_n C dX12_lastOf_0 2 rfl ?_
  refine P_istore_n C dX12_lastOf_1 (by rw [hN]; decide) rfl ?_
  refine P_aload_n C dX12_lastOf_2 1 rfl ?_
  refine P_ci (R_v (ci := 12) C kv_X12_lastOf_X12_begin (As := []) rfl kd_74 rfl (fxl fx_74) (Nat.le_of_ble_eq_true rfl) dX12_lastOf_3 ⟨Nat.le_refl _, Nat.le_refl _⟩ h) (fun r2 σ1 h => ?_)
  refine P_istore C dX12_lastOf_6 (by rw [hN]; decide) rfl ?_
  exact P_sub [2, 3, 1, 0] rfl h
set_option maxRecDepth 100000 in
set_option maxHeartbeats 4000000 in
theorem s_X12_lastOf_8 {M : Mx} {Qk : Int32 → Sg → Prop} (C : Cx M cX12_lastOf (some .int) RX12 wsX12_lastOf (rmz 1) 0 0 (QI (mV M) Qk)) (hN : mN M = 5) {x1 : Int32} {x3 : Int32} {x4 : Int32} {σ : Sg} (h : K_X12_behind (mL M) (mV M) σ (fun r2 σ1 => ((r2 ≤ x4 → Qk x3 σ1) ∧ (¬ r2 ≤ x4 → (vp_in x4 60 ∧ ((¬ (gi σ1 118 x4.toNatClampNeg) = x1 → (∀ v6 : Int32, v6 = x4 + 1 → PS M 8 [(0, .ref 74), (1, .int x1), (3, .int x3), (4, .int v6)] [] σ1 (0, 0))) ∧ ((gi σ1 118 x4.toNatClampNeg) = x1 → (vp_in x4 60 ∧ (∀ v8 : Int32, v8 = gi σ1 119 x4.toNatClampNeg → (∀ v9 : Int32, v9 = x4 + 1 → PS M 8 [(0, .ref 74), (1, .int x1), (3, .int v8), (4, .int v9)] [] σ1 (0, 0))))))))))) : PS M 8 [(0, .ref 74), (1, .int x1), (3, .int x3), (4, .int x4)] [] σ (0, 0) := by
  refine P_iload C dX12_lastOf_8 3 rfl ?_
  refine P_aload_n C dX12_lastOf_10 0 rfl ?_
  refine P_ci (R_v (ci := 12) C kv_X12_lastOf_X12_behind (As := []) rfl kd_74 rfl (fxl fx_74) (Nat.le_of_ble_eq_true rfl) dX12_lastOf_11 ⟨Nat.le_refl _, Nat.le_refl _⟩ h) (fun r2 σ1 h => ?_)
  refine P_icmp_ge C dX12_lastOf_14 (tgt := 46) (by decide +kernel) (fun q3 => ?_) (fun q3 => ?_)
  · have h := h.1 q3
    refine P_iload_n C dX12_lastOf_46 2 rfl ?_
    exact P_iret C dX12_lastOf_47 h
  · have h := h.2 q3
    refine P_aload_n C dX12_lastOf_17 0 rfl ?_
    refine P_getS C (e := 118) fa_X12_lastOf_65 kd_74 (d := 44) rfl (fxl fx_74) rfl dX12_lastOf_18 ?_
    refine P_iload C dX12_lastOf_21 3 rfl ?_
    obtain ⟨hv4, h⟩ := h
    refine P_iald C kd_118 (fxl fx_118) hv4 dX12_lastOf_23 ?_
    refine P_iload_n C dX12_lastOf_24 1 rfl ?_
    refine P_icmp_ne C dX12_lastOf_25 (tgt := 38) (by decide +kernel) (fun q5 => ?_) (fun q5 => ?_)
    · have h := h.1 q5
      refine P_iload_n C dX12_lastOf_38 2 rfl ?_
      refine P_istore_n C dX12_lastOf_39 (by rw [hN]; decide) rfl ?_
      obtain ⟨v6, ev6⟩ : ∃ v : Int32, v = x4 + 1 := ⟨_, rfl⟩
      have h := h v6 ev6
      refine P_iinc (v := v6) C dX12_lastOf_40 3 rfl (by rw [ev6]; rfl) (by rw [hN]; decide) rfl ?_
      refine P_goto C dX12_lastOf_43 (tgt := 8) (by decide +kernel) ?_
      exact P_sub [2, 3, 1, 0] rfl h
    · have h := h.2 q5
      refine P_aload_n C dX12_lastOf_28 0 rfl ?_
      refine P_getS C (e := 119) fa_X12_lastOf_68 kd_74 (d := 45) rfl (fxl fx_74) rfl dX12_lastOf_29 ?_
      refine P_iload C dX12_lastOf_32 3 rfl ?_
      obtain ⟨hv7, h⟩ := h
      refine P_iald C kd_119 (fxl fx_119) hv7 dX12_lastOf_34 ?_
      refine P_goto C dX12_lastOf_35 (tgt := 39) (by decide +kernel) ?_
      refine P_nmi (fun v8 ev8 => ?_)
      have h := h v8 ev8
      refine P_istore_n C dX12_lastOf_39 (by rw [hN]; decide) rfl ?_
      obtain ⟨v9, ev9⟩ : ∃ v : Int32, v = x4 + 1 := ⟨_, rfl⟩
      have h := h v9 ev9
      refine P_iinc (v := v9) C dX12_lastOf_40 3 rfl (by rw [ev9]; rfl) (by rw [hN]; decide) rfl ?_
      refine P_goto C dX12_lastOf_43 (tgt := 8) (by decide +kernel) ?_
      exact P_sub [2, 3, 1, 0] rfl h
theorem fa_X12_holds_71 : FA RX12 wsX12_holds 71 12 20 "NineMowersModel" := by
  show _ ∧ _ ∧ _ ∧ _
  exact ⟨by decide +kernel, fun _ h => List.mem_cons_of_mem _ (List.mem_append_right _ h), List.mem_of_getElem? (i := 1) rfl, Or.inl rfl⟩
theorem fa_X12_holds_74 : FA RX12 wsX12_holds 74 12 21 "NineMowersModel" := by
  show _ ∧ _ ∧ _ ∧ _
  exact ⟨by decide +kernel, fun _ h => List.mem_cons_of_mem _ (List.mem_append_right _ h), List.mem_of_getElem? (i := 2) rfl, Or.inl rfl⟩
theorem fa_X12_holds_98 : FA RX12 wsX12_holds 98 12 29 "NineMowersModel" := by
  show _ ∧ _ ∧ _ ∧ _
  exact ⟨by decide +kernel, fun _ h => List.mem_cons_of_mem _ (List.mem_append_right _ h), List.mem_of_getElem? (i := 4) rfl, Or.inl rfl⟩
theorem fa_X12_holds_77 : FA RX12 wsX12_holds 77 12 22 "NineMowersModel" := by
  show _ ∧ _ ∧ _ ∧ _
  exact ⟨by decide +kernel, fun _ h => List.mem_cons_of_mem _ (List.mem_append_right _ h), List.mem_of_getElem? (i := 3) rfl, Or.inl rfl⟩
theorem kv_X12_holds_X12_factOf : KV RX12 wsX12_holds (rmz 1) 310 RX12 yX12_factOf wsX12_factOf (rmz 0) 2 := ⟨_, _, _, _, gX12_holds_X12_factOf, rfl, by decide +kernel, by decide +kernel⟩
noncomputable def K_X12_holds (l : Launch) (V : Vx) (a1 : Int32) (a2 : Int32) (σ : Sg) (Qk : Int32 → Sg → Prop) : Prop := Ka l V yX12_holds wsX12_holds (rmz 1) 0 0 [.ref 74, .int a1, .int a2] σ (QI V Qk)
theorem e_X12_holds {l : Launch} {V : Vx} {a1 : Int32} {a2 : Int32} {σ : Sg} {Qk : Int32 → Sg → Prop} (h : ∀ M : Mx, mL M = l → mV M = V → mN M = 8 → Cx M cX12_holds (some .boolean) RX12 wsX12_holds (rmz 1) 0 0 (QI (mV M) Qk) → PS M 0 [(0, .ref 74), (1, .int a1), (2, .int a2)] [] σ (0, 0)) : K_X12_holds l V a1 a2 σ Qk :=
  Ka_of (by decide +kernel) rfl rfl (Nat.le_of_ble_eq_true rfl) (fun M h1 h2 h3 C => h M h1 h2 h3 (by rw [h2]; exact C))
set_option maxRecDepth 100000 in
set_option maxHeartbeats 4000000 in
theorem s_X12_holds_0 {M : Mx} {Qk : Int32 → Sg → Prop} (C : Cx M cX12_holds (some .boolean) RX12 wsX12_holds (rmz 1) 0 0 (QI (mV M) Qk)) (hN : mN M = 8) {a1 : Int32} {a2 : Int32} {σ : Sg} (h : (vp_in a1 60 ∧ (∀ v2 : Int32, v2 = gi σ 120 a1.toNatClampNeg → PS M 10 [(0, .ref 74), (1, .int a1), (2, .int a2), (3, .int (0 : Int32)), (4, .int v2)] [] σ (0, 0)))) : PS M 0 [(0, .ref 74), (1, .int a1), (2, .int a2)] [] σ (0, 0) := by
  refine P_iconst C dX12_holds_0 (v := (0 : Int32)) rfl ?_
  refine P_istore_n C dX12_holds_1 (by rw [hN]; decide) rfl ?_
  refine P_aload_n C dX12_holds_2 1 rfl ?_
  refine P_getS C (e := 120) fa_X12_holds_71 kd_74 (d := 46) rfl (fxl fx_74) rfl dX12_holds_3 ?_
  refine P_iload_n C dX12_holds_6 2 rfl ?_
  obtain ⟨hv1, h⟩ := h
  refine P_iald C kd_120 (fxl fx_120) hv1 dX12_holds_7 ?_
  refine P_nmi (fun v2 ev2 => ?_)
  have h := h v2 ev2
  refine P_istore C dX12_holds_8 (by rw [hN]; decide) rfl ?_
  exact P_sub [2, 3, 4, 1, 0] rfl h
set_option maxRecDepth 100000 in
set_option maxHeartbeats 4000000 in
theorem s_X12_holds_10 {M : Mx} {Qk : Int32 → Sg → Prop} (C : Cx M cX12_holds (some .boolean) RX12 wsX12_holds (rmz 1) 0 0 (QI (mV M) Qk)) (hN : mN M = 8) {x1 : Int32} {x2 : Int32} {x3 : Int32} {x4 : Int32} {σ : Sg} (h : (vp_in x1 60 ∧ (((gi σ 121 x1.toNatClampNeg) ≤ x4 → (vp_in (0 : Int32) 100 ∧ (narrow .boolean (.int (gi σ 129 (0 : Int32).toNatClampNeg)) = .int (gi σ 129 (0 : Int32).toNatClampNeg) ∧ Qk (gi σ 129 (0 : Int32).toNatClampNeg) σ))) ∧ (¬ (gi σ 121 x1.toNatClampNeg) ≤ x4 → (vp_in x4 600 ∧ (∀ v5 : Int32, v5 = gi σ 122 x4.toNatClampNeg → ((¬ v5 = (-33 : Int32) → ((0 ≤ v5 → K_X12_factOf (mL M) (mV M) (v5 / (1000 : Int32)) x2 σ (fun r9 σ8 => (∀ v10 : Int32, v10 = (v5 / (100 : Int32)) - (v5 / (100 : Int32)) / (10 : Int32) * (10 : Int32) → ((¬ v10 = 0 → ((¬ v10 = (1 : Int32) → ((r9 ≤ (v5 - v5 / (100 : Int32) * (100 : Int32)) → (vp_in x3 100 ∧ (∀ σ15 : Sg, σ15 = si σ8 129 x3.toNatClampNeg (vp_nar .boolean (0 : Int32)) → (∀ v16 : Int32, v16 = x3 + 1 → (∀ v17 : Int32, v17 = x4 + 1 → PS M 10 [(0, .ref 74), (1, .int x1), (2, .int x2), (3, .int v16), (4, .int v17)] [] σ15 (0, 0)))))) ∧ (¬ r9 ≤ (v5 - v5 / (100 : Int32) * (100 : Int32)) → (vp_in x3 100 ∧ (∀ σ19 : Sg, σ19 = si σ8 129 x3.toNatClampNeg (vp_nar .boolean (1 : Int32)) → (∀ v20 : Int32, v20 = x3 + 1 → (∀ v21 : Int32, v21 = x4 + 1 → PS M 10 [(0, .ref 74), (1, .int x1), (2, .int x2), (3, .int v20), (4, .int v21)] [] σ19 (0, 0)))))))) ∧ (v10 = (1 : Int32) → ((¬ r9 = (v5 - v5 / (100 : Int32) * (100 : Int32)) → (vp_in x3 100 ∧ (∀ σ24 : Sg, σ24 = si σ8 129 x3.toNatClampNeg (vp_nar .boolean (0 : Int32)) → (∀ v25 : Int32, v25 = x3 + 1 → (∀ v26 : Int32, v26 = x4 + 1 → PS M 10 [(0, .ref 74), (1, .int x1), (2, .int x2), (3, .int v25), (4, .int v26)] [] σ24 (0, 0)))))) ∧ (r9 = (v5 - v5 / (100 : Int32) * (100 : Int32)) → (vp_in x3 100 ∧ (∀ σ28 : Sg, σ28 = si σ8 129 x3.toNatClampNeg (vp_nar .boolean (1 : Int32)) → (∀ v29 : Int32, v29 = x3 + 1 → (∀ v30 : Int32, v30 = x4 + 1 → PS M 10 [(0, .ref 74), (1, .int x1), (2, .int x2), (3, .int v29), (4, .int v30)] [] σ28 (0, 0)))))))))) ∧ (v10 = 0 → (((v5 - v5 / (100 : Int32) * (100 : Int32)) ≤ r9 → (vp_in x3 100 ∧ (∀ σ33 : Sg, σ33 = si σ8 129 x3.toNatClampNeg (vp_nar .boolean (0 : Int32)) → (∀ v34 : Int32, v34 = x3 + 1 → (∀ v35 : Int32, v35 = x4 + 1 → PS M 10 [(0, .ref 74), (1, .int x1), (2, .int x2), (3, .int v34), (4, .int v35)] [] σ33 (0, 0)))))) ∧ (¬ (v5 - v5 / (100 : Int32) * (100 : Int32)) ≤ r9 → (vp_in x3 100 ∧ (∀ σ37 : Sg, σ37 = si σ8 129 x3.toNatClampNeg (vp_nar .boolean (1 : Int32)) → (∀ v38 : Int32, v38 = x3 + 1 → (∀ v39 : Int32, v39 = x4 + 1 → PS M 10 [(0, .ref 74), (1, .int x1), (2, .int x2), (3, .int v38), (4, .int v39)] [] σ37 (0, 0)))))))))))) ∧ (¬ 0 ≤ v5 → (∀ v40 : Int32, v40 = x3 - 1 → ((¬ v5 = (-38 : Int32) → (vp_in (v40 - (1 : Int32)) 100 ∧ ((¬ (gi σ 129 (v40 - (1 : Int32)).toNatClampNeg) = 0 → (vp_in (v40 - (1 : Int32)) 100 ∧ (∀ σ45 : Sg, σ45 = si σ 129 (v40 - (1 : Int32)).toNatClampNeg (vp_nar .boolean (1 : Int32)) → (∀ v46 : Int32, v46 = x4 + 1 → PS M 10 [(0, .ref 74), (1, .int x1), (2, .int x2), (3, .int v40), (4, .int v46)] [] σ45 (0, 0))))) ∧ ((gi σ 129 (v40 - (1 : Int32)).toNatClampNeg) = 0 → (vp_in v40 100 ∧ (((gi σ 129 v40.toNatClampNeg) = 0 → (vp_in (v40 - (1 : Int32)) 100 ∧ (∀ σ50 : Sg, σ50 = si σ 129 (v40 - (1 : Int32)).toNatClampNeg (vp_nar .boolean (0 : Int32)) → (∀ v51 : Int32, v51 = x4 + 1 → PS M 10 [(0, .ref 74), (1, .int x1), (2, .int x2), (3, .int v40), (4, .int v51)] [] σ50 (0, 0))))) ∧ (¬ (gi σ 129 v40.toNatClampNeg) = 0 → (vp_in (v40 - (1 : Int32)) 100 ∧ (∀ σ53 : Sg, σ53 = si σ 129 (v40 - (1 : Int32)).toNatClampNeg (vp_nar .boolean (1 : Int32)) → (∀ v54 : Int32, v54 = x4 + 1 → PS M 10 [(0, .ref 74), (1, .int x1), (2, .int x2), (3, .int v40), (4, .int v54)] [] σ53 (0, 0))))))))))) ∧ (v5 = (-38 : Int32) → (vp_in (v40 - (1 : Int32)) 100 ∧ (((gi σ 129 (v40 - (1 : Int32)).toNatClampNeg) = 0 → (vp_in (v40 - (1 : Int32)) 100 ∧ (∀ σ58 : Sg, σ58 = si σ 129 (v40 - (1 : Int32)).toNatClampNeg (vp_nar .boolean (0 : Int32)) → (∀ v59 : Int32, v59 = x4 + 1 → PS M 10 [(0, .ref 74), (1, .int x1), (2, .int x2), (3, .int v40), (4, .int v59)] [] σ58 (0, 0))))) ∧ (¬ (gi σ 129 (v40 - (1 : Int32)).toNatClampNeg) = 0 → (vp_in v40 100 ∧ (((gi σ 129 v40.toNatClampNeg) = 0 → (vp_in (v40 - (1 : Int32)) 100 ∧ (∀ σ63 : Sg, σ63 = si σ 129 (v40 - (1 : Int32)).toNatClampNeg (vp_nar .boolean (0 : Int32)) → (∀ v64 : Int32, v64 = x4 + 1 → PS M 10 [(0, .ref 74), (1, .int x1), (2, .int x2), (3, .int v40), (4, .int v64)] [] σ63 (0, 0))))) ∧ (¬ (gi σ 129 v40.toNatClampNeg) = 0 → (vp_in (v40 - (1 : Int32)) 100 ∧ (∀ σ66 : Sg, σ66 = si σ 129 (v40 - (1 : Int32)).toNatClampNeg (vp_nar .boolean (1 : Int32)) → (∀ v67 : Int32, v67 = x4 + 1 → PS M 10 [(0, .ref 74), (1, .int x1), (2, .int x2), (3, .int v40), (4, .int v67)] [] σ66 (0, 0)))))))))))))))) ∧ (v5 = (-33 : Int32) → (vp_in (x3 - (1 : Int32)) 100 ∧ ((¬ (gi σ 129 (x3 - (1 : Int32)).toNatClampNeg) = 0 → (vp_in (x3 - (1 : Int32)) 100 ∧ (∀ σ71 : Sg, σ71 = si σ 129 (x3 - (1 : Int32)).toNatClampNeg (vp_nar .boolean (0 : Int32)) → (∀ v72 : Int32, v72 = x4 + 1 → PS M 10 [(0, .ref 74), (1, .int x1), (2, .int x2), (3, .int x3), (4, .int v72)] [] σ71 (0, 0))))) ∧ ((gi σ 129 (x3 - (1 : Int32)).toNatClampNeg) = 0 → (vp_in (x3 - (1 : Int32)) 100 ∧ (∀ σ74 : Sg, σ74 = si σ 129 (x3 - (1 : Int32)).toNatClampNeg (vp_nar .boolean (1 : Int32)) → (∀ v75 : Int32, v75 = x4 + 1 → PS M 10 [(0, .ref 74), (1, .int x1), (2, .int x2), (3, .int x3), (4, .int v75)] [] σ74 (0, 0))))))))))))))) : PS M 10 [(0, .ref 74), (1, .int x1), (2, .int x2), (3, .int x3), (4, .int x4)] [] σ (0, 0) := by
  refine P_iload C dX12_holds_10 4 rfl ?_
  refine P_aload_n C dX12_holds_12 0 rfl ?_
  refine P_getS C (e := 121) fa_X12_holds_74 kd_74 (d := 47) rfl (fxl fx_74) rfl dX12_holds_13 ?_
  refine P_iload_n C dX12_holds_16 1 rfl ?_
  obtain ⟨hv1, h⟩ := h
  refine P_iald C kd_121 (fxl fx_121) hv1 dX12_holds_17 ?_
  refine P_icmp_ge C dX12_holds_18 (tgt := 243) (by decide +kernel) (fun q2 => ?_) (fun q2 => ?_)
  · have h := h.1 q2
    refine P_aload_n C dX12_holds_243 0 rfl ?_
    refine P_getS C (e := 129) fa_X12_holds_98 kd_74 (d := 55) rfl (fxl fx_74) rfl dX12_holds_244 ?_
    refine P_iconst C dX12_holds_247 (v := (0 : Int32)) rfl ?_
    obtain ⟨hv3, h⟩ := h
    refine P_zald C kd_129 (fxl fx_129) hv3 dX12_holds_248 ?_
    exact P_zret C h.1 dX12_holds_249 h.2
  · have h := h.2 q2
    refine P_aload_n C dX12_holds_21 0 rfl ?_
    refine P_getS C (e := 122) fa_X12_holds_77 kd_74 (d := 48) rfl (fxl fx_74) rfl dX12_holds_22 ?_
    refine P_iload C dX12_holds_25 4 rfl ?_
    obtain ⟨hv4, h⟩ := h
    refine P_iald C kd_122 (fxl fx_122) hv4 dX12_holds_27 ?_
    refine P_nmi (fun v5 ev5 => ?_)
    have h := h v5 ev5
    refine P_istore C dX12_holds_28 (by rw [hN]; decide) rfl ?_
    refine P_iload C dX12_holds_30 0 rfl ?_
    refine P_bipush C dX12_holds_32 (v := (-33 : Int32)) rfl ?_
    refine P_icmp_ne C dX12_holds_34 (tgt := 64) (by decide +kernel) (fun q6 => ?_) (fun q6 => ?_)
    · have h := h.1 q6
      refine P_iload C dX12_holds_64 0 rfl ?_
      refine P_if_ge C dX12_holds_66 (tgt := 143) (by decide +kernel) (fun q7 => ?_) (fun q7 => ?_)
      · have h := h.1 q7
        refine P_aload_n C dX12_holds_143 1 rfl ?_
        refine P_iload C dX12_holds_144 0 rfl ?_
        refine P_sipush C dX12_holds_146 (v := (1000 : Int32)) rfl ?_
        refine P_idiv C dX12_holds_149 (by decide +kernel) ?_
        refine P_iload_n C dX12_holds_150 3 rfl ?_
        refine P_ci (R_v (ci := 12) C kv_X12_holds_X12_factOf (As := [.int (v5 / (1000 : Int32)), .int x2]) rfl kd_74 rfl (fxl fx_74) (Nat.le_of_ble_eq_true rfl) dX12_holds_151 ⟨Nat.le_refl _, Nat.le_refl _⟩ h) (fun r9 σ8 h => ?_)
        refine P_istore C dX12_holds_154 (by rw [hN]; decide) rfl ?_
        refine P_iload C dX12_holds_156 1 rfl ?_
        refine P_bipush C dX12_holds_158 (v := (100 : Int32)) rfl ?_
        refine P_idiv C dX12_holds_160 (by decide +kernel) ?_
        refine P_bipush C dX12_holds_161 (v := (10 : Int32)) rfl ?_
        refine P_irem C dX12_holds_163 (by decide +kernel) ?_
        refine P_nmi (fun v10 ev10 => ?_)
        have h := h v10 ev10
        refine P_istore C dX12_holds_164 (by rw [hN]; decide) rfl ?_
        refine P_aload_n C dX12_holds_166 3 rfl ?_
        refine P_getS C (e := 129) fa_X12_holds_98 kd_74 (d := 55) rfl (fxl fx_74) rfl dX12_holds_167 ?_
        refine P_iload_n C dX12_holds_170 6 rfl ?_
        refine P_iload C dX12_holds_171 0 rfl ?_
        refine P_if_ne C dX12_holds_173 (tgt := 194) (by decide +kernel) (fun q11 => ?_) (fun q11 => ?_)
        · have h := h.1 q11
          refine P_iload C dX12_holds_194 0 rfl ?_
          refine P_iconst C dX12_holds_196 (v := (1 : Int32)) rfl ?_
          refine P_icmp_ne C dX12_holds_197 (tgt := 218) (by decide +kernel) (fun q12 => ?_) (fun q12 => ?_)
          · have h := h.1 q12
            refine P_iload C dX12_holds_218 1 rfl ?_
            refine P_iload C dX12_holds_220 2 rfl ?_
            refine P_bipush C dX12_holds_222 (v := (100 : Int32)) rfl ?_
            refine P_irem C dX12_holds_224 (by decide +kernel) ?_
            refine P_icmp_le C dX12_holds_225 (tgt := 232) (by decide +kernel) (fun q13 => ?_) (fun q13 => ?_)
            · have h := h.1 q13
              refine P_iconst C dX12_holds_232 (v := (0 : Int32)) rfl ?_
              obtain ⟨hv14, h⟩ := h
              refine P_zast C kd_129 (fxl fx_129) hv14 dX12_holds_233 ?_
              refine P_nm (fun σ15 eσ15 => ?_)
              have h := h σ15 eσ15
              obtain ⟨v16, ev16⟩ : ∃ v : Int32, v = x3 + 1 := ⟨_, rfl⟩
              have h := h v16 ev16
              refine P_iinc (v := v16) C dX12_holds_234 6 rfl (by rw [ev16]; rfl) (by rw [hN]; decide) rfl ?_
              obtain ⟨v17, ev17⟩ : ∃ v : Int32, v = x4 + 1 := ⟨_, rfl⟩
              have h := h v17 ev17
              refine P_iinc (v := v17) C dX12_holds_237 7 rfl (by rw [ev17]; rfl) (by rw [hN]; decide) rfl ?_
              refine P_goto C dX12_holds_240 (tgt := 10) (by decide +kernel) ?_
              exact P_sub [5, 6, 7, 1, 0] rfl h
            · have h := h.2 q13
              refine P_iconst C dX12_holds_228 (v := (1 : Int32)) rfl ?_
              refine P_goto C dX12_holds_229 (tgt := 233) (by decide +kernel) ?_
              obtain ⟨hv18, h⟩ := h
              refine P_zast C kd_129 (fxl fx_129) hv18 dX12_holds_233 ?_
              refine P_nm (fun σ19 eσ19 => ?_)
              have h := h σ19 eσ19
              obtain ⟨v20, ev20⟩ : ∃ v : Int32, v = x3 + 1 := ⟨_, rfl⟩
              have h := h v20 ev20
              refine P_iinc (v := v20) C dX12_holds_234 6 rfl (by rw [ev20]; rfl) (by rw [hN]; decide) rfl ?_
              obtain ⟨v21, ev21⟩ : ∃ v : Int32, v = x4 + 1 := ⟨_, rfl⟩
              have h := h v21 ev21
              refine P_iinc (v := v21) C dX12_holds_237 7 rfl (by rw [ev21]; rfl) (by rw [hN]; decide) rfl ?_
              refine P_goto C dX12_holds_240 (tgt := 10) (by decide +kernel) ?_
              exact P_sub [5, 6, 7, 1, 0] rfl h
          · have h := h.2 q12
            refine P_iload C dX12_holds_200 1 rfl ?_
            refine P_iload C dX12_holds_202 2 rfl ?_
            refine P_bipush C dX12_holds_204 (v := (100 : Int32)) rfl ?_
            refine P_irem C dX12_holds_206 (by decide +kernel) ?_
            refine P_icmp_ne C dX12_holds_207 (tgt := 214) (by decide +kernel) (fun q22 => ?_) (fun q22 => ?_)
            · have h := h.1 q22
              refine P_iconst C dX12_holds_214 (v := (0 : Int32)) rfl ?_
              refine P_goto C dX12_holds_215 (tgt := 233) (by decide +kernel) ?_
              obtain ⟨hv23, h⟩ := h
              refine P_zast C kd_129 (fxl fx_129) hv23 dX12_holds_233 ?_
              refine P_nm (fun σ24 eσ24 => ?_)
              have h := h σ24 eσ24
              obtain ⟨v25, ev25⟩ : ∃ v : Int32, v = x3 + 1 := ⟨_, rfl⟩
              have h := h v25 ev25
              refine P_iinc (v := v25) C dX12_holds_234 6 rfl (by rw [ev25]; rfl) (by rw [hN]; decide) rfl ?_
              obtain ⟨v26, ev26⟩ : ∃ v : Int32, v = x4 + 1 := ⟨_, rfl⟩
              have h := h v26 ev26
              refine P_iinc (v := v26) C dX12_holds_237 7 rfl (by rw [ev26]; rfl) (by rw [hN]; decide) rfl ?_
              refine P_goto C dX12_holds_240 (tgt := 10) (by decide +kernel) ?_
              exact P_sub [5, 6, 7, 1, 0] rfl h
            · have h := h.2 q22
              refine P_iconst C dX12_holds_210 (v := (1 : Int32)) rfl ?_
              refine P_goto C dX12_holds_211 (tgt := 233) (by decide +kernel) ?_
              obtain ⟨hv27, h⟩ := h
              refine P_zast C kd_129 (fxl fx_129) hv27 dX12_holds_233 ?_
              refine P_nm (fun σ28 eσ28 => ?_)
              have h := h σ28 eσ28
              obtain ⟨v29, ev29⟩ : ∃ v : Int32, v = x3 + 1 := ⟨_, rfl⟩
              have h := h v29 ev29
              refine P_iinc (v := v29) C dX12_holds_234 6 rfl (by rw [ev29]; rfl) (by rw [hN]; decide) rfl ?_
              obtain ⟨v30, ev30⟩ : ∃ v : Int32, v = x4 + 1 := ⟨_, rfl⟩
              have h := h v30 ev30
              refine P_iinc (v := v30) C dX12_holds_237 7 rfl (by rw [ev30]; rfl) (by rw [hN]; decide) rfl ?_
              refine P_goto C dX12_holds_240 (tgt := 10) (by decide +kernel) ?_
              exact P_sub [5, 6, 7, 1, 0] rfl h
        · have h := h.2 q11
          refine P_iload C dX12_holds_176 1 rfl ?_
          refine P_iload C dX12_holds_178 2 rfl ?_
          refine P_bipush C dX12_holds_180 (v := (100 : Int32)) rfl ?_
          refine P_irem C dX12_holds_182 (by decide +kernel) ?_
          refine P_icmp_ge C dX12_holds_183 (tgt := 190) (by decide +kernel) (fun q31 => ?_) (fun q31 => ?_)
          · have h := h.1 q31
            refine P_iconst C dX12_holds_190 (v := (0 : Int32)) rfl ?_
            refine P_goto C dX12_holds_191 (tgt := 233) (by decide +kernel) ?_
            obtain ⟨hv32, h⟩ := h
            refine P_zast C kd_129 (fxl fx_129) hv32 dX12_holds_233 ?_
            refine P_nm (fun σ33 eσ33 => ?_)
            have h := h σ33 eσ33
            obtain ⟨v34, ev34⟩ : ∃ v : Int32, v = x3 + 1 := ⟨_, rfl⟩
            have h := h v34 ev34
            refine P_iinc (v := v34) C dX12_holds_234 6 rfl (by rw [ev34]; rfl) (by rw [hN]; decide) rfl ?_
            obtain ⟨v35, ev35⟩ : ∃ v : Int32, v = x4 + 1 := ⟨_, rfl⟩
            have h := h v35 ev35
            refine P_iinc (v := v35) C dX12_holds_237 7 rfl (by rw [ev35]; rfl) (by rw [hN]; decide) rfl ?_
            refine P_goto C dX12_holds_240 (tgt := 10) (by decide +kernel) ?_
            exact P_sub [5, 6, 7, 1, 0] rfl h
          · have h := h.2 q31
            refine P_iconst C dX12_holds_186 (v := (1 : Int32)) rfl ?_
            refine P_goto C dX12_holds_187 (tgt := 233) (by decide +kernel) ?_
            obtain ⟨hv36, h⟩ := h
            refine P_zast C kd_129 (fxl fx_129) hv36 dX12_holds_233 ?_
            refine P_nm (fun σ37 eσ37 => ?_)
            have h := h σ37 eσ37
            obtain ⟨v38, ev38⟩ : ∃ v : Int32, v = x3 + 1 := ⟨_, rfl⟩
            have h := h v38 ev38
            refine P_iinc (v := v38) C dX12_holds_234 6 rfl (by rw [ev38]; rfl) (by rw [hN]; decide) rfl ?_
            obtain ⟨v39, ev39⟩ : ∃ v : Int32, v = x4 + 1 := ⟨_, rfl⟩
            have h := h v39 ev39
            refine P_iinc (v := v39) C dX12_holds_237 7 rfl (by rw [ev39]; rfl) (by rw [hN]; decide) rfl ?_
            refine P_goto C dX12_holds_240 (tgt := 10) (by decide +kernel) ?_
            exact P_sub [5, 6, 7, 1, 0] rfl h
      · have h := h.2 q7
        obtain ⟨v40, ev40⟩ : ∃ v : Int32, v = x3 - 1 := ⟨_, rfl⟩
        have h := h v40 ev40
        refine P_iinc (v := v40) C dX12_holds_69 4 rfl (by rw [ev40]; exact sub_one _) (by rw [hN]; decide) rfl ?_
        refine P_aload_n C dX12_holds_72 2 rfl ?_
        refine P_getS C (e := 129) fa_X12_holds_98 kd_74 (d := 55) rfl (fxl fx_74) rfl dX12_holds_73 ?_
        refine P_iload_n C dX12_holds_76 0 rfl ?_
        refine P_iconst C dX12_holds_77 (v := (1 : Int32)) rfl ?_
        refine P_isub C dX12_holds_78 ?_
        refine P_iload C dX12_holds_79 1 rfl ?_
        refine P_bipush C dX12_holds_81 (v := (-38 : Int32)) rfl ?_
        refine P_icmp_ne C dX12_holds_83 (tgt := 114) (by decide +kernel) (fun q41 => ?_) (fun q41 => ?_)
        · have h := h.1 q41
          refine P_aload_n C dX12_holds_114 2 rfl ?_
          refine P_getS C (e := 129) fa_X12_holds_98 kd_74 (d := 55) rfl (fxl fx_74) rfl dX12_holds_115 ?_
          refine P_iload_n C dX12_holds_118 0 rfl ?_
          refine P_iconst C dX12_holds_119 (v := (1 : Int32)) rfl ?_
          refine P_isub C dX12_holds_120 ?_
          obtain ⟨hv42, h⟩ := h
          refine P_zald C kd_129 (fxl fx_129) hv42 dX12_holds_121 ?_
          refine P_if_ne C dX12_holds_122 (tgt := 134) (by decide +kernel) (fun q43 => ?_) (fun q43 => ?_)
          · have h := h.1 q43
            refine P_iconst C dX12_holds_134 (v := (1 : Int32)) rfl ?_
            refine P_goto C dX12_holds_135 (tgt := 139) (by decide +kernel) ?_
            obtain ⟨hv44, h⟩ := h
            refine P_zast C kd_129 (fxl fx_129) hv44 dX12_holds_139 ?_
            refine P_nm (fun σ45 eσ45 => ?_)
            have h := h σ45 eσ45
            refine P_goto C dX12_holds_140 (tgt := 237) (by decide +kernel) ?_
            obtain ⟨v46, ev46⟩ : ∃ v : Int32, v = x4 + 1 := ⟨_, rfl⟩
            have h := h v46 ev46
            refine P_iinc (v := v46) C dX12_holds_237 5 rfl (by rw [ev46]; rfl) (by rw [hN]; decide) rfl ?_
            refine P_goto C dX12_holds_240 (tgt := 10) (by decide +kernel) ?_
            exact P_sub [3, 4, 5, 1, 0] rfl h
          · have h := h.2 q43
            refine P_aload_n C dX12_holds_125 2 rfl ?_
            refine P_getS C (e := 129) fa_X12_holds_98 kd_74 (d := 55) rfl (fxl fx_74) rfl dX12_holds_126 ?_
            refine P_iload_n C dX12_holds_129 0 rfl ?_
            obtain ⟨hv47, h⟩ := h
            refine P_zald C kd_129 (fxl fx_129) hv47 dX12_holds_130 ?_
            refine P_if_eq C dX12_holds_131 (tgt := 138) (by decide +kernel) (fun q48 => ?_) (fun q48 => ?_)
            · have h := h.1 q48
              refine P_iconst C dX12_holds_138 (v := (0 : Int32)) rfl ?_
              obtain ⟨hv49, h⟩ := h
              refine P_zast C kd_129 (fxl fx_129) hv49 dX12_holds_139 ?_
              refine P_nm (fun σ50 eσ50 => ?_)
              have h := h σ50 eσ50
              refine P_goto C dX12_holds_140 (tgt := 237) (by decide +kernel) ?_
              obtain ⟨v51, ev51⟩ : ∃ v : Int32, v = x4 + 1 := ⟨_, rfl⟩
              have h := h v51 ev51
              refine P_iinc (v := v51) C dX12_holds_237 5 rfl (by rw [ev51]; rfl) (by rw [hN]; decide) rfl ?_
              refine P_goto C dX12_holds_240 (tgt := 10) (by decide +kernel) ?_
              exact P_sub [3, 4, 5, 1, 0] rfl h
            · have h := h.2 q48
              refine P_iconst C dX12_holds_134 (v := (1 : Int32)) rfl ?_
              refine P_goto C dX12_holds_135 (tgt := 139) (by decide +kernel) ?_
              obtain ⟨hv52, h⟩ := h
              refine P_zast C kd_129 (fxl fx_129) hv52 dX12_holds_139 ?_
              refine P_nm (fun σ53 eσ53 => ?_)
              have h := h σ53 eσ53
              refine P_goto C dX12_holds_140 (tgt := 237) (by decide +kernel) ?_
              obtain ⟨v54, ev54⟩ : ∃ v : Int32, v = x4 + 1 := ⟨_, rfl⟩
              have h := h v54 ev54
              refine P_iinc (v := v54) C dX12_holds_237 5 rfl (by rw [ev54]; rfl) (by rw [hN]; decide) rfl ?_
              refine P_goto C dX12_holds_240 (tgt := 10) (by decide +kernel) ?_
              exact P_sub [3, 4, 5, 1, 0] rfl h
        · have h := h.2 q41
          refine P_aload_n C dX12_holds_86 2 rfl ?_
          refine P_getS C (e := 129) fa_X12_holds_98 kd_74 (d := 55) rfl (fxl fx_74) rfl dX12_holds_87 ?_
          refine P_iload_n C dX12_holds_90 0 rfl ?_
          refine P_iconst C dX12_holds_91 (v := (1 : Int32)) rfl ?_
          refine P_isub C dX12_holds_92 ?_
          obtain ⟨hv55, h⟩ := h
          refine P_zald C kd_129 (fxl fx_129) hv55 dX12_holds_93 ?_
          refine P_if_eq C dX12_holds_94 (tgt := 110) (by decide +kernel) (fun q56 => ?_) (fun q56 => ?_)
          · have h := h.1 q56
            refine P_iconst C dX12_holds_110 (v := (0 : Int32)) rfl ?_
            refine P_goto C dX12_holds_111 (tgt := 139) (by decide +kernel) ?_
            obtain ⟨hv57, h⟩ := h
            refine P_zast C kd_129 (fxl fx_129) hv57 dX12_holds_139 ?_
            refine P_nm (fun σ58 eσ58 => ?_)
            have h := h σ58 eσ58
            refine P_goto C dX12_holds_140 (tgt := 237) (by decide +kernel) ?_
            obtain ⟨v59, ev59⟩ : ∃ v : Int32, v = x4 + 1 := ⟨_, rfl⟩
            have h := h v59 ev59
            refine P_iinc (v := v59) C dX12_holds_237 5 rfl (by rw [ev59]; rfl) (by rw [hN]; decide) rfl ?_
            refine P_goto C dX12_holds_240 (tgt := 10) (by decide +kernel) ?_
            exact P_sub [3, 4, 5, 1, 0] rfl h
          · have h := h.2 q56
            refine P_aload_n C dX12_holds_97 2 rfl ?_
            refine P_getS C (e := 129) fa_X12_holds_98 kd_74 (d := 55) rfl (fxl fx_74) rfl dX12_holds_98 ?_
            refine P_iload_n C dX12_holds_101 0 rfl ?_
            obtain ⟨hv60, h⟩ := h
            refine P_zald C kd_129 (fxl fx_129) hv60 dX12_holds_102 ?_
            refine P_if_eq C dX12_holds_103 (tgt := 110) (by decide +kernel) (fun q61 => ?_) (fun q61 => ?_)
            · have h := h.1 q61
              refine P_iconst C dX12_holds_110 (v := (0 : Int32)) rfl ?_
              refine P_goto C dX12_holds_111 (tgt := 139) (by decide +kernel) ?_
              obtain ⟨hv62, h⟩ := h
              refine P_zast C kd_129 (fxl fx_129) hv62 dX12_holds_139 ?_
              refine P_nm (fun σ63 eσ63 => ?_)
              have h := h σ63 eσ63
              refine P_goto C dX12_holds_140 (tgt := 237) (by decide +kernel) ?_
              obtain ⟨v64, ev64⟩ : ∃ v : Int32, v = x4 + 1 := ⟨_, rfl⟩
              have h := h v64 ev64
              refine P_iinc (v := v64) C dX12_holds_237 5 rfl (by rw [ev64]; rfl) (by rw [hN]; decide) rfl ?_
              refine P_goto C dX12_holds_240 (tgt := 10) (by decide +kernel) ?_
              exact P_sub [3, 4, 5, 1, 0] rfl h
            · have h := h.2 q61
              refine P_iconst C dX12_holds_106 (v := (1 : Int32)) rfl ?_
              refine P_goto C dX12_holds_107 (tgt := 139) (by decide +kernel) ?_
              obtain ⟨hv65, h⟩ := h
              refine P_zast C kd_129 (fxl fx_129) hv65 dX12_holds_139 ?_
              refine P_nm (fun σ66 eσ66 => ?_)
              have h := h σ66 eσ66
              refine P_goto C dX12_holds_140 (tgt := 237) (by decide +kernel) ?_
              obtain ⟨v67, ev67⟩ : ∃ v : Int32, v = x4 + 1 := ⟨_, rfl⟩
              have h := h v67 ev67
              refine P_iinc (v := v67) C dX12_holds_237 5 rfl (by rw [ev67]; rfl) (by rw [hN]; decide) rfl ?_
              refine P_goto C dX12_holds_240 (tgt := 10) (by decide +kernel) ?_
              exact P_sub [3, 4, 5, 1, 0] rfl h
    · have h := h.2 q6
      refine P_aload_n C dX12_holds_37 1 rfl ?_
      refine P_getS C (e := 129) fa_X12_holds_98 kd_74 (d := 55) rfl (fxl fx_74) rfl dX12_holds_38 ?_
      refine P_iload_n C dX12_holds_41 4 rfl ?_
      refine P_iconst C dX12_holds_42 (v := (1 : Int32)) rfl ?_
      refine P_isub C dX12_holds_43 ?_
      refine P_aload_n C dX12_holds_44 1 rfl ?_
      refine P_getS C (e := 129) fa_X12_holds_98 kd_74 (d := 55) rfl (fxl fx_74) rfl dX12_holds_45 ?_
      refine P_iload_n C dX12_holds_48 4 rfl ?_
      refine P_iconst C dX12_holds_49 (v := (1 : Int32)) rfl ?_
      refine P_isub C dX12_holds_50 ?_
      obtain ⟨hv68, h⟩ := h
      refine P_zald C kd_129 (fxl fx_129) hv68 dX12_holds_51 ?_
      refine P_if_ne C dX12_holds_52 (tgt := 59) (by decide +kernel) (fun q69 => ?_) (fun q69 => ?_)
      · have h := h.1 q69
        refine P_iconst C dX12_holds_59 (v := (0 : Int32)) rfl ?_
        obtain ⟨hv70, h⟩ := h
        refine P_zast C kd_129 (fxl fx_129) hv70 dX12_holds_60 ?_
        refine P_nm (fun σ71 eσ71 => ?_)
        have h := h σ71 eσ71
        refine P_goto C dX12_holds_61 (tgt := 237) (by decide +kernel) ?_
        obtain ⟨v72, ev72⟩ : ∃ v : Int32, v = x4 + 1 := ⟨_, rfl⟩
        have h := h v72 ev72
        refine P_iinc (v := v72) C dX12_holds_237 5 rfl (by rw [ev72]; rfl) (by rw [hN]; decide) rfl ?_
        refine P_goto C dX12_holds_240 (tgt := 10) (by decide +kernel) ?_
        exact P_sub [2, 3, 4, 5, 0] rfl h
      · have h := h.2 q69
        refine P_iconst C dX12_holds_55 (v := (1 : Int32)) rfl ?_
        refine P_goto C dX12_holds_56 (tgt := 60) (by decide +kernel) ?_
        obtain ⟨hv73, h⟩ := h
        refine P_zast C kd_129 (fxl fx_129) hv73 dX12_holds_60 ?_
        refine P_nm (fun σ74 eσ74 => ?_)
        have h := h σ74 eσ74
        refine P_goto C dX12_holds_61 (tgt := 237) (by decide +kernel) ?_
        obtain ⟨v75, ev75⟩ : ∃ v : Int32, v = x4 + 1 := ⟨_, rfl⟩
        have h := h v75 ev75
        refine P_iinc (v := v75) C dX12_holds_237 5 rfl (by rw [ev75]; rfl) (by rw [hN]; decide) rfl ?_
        refine P_goto C dX12_holds_240 (tgt := 10) (by decide +kernel) ?_
        exact P_sub [2, 3, 4, 5, 0] rfl h
theorem fa_X12_goWhet_7 : FA RX12 wsX12_goWhet 7 12 0 "NineMowersModel" := by
  show _ ∧ _ ∧ _ ∧ _
  exact ⟨by decide +kernel, fun _ h => List.mem_cons_of_mem _ (List.mem_append_right _ h), List.mem_of_getElem? (i := 1) rfl, Or.inl rfl⟩
theorem fa_X12_goWhet_13 : FA RX12 wsX12_goWhet 13 12 1 "NineMowersModel" := by
  show _ ∧ _ ∧ _ ∧ _
  exact ⟨by decide +kernel, fun _ h => List.mem_cons_of_mem _ (List.mem_append_right _ h), List.mem_of_getElem? (i := 5) rfl, Or.inl rfl⟩
theorem pa_X12_goWhet_13 : PA RX12 wsX12_goWhet 13 12 1 "NineMowersModel" .int := by
  show _ ∧ _ ∧ _ ∧ _ ∧ _ ∧ _ ∧ _ ∧ _
  exact ⟨by decide +kernel, fun _ h => List.mem_cons_of_mem _ (List.mem_append_right _ h), List.mem_of_getElem? (i := 5) rfl, rfl, rfl, by decide +kernel, ⟨tyX12, tyX12_ok⟩, nmX12⟩
theorem fa_X12_goWhet_29 : FA RX12 wsX12_goWhet 29 12 6 "NineMowersModel" := by
  show _ ∧ _ ∧ _ ∧ _
  exact ⟨by decide +kernel, fun _ h => List.mem_cons_of_mem _ (List.mem_append_right _ h), List.mem_of_getElem? (i := 2) rfl, Or.inl rfl⟩
theorem fa_X12_goWhet_32 : FA RX12 wsX12_goWhet 32 12 7 "NineMowersModel" := by
  show _ ∧ _ ∧ _ ∧ _
  exact ⟨by decide +kernel, fun _ h => List.mem_cons_of_mem _ (List.mem_append_right _ h), List.mem_of_getElem? (i := 3) rfl, Or.inl rfl⟩
theorem kv_X12_goWhet_X12_most : KV RX12 wsX12_goWhet (rmz 1) 307 RX12 yX12_most wsX12_most (rmz 0) 2 := ⟨_, _, _, _, gX12_goWhet_X12_most, rfl, by decide +kernel, by decide +kernel⟩
theorem fa_X12_goWhet_35 : FA RX12 wsX12_goWhet 35 12 8 "NineMowersModel" := by
  show _ ∧ _ ∧ _ ∧ _
  exact ⟨by decide +kernel, fun _ h => List.mem_cons_of_mem _ (List.mem_append_right _ h), List.mem_of_getElem? (i := 4) rfl, Or.inl rfl⟩
noncomputable def K_X12_goWhet (l : Launch) (V : Vx) (σ : Sg) (Qk : Sg → Prop) : Prop := Ka l V yX12_goWhet wsX12_goWhet (rmz 1) 0 0 [.ref 74] σ (QV V Qk)
theorem e_X12_goWhet {l : Launch} {V : Vx} {σ : Sg} {Qk : Sg → Prop} (h : ∀ M : Mx, mL M = l → mV M = V → mN M = 2 → Cx M cX12_goWhet none RX12 wsX12_goWhet (rmz 1) 0 0 (QV (mV M) Qk) → PS M 0 [(0, .ref 74)] [] σ (0, 0)) : K_X12_goWhet l V σ Qk :=
  Ka_of (by decide +kernel) rfl rfl (Nat.le_of_ble_eq_true rfl) (fun M h1 h2 h3 C => h M h1 h2 h3 (by rw [h2]; exact C))
set_option maxRecDepth 100000 in
set_option maxHeartbeats 4000000 in
theorem s_X12_goWhet_0 {M : Mx} {Qk : Sg → Prop} (C : Cx M cX12_goWhet none RX12 wsX12_goWhet (rmz 1) 0 0 (QV (mV M) Qk)) (hN : mN M = 2) {σ : Sg} (h : PS M 2 [(0, .ref 74), (1, .int (0 : Int32))] [] σ (0, 0)) : PS M 0 [(0, .ref 74)] [] σ (0, 0) := by
  refine P_iconst C dX12_goWhet_0 (v := (0 : Int32)) rfl ?_
  refine P_istore_n C dX12_goWhet_1 (by rw [hN]; decide) rfl ?_
  exact P_sub [1, 0] rfl h
set_option maxRecDepth 100000 in
set_option maxHeartbeats 4000000 in
theorem s_X12_goWhet_2 {M : Mx} {Qk : Sg → Prop} (C : Cx M cX12_goWhet none RX12 wsX12_goWhet (rmz 1) 0 0 (QV (mV M) Qk)) (hN : mN M = 2) {x1 : Int32} {σ : Sg} (h : (((gi σ 74 0) ≤ x1 → (∀ σ2 : Sg, σ2 = si σ 74 1 ((gi σ 74 1) + (1 : Int32)) → Qk σ2)) ∧ (¬ (gi σ 74 0) ≤ x1 → (vp_in x1 6 ∧ (∀ σ4 : Sg, σ4 = si σ 106 x1.toNatClampNeg (10 : Int32) → (vp_in x1 6 ∧ K_X12_most (mL M) (mV M) (0 : Int32) ((gi σ4 107 x1.toNatClampNeg) - (1 : Int32)) σ4 (fun r7 σ6 => (vp_in x1 6 ∧ (∀ σ9 : Sg, σ9 = si σ6 107 x1.toNatClampNeg r7 → (vp_in x1 6 ∧ K_X12_most (mL M) (mV M) (0 : Int32) ((gi σ9 108 x1.toNatClampNeg) - (1 : Int32)) σ9 (fun r12 σ11 => (vp_in x1 6 ∧ (∀ σ14 : Sg, σ14 = si σ11 108 x1.toNatClampNeg r12 → (∀ v15 : Int32, v15 = x1 + 1 → PS M 2 [(0, .ref 74), (1, .int v15)] [] σ14 (0, 0))))))))))))))) : PS M 2 [(0, .ref 74), (1, .int x1)] [] σ (0, 0) := by
  refine P_iload_n C dX12_goWhet_2 1 rfl ?_
  refine P_aload_n C dX12_goWhet_3 0 rfl ?_
  refine P_getI C fa_X12_goWhet_7 kd_74 rfl (fxl fx_74) dX12_goWhet_4 ?_
  refine P_icmp_ge C dX12_goWhet_7 (tgt := 62) (by decide +kernel) (fun q1 => ?_) (fun q1 => ?_)
  · have h := h.1 q1
    refine P_aload_n C dX12_goWhet_62 0 rfl ?_
    refine P_dup C dX12_goWhet_63 rfl ?_
    refine P_getI C fa_X12_goWhet_13 kd_74 rfl (fxl fx_74) dX12_goWhet_64 ?_
    refine P_iconst C dX12_goWhet_67 (v := (1 : Int32)) rfl ?_
    refine P_iadd C dX12_goWhet_68 ?_
    refine P_putI C pa_X12_goWhet_13 kd_74 rfl (fxl fx_74) dX12_goWhet_69 ?_
    refine P_nm (fun σ2 eσ2 => ?_)
    have h := h σ2 eσ2
    exact P_vret C dX12_goWhet_72 h
  · have h := h.2 q1
    refine P_aload_n C dX12_goWhet_10 0 rfl ?_
    refine P_getS C (e := 106) fa_X12_goWhet_29 kd_74 (d := 32) rfl (fxl fx_74) rfl dX12_goWhet_11 ?_
    refine P_iload_n C dX12_goWhet_14 1 rfl ?_
    refine P_bipush C dX12_goWhet_15 (v := (10 : Int32)) rfl ?_
    obtain ⟨hv3, h⟩ := h
    refine P_iast C kd_106 (fxl fx_106) hv3 dX12_goWhet_17 ?_
    refine P_nm (fun σ4 eσ4 => ?_)
    have h := h σ4 eσ4
    refine P_aload_n C dX12_goWhet_18 0 rfl ?_
    refine P_getS C (e := 107) fa_X12_goWhet_32 kd_74 (d := 33) rfl (fxl fx_74) rfl dX12_goWhet_19 ?_
    refine P_iload_n C dX12_goWhet_22 1 rfl ?_
    refine P_aload_n C dX12_goWhet_23 0 rfl ?_
    refine P_iconst C dX12_goWhet_24 (v := (0 : Int32)) rfl ?_
    refine P_aload_n C dX12_goWhet_25 0 rfl ?_
    refine P_getS C (e := 107) fa_X12_goWhet_32 kd_74 (d := 33) rfl (fxl fx_74) rfl dX12_goWhet_26 ?_
    refine P_iload_n C dX12_goWhet_29 1 rfl ?_
    obtain ⟨hv5, h⟩ := h
    refine P_iald C kd_107 (fxl fx_107) hv5 dX12_goWhet_30 ?_
    refine P_iconst C dX12_goWhet_31 (v := (1 : Int32)) rfl ?_
    refine P_isub C dX12_goWhet_32 ?_
    refine P_ci (R_v (ci := 12) C kv_X12_goWhet_X12_most (As := [.int (0 : Int32), .int ((gi σ4 107 x1.toNatClampNeg) - (1 : Int32))]) rfl kd_74 rfl (fxl fx_74) (Nat.le_of_ble_eq_true rfl) dX12_goWhet_33 ⟨Nat.le_refl _, Nat.le_refl _⟩ h) (fun r7 σ6 h => ?_)
    obtain ⟨hv8, h⟩ := h
    refine P_iast C kd_107 (fxl fx_107) hv8 dX12_goWhet_36 ?_
    refine P_nm (fun σ9 eσ9 => ?_)
    have h := h σ9 eσ9
    refine P_aload_n C dX12_goWhet_37 0 rfl ?_
    refine P_getS C (e := 108) fa_X12_goWhet_35 kd_74 (d := 34) rfl (fxl fx_74) rfl dX12_goWhet_38 ?_
    refine P_iload_n C dX12_goWhet_41 1 rfl ?_
    refine P_aload_n C dX12_goWhet_42 0 rfl ?_
    refine P_iconst C dX12_goWhet_43 (v := (0 : Int32)) rfl ?_
    refine P_aload_n C dX12_goWhet_44 0 rfl ?_
    refine P_getS C (e := 108) fa_X12_goWhet_35 kd_74 (d := 34) rfl (fxl fx_74) rfl dX12_goWhet_45 ?_
    refine P_iload_n C dX12_goWhet_48 1 rfl ?_
    obtain ⟨hv10, h⟩ := h
    refine P_iald C kd_108 (fxl fx_108) hv10 dX12_goWhet_49 ?_
    refine P_iconst C dX12_goWhet_50 (v := (1 : Int32)) rfl ?_
    refine P_isub C dX12_goWhet_51 ?_
    refine P_ci (R_v (ci := 12) C kv_X12_goWhet_X12_most (As := [.int (0 : Int32), .int ((gi σ9 108 x1.toNatClampNeg) - (1 : Int32))]) rfl kd_74 rfl (fxl fx_74) (Nat.le_of_ble_eq_true rfl) dX12_goWhet_52 ⟨Nat.le_refl _, Nat.le_refl _⟩ h) (fun r12 σ11 h => ?_)
    obtain ⟨hv13, h⟩ := h
    refine P_iast C kd_108 (fxl fx_108) hv13 dX12_goWhet_55 ?_
    refine P_nm (fun σ14 eσ14 => ?_)
    have h := h σ14 eσ14
    obtain ⟨v15, ev15⟩ : ∃ v : Int32, v = x1 + 1 := ⟨_, rfl⟩
    have h := h v15 ev15
    refine P_iinc (v := v15) C dX12_goWhet_56 1 rfl (by rw [ev15]; rfl) (by rw [hN]; decide) rfl ?_
    refine P_goto C dX12_goWhet_59 (tgt := 2) (by decide +kernel) ?_
    exact P_sub [1, 0] rfl h
theorem fa_X12_goPause_7 : FA RX12 wsX12_goPause 7 12 0 "NineMowersModel" := by
  show _ ∧ _ ∧ _ ∧ _
  exact ⟨by decide +kernel, fun _ h => List.mem_cons_of_mem _ (List.mem_append_right _ h), List.mem_of_getElem? (i := 1) rfl, Or.inl rfl⟩
theorem fa_X12_goPause_13 : FA RX12 wsX12_goPause 13 12 1 "NineMowersModel" := by
  show _ ∧ _ ∧ _ ∧ _
  exact ⟨by decide +kernel, fun _ h => List.mem_cons_of_mem _ (List.mem_append_right _ h), List.mem_of_getElem? (i := 4) rfl, Or.inl rfl⟩
theorem pa_X12_goPause_13 : PA RX12 wsX12_goPause 13 12 1 "NineMowersModel" .int := by
  show _ ∧ _ ∧ _ ∧ _ ∧ _ ∧ _ ∧ _ ∧ _
  exact ⟨by decide +kernel, fun _ h => List.mem_cons_of_mem _ (List.mem_append_right _ h), List.mem_of_getElem? (i := 4) rfl, rfl, rfl, by decide +kernel, ⟨tyX12, tyX12_ok⟩, nmX12⟩
theorem fa_X12_goPause_32 : FA RX12 wsX12_goPause 32 12 7 "NineMowersModel" := by
  show _ ∧ _ ∧ _ ∧ _
  exact ⟨by decide +kernel, fun _ h => List.mem_cons_of_mem _ (List.mem_append_right _ h), List.mem_of_getElem? (i := 2) rfl, Or.inl rfl⟩
theorem kv_X12_goPause_X12_most : KV RX12 wsX12_goPause (rmz 1) 307 RX12 yX12_most wsX12_most (rmz 0) 2 := ⟨_, _, _, _, gX12_goPause_X12_most, rfl, by decide +kernel, by decide +kernel⟩
theorem fa_X12_goPause_35 : FA RX12 wsX12_goPause 35 12 8 "NineMowersModel" := by
  show _ ∧ _ ∧ _ ∧ _
  exact ⟨by decide +kernel, fun _ h => List.mem_cons_of_mem _ (List.mem_append_right _ h), List.mem_of_getElem? (i := 3) rfl, Or.inl rfl⟩
noncomputable def K_X12_goPause (l : Launch) (V : Vx) (a1 : Int32) (σ : Sg) (Qk : Sg → Prop) : Prop := Ka l V yX12_goPause wsX12_goPause (rmz 1) 0 0 [.ref 74, .int a1] σ (QV V Qk)
theorem e_X12_goPause {l : Launch} {V : Vx} {a1 : Int32} {σ : Sg} {Qk : Sg → Prop} (h : ∀ M : Mx, mL M = l → mV M = V → mN M = 3 → Cx M cX12_goPause none RX12 wsX12_goPause (rmz 1) 0 0 (QV (mV M) Qk) → PS M 0 [(0, .ref 74), (1, .int a1)] [] σ (0, 0)) : K_X12_goPause l V a1 σ Qk :=
  Ka_of (by decide +kernel) rfl rfl (Nat.le_of_ble_eq_true rfl) (fun M h1 h2 h3 C => h M h1 h2 h3 (by rw [h2]; exact C))
set_option maxRecDepth 100000 in
set_option maxHeartbeats 4000000 in
theorem s_X12_goPause_0 {M : Mx} {Qk : Sg → Prop} (C : Cx M cX12_goPause none RX12 wsX12_goPause (rmz 1) 0 0 (QV (mV M) Qk)) (hN : mN M = 3) {a1 : Int32} {σ : Sg} (h : PS M 2 [(0, .ref 74), (1, .int a1), (2, .int (0 : Int32))] [] σ (0, 0)) : PS M 0 [(0, .ref 74), (1, .int a1)] [] σ (0, 0) := by
  refine P_iconst C dX12_goPause_0 (v := (0 : Int32)) rfl ?_
  refine P_istore_n C dX12_goPause_1 (by rw [hN]; decide) rfl ?_
  exact P_sub [1, 2, 0] rfl h
set_option maxRecDepth 100000 in
set_option maxHeartbeats 4000000 in
theorem s_X12_goPause_2 {M : Mx} {Qk : Sg → Prop} (C : Cx M cX12_goPause none RX12 wsX12_goPause (rmz 1) 0 0 (QV (mV M) Qk)) (hN : mN M = 3) {x1 : Int32} {x2 : Int32} {σ : Sg} (h : (((gi σ 74 0) ≤ x2 → (∀ σ2 : Sg, σ2 = si σ 74 1 ((gi σ 74 1) + x1) → Qk σ2)) ∧ (¬ (gi σ 74 0) ≤ x2 → (vp_in x2 6 ∧ K_X12_most (mL M) (mV M) (0 : Int32) ((gi σ 107 x2.toNatClampNeg) - ((3 : Int32) * x1)) σ (fun r5 σ4 => (vp_in x2 6 ∧ (∀ σ7 : Sg, σ7 = si σ4 107 x2.toNatClampNeg r5 → (vp_in x2 6 ∧ K_X12_most (mL M) (mV M) (0 : Int32) ((gi σ7 108 x2.toNatClampNeg) - x1) σ7 (fun r10 σ9 => (vp_in x2 6 ∧ (∀ σ12 : Sg, σ12 = si σ9 108 x2.toNatClampNeg r10 → (∀ v13 : Int32, v13 = x2 + 1 → PS M 2 [(0, .ref 74), (1, .int x1), (2, .int v13)] [] σ12 (0, 0))))))))))))) : PS M 2 [(0, .ref 74), (1, .int x1), (2, .int x2)] [] σ (0, 0) := by
  refine P_iload_n C dX12_goPause_2 2 rfl ?_
  refine P_aload_n C dX12_goPause_3 0 rfl ?_
  refine P_getI C fa_X12_goPause_7 kd_74 rfl (fxl fx_74) dX12_goPause_4 ?_
  refine P_icmp_ge C dX12_goPause_7 (tgt := 56) (by decide +kernel) (fun q1 => ?_) (fun q1 => ?_)
  · have h := h.1 q1
    refine P_aload_n C dX12_goPause_56 0 rfl ?_
    refine P_dup C dX12_goPause_57 rfl ?_
    refine P_getI C fa_X12_goPause_13 kd_74 rfl (fxl fx_74) dX12_goPause_58 ?_
    refine P_iload_n C dX12_goPause_61 1 rfl ?_
    refine P_iadd C dX12_goPause_62 ?_
    refine P_putI C pa_X12_goPause_13 kd_74 rfl (fxl fx_74) dX12_goPause_63 ?_
    refine P_nm (fun σ2 eσ2 => ?_)
    have h := h σ2 eσ2
    exact P_vret C dX12_goPause_66 h
  · have h := h.2 q1
    refine P_aload_n C dX12_goPause_10 0 rfl ?_
    refine P_getS C (e := 107) fa_X12_goPause_32 kd_74 (d := 33) rfl (fxl fx_74) rfl dX12_goPause_11 ?_
    refine P_iload_n C dX12_goPause_14 2 rfl ?_
    refine P_aload_n C dX12_goPause_15 0 rfl ?_
    refine P_iconst C dX12_goPause_16 (v := (0 : Int32)) rfl ?_
    refine P_aload_n C dX12_goPause_17 0 rfl ?_
    refine P_getS C (e := 107) fa_X12_goPause_32 kd_74 (d := 33) rfl (fxl fx_74) rfl dX12_goPause_18 ?_
    refine P_iload_n C dX12_goPause_21 2 rfl ?_
    obtain ⟨hv3, h⟩ := h
    refine P_iald C kd_107 (fxl fx_107) hv3 dX12_goPause_22 ?_
    refine P_iconst C dX12_goPause_23 (v := (3 : Int32)) rfl ?_
    refine P_iload_n C dX12_goPause_24 1 rfl ?_
    refine P_imul C dX12_goPause_25 ?_
    refine P_isub C dX12_goPause_26 ?_
    refine P_ci (R_v (ci := 12) C kv_X12_goPause_X12_most (As := [.int (0 : Int32), .int ((gi σ 107 x2.toNatClampNeg) - ((3 : Int32) * x1))]) rfl kd_74 rfl (fxl fx_74) (Nat.le_of_ble_eq_true rfl) dX12_goPause_27 ⟨Nat.le_refl _, Nat.le_refl _⟩ h) (fun r5 σ4 h => ?_)
    obtain ⟨hv6, h⟩ := h
    refine P_iast C kd_107 (fxl fx_107) hv6 dX12_goPause_30 ?_
    refine P_nm (fun σ7 eσ7 => ?_)
    have h := h σ7 eσ7
    refine P_aload_n C dX12_goPause_31 0 rfl ?_
    refine P_getS C (e := 108) fa_X12_goPause_35 kd_74 (d := 34) rfl (fxl fx_74) rfl dX12_goPause_32 ?_
    refine P_iload_n C dX12_goPause_35 2 rfl ?_
    refine P_aload_n C dX12_goPause_36 0 rfl ?_
    refine P_iconst C dX12_goPause_37 (v := (0 : Int32)) rfl ?_
    refine P_aload_n C dX12_goPause_38 0 rfl ?_
    refine P_getS C (e := 108) fa_X12_goPause_35 kd_74 (d := 34) rfl (fxl fx_74) rfl dX12_goPause_39 ?_
    refine P_iload_n C dX12_goPause_42 2 rfl ?_
    obtain ⟨hv8, h⟩ := h
    refine P_iald C kd_108 (fxl fx_108) hv8 dX12_goPause_43 ?_
    refine P_iload_n C dX12_goPause_44 1 rfl ?_
    refine P_isub C dX12_goPause_45 ?_
    refine P_ci (R_v (ci := 12) C kv_X12_goPause_X12_most (As := [.int (0 : Int32), .int ((gi σ7 108 x2.toNatClampNeg) - x1)]) rfl kd_74 rfl (fxl fx_74) (Nat.le_of_ble_eq_true rfl) dX12_goPause_46 ⟨Nat.le_refl _, Nat.le_refl _⟩ h) (fun r10 σ9 h => ?_)
    obtain ⟨hv11, h⟩ := h
    refine P_iast C kd_108 (fxl fx_108) hv11 dX12_goPause_49 ?_
    refine P_nm (fun σ12 eσ12 => ?_)
    have h := h σ12 eσ12
    obtain ⟨v13, ev13⟩ : ∃ v : Int32, v = x2 + 1 := ⟨_, rfl⟩
    have h := h v13 ev13
    refine P_iinc (v := v13) C dX12_goPause_50 2 rfl (by rw [ev13]; rfl) (by rw [hN]; decide) rfl ?_
    refine P_goto C dX12_goPause_53 (tgt := 2) (by decide +kernel) ?_
    exact P_sub [1, 2, 0] rfl h
theorem fa_X12_layOrder_7 : FA RX12 wsX12_layOrder 7 12 0 "NineMowersModel" := by
  show _ ∧ _ ∧ _ ∧ _
  exact ⟨by decide +kernel, fun _ h => List.mem_cons_of_mem _ (List.mem_append_right _ h), List.mem_of_getElem? (i := 1) rfl, Or.inl rfl⟩
theorem kv_X12_layOrder_X12_has : KV RX12 wsX12_layOrder (rmz 1) 368 RX12 yX12_has wsX12_has (rmz 0) 2 := ⟨_, _, _, _, gX12_layOrder_X12_has, rfl, by decide +kernel, by decide +kernel⟩
theorem fa_X12_layOrder_41 : FA RX12 wsX12_layOrder 41 12 10 "NineMowersModel" := by
  show _ ∧ _ ∧ _ ∧ _
  exact ⟨by decide +kernel, fun _ h => List.mem_cons_of_mem _ (List.mem_append_right _ h), List.mem_of_getElem? (i := 2) rfl, Or.inl rfl⟩
noncomputable def K_X12_layOrder (l : Launch) (V : Vx) (a1 : Int32) (σ : Sg) (Qk : Int32 → Sg → Prop) : Prop := Ka l V yX12_layOrder wsX12_layOrder (rmz 1) 0 0 [.ref 74, .int a1] σ (QI V Qk)
theorem e_X12_layOrder {l : Launch} {V : Vx} {a1 : Int32} {σ : Sg} {Qk : Int32 → Sg → Prop} (h : ∀ M : Mx, mL M = l → mV M = V → mN M = 8 → Cx M cX12_layOrder (some .boolean) RX12 wsX12_layOrder (rmz 1) 0 0 (QI (mV M) Qk) → PS M 0 [(0, .ref 74), (1, .int a1)] [] σ (0, 0)) : K_X12_layOrder l V a1 σ Qk :=
  Ka_of (by decide +kernel) rfl rfl (Nat.le_of_ble_eq_true rfl) (fun M h1 h2 h3 C => h M h1 h2 h3 (by rw [h2]; exact C))
set_option maxRecDepth 100000 in
set_option maxHeartbeats 4000000 in
theorem s_X12_layOrder_0 {M : Mx} {Qk : Int32 → Sg → Prop} (C : Cx M cX12_layOrder (some .boolean) RX12 wsX12_layOrder (rmz 1) 0 0 (QI (mV M) Qk)) (hN : mN M = 8) {a1 : Int32} {σ : Sg} (h : PS M 4 [(0, .ref 74), (1, .int a1), (2, .int (1 : Int32)), (3, .int (2 : Int32))] [] σ (0, 0)) : PS M 0 [(0, .ref 74), (1, .int a1)] [] σ (0, 0) := by
  refine P_iconst C dX12_layOrder_0 (v := (1 : Int32)) rfl ?_
  refine P_istore_n C dX12_layOrder_1 (by rw [hN]; decide) rfl ?_
  refine P_iconst C dX12_layOrder_2 (v := (2 : Int32)) rfl ?_
  refine P_istore_n C dX12_layOrder_3 (by rw [hN]; decide) rfl ?_
  exact P_sub [2, 3, 1, 0] rfl h
set_option maxRecDepth 100000 in
set_option maxHeartbeats 4000000 in
theorem s_X12_layOrder_4 {M : Mx} {Qk : Int32 → Sg → Prop} (C : Cx M cX12_layOrder (some .boolean) RX12 wsX12_layOrder (rmz 1) 0 0 (QI (mV M) Qk)) (hN : mN M = 8) {x1 : Int32} {x2 : Int32} {x3 : Int32} {σ : Sg} (h : (((gi σ 74 0) < x3 → ((x1 < x2 → (∀ v3 : Int32, v3 = ((1 : Int32) <<< ((gi σ 74 0) &&& 31)) - (1 : Int32) → PS M 44 [(0, .ref 74), (2, .int x2), (3, .int v3), (4, .int x1), (5, .int (0 : Int32))] [] σ (0, 0))) ∧ (¬ x1 < x2 → Qk (0 : Int32) σ))) ∧ (¬ (gi σ 74 0) < x3 → (∀ v4 : Int32, v4 = x2 * x3 → (∀ v5 : Int32, v5 = x3 + 1 → PS M 4 [(0, .ref 74), (1, .int x1), (2, .int v4), (3, .int v5)] [] σ (0, 0)))))) : PS M 4 [(0, .ref 74), (1, .int x1), (2, .int x2), (3, .int x3)] [] σ (0, 0) := by
  refine P_iload_n C dX12_layOrder_4 3 rfl ?_
  refine P_aload_n C dX12_layOrder_5 0 rfl ?_
  refine P_getI C fa_X12_layOrder_7 kd_74 rfl (fxl fx_74) dX12_layOrder_6 ?_
  refine P_icmp_gt C dX12_layOrder_9 (tgt := 22) (by decide +kernel) (fun q1 => ?_) (fun q1 => ?_)
  · have h := h.1 q1
    refine P_iload_n C dX12_layOrder_22 1 rfl ?_
    refine P_iload_n C dX12_layOrder_23 2 rfl ?_
    refine P_icmp_lt C dX12_layOrder_24 (tgt := 29) (by decide +kernel) (fun q2 => ?_) (fun q2 => ?_)
    · have h := h.1 q2
      refine P_iconst C dX12_layOrder_29 (v := (1 : Int32)) rfl ?_
      refine P_aload_n C dX12_layOrder_30 0 rfl ?_
      refine P_getI C fa_X12_layOrder_7 kd_74 rfl (fxl fx_74) dX12_layOrder_31 ?_
      refine P_ishl C dX12_layOrder_34 ?_
      refine P_iconst C dX12_layOrder_35 (v := (1 : Int32)) rfl ?_
      refine P_isub C dX12_layOrder_36 ?_
      refine P_nmi (fun v3 ev3 => ?_)
      have h := h v3 ev3
      refine P_istore_n C dX12_layOrder_37 (by rw [hN]; decide) rfl ?_
      refine P_iload_n C dX12_layOrder_38 2 rfl ?_
      refine P_istore C dX12_layOrder_39 (by rw [hN]; decide) rfl ?_
      refine P_iconst C dX12_layOrder_41 (v := (0 : Int32)) rfl ?_
      refine P_istore C dX12_layOrder_42 (by rw [hN]; decide) rfl ?_
      exact P_sub [3, 5, 2, 1, 0] rfl h
    · have h := h.2 q2
      refine P_iconst C dX12_layOrder_27 (v := (0 : Int32)) rfl ?_
      exact P_zret C (by decide +kernel) dX12_layOrder_28 h
  · have h := h.2 q1
    refine P_iload_n C dX12_layOrder_12 2 rfl ?_
    refine P_iload_n C dX12_layOrder_13 3 rfl ?_
    refine P_imul C dX12_layOrder_14 ?_
    refine P_nmi (fun v4 ev4 => ?_)
    have h := h v4 ev4
    refine P_istore_n C dX12_layOrder_15 (by rw [hN]; decide) rfl ?_
    obtain ⟨v5, ev5⟩ : ∃ v : Int32, v = x3 + 1 := ⟨_, rfl⟩
    have h := h v5 ev5
    refine P_iinc (v := v5) C dX12_layOrder_16 3 rfl (by rw [ev5]; rfl) (by rw [hN]; decide) rfl ?_
    refine P_goto C dX12_layOrder_19 (tgt := 4) (by decide +kernel) ?_
    exact P_sub [2, 3, 1, 0] rfl h
set_option maxRecDepth 100000 in
set_option maxHeartbeats 4000000 in
theorem s_X12_layOrder_44 {M : Mx} {Qk : Int32 → Sg → Prop} (C : Cx M cX12_layOrder (some .boolean) RX12 wsX12_layOrder (rmz 1) 0 0 (QI (mV M) Qk)) (hN : mN M = 8) {x2 : Int32} {x3 : Int32} {x4 : Int32} {x5 : Int32} {σ : Sg} (h : (((gi σ 74 0) ≤ x5 → Qk (1 : Int32) σ) ∧ (¬ (gi σ 74 0) ≤ x5 → (¬ ((gi σ 74 0) - x5) = 0 ∧ (∀ v3 : Int32, v3 = x2 / ((gi σ 74 0) - x5) → (¬ v3 = 0 ∧ (∀ v5 : Int32, v5 = x4 / v3 → (¬ v3 = 0 ∧ (∀ v7 : Int32, v7 = x4 - x4 / v3 * v3 → PS M 78 [(0, .ref 74), (2, .int v3), (3, .int x3), (4, .int v7), (5, .int x5), (6, .int v5), (7, .int (0 : Int32))] [] σ (0, 0)))))))))) : PS M 44 [(0, .ref 74), (2, .int x2), (3, .int x3), (4, .int x4), (5, .int x5)] [] σ (0, 0) := by
  refine P_iload C dX12_layOrder_44 4 rfl ?_
  refine P_aload_n C dX12_layOrder_46 0 rfl ?_
  refine P_getI C fa_X12_layOrder_7 kd_74 rfl (fxl fx_74) dX12_layOrder_47 ?_
  refine P_icmp_ge C dX12_layOrder_50 (tgt := 143) (by decide +kernel) (fun q1 => ?_) (fun q1 => ?_)
  · have h := h.1 q1
    refine P_iconst C dX12_layOrder_143 (v := (1 : Int32)) rfl ?_
    exact P_zret C (by decide +kernel) dX12_layOrder_144 h
  · have h := h.2 q1
    refine P_iload_n C dX12_layOrder_53 1 rfl ?_
    refine P_aload_n C dX12_layOrder_54 0 rfl ?_
    refine P_getI C fa_X12_layOrder_7 kd_74 rfl (fxl fx_74) dX12_layOrder_55 ?_
    refine P_iload C dX12_layOrder_58 4 rfl ?_
    refine P_isub C dX12_layOrder_60 ?_
    obtain ⟨hz2, h⟩ := h
    refine P_idiv C dX12_layOrder_61 hz2 ?_
    refine P_nmi (fun v3 ev3 => ?_)
    have h := h v3 ev3
    refine P_istore_n C dX12_layOrder_62 (by rw [hN]; decide) rfl ?_
    refine P_iload C dX12_layOrder_63 3 rfl ?_
    refine P_iload_n C dX12_layOrder_65 0 rfl ?_
    obtain ⟨hz4, h⟩ := h
    refine P_idiv C dX12_layOrder_66 hz4 ?_
    refine P_nmi (fun v5 ev5 => ?_)
    have h := h v5 ev5
    refine P_istore C dX12_layOrder_67 (by rw [hN]; decide) rfl ?_
    refine P_iload C dX12_layOrder_69 4 rfl ?_
    refine P_iload_n C dX12_layOrder_71 1 rfl ?_
    obtain ⟨hz6, h⟩ := h
    refine P_irem C dX12_layOrder_72 hz6 ?_
    refine P_nmi (fun v7 ev7 => ?_)
    have h := h v7 ev7
    refine P_istore C dX12_layOrder_73 (by rw [hN]; decide) rfl ?_
    refine P_iconst C dX12_layOrder_75 (v := (0 : Int32)) rfl ?_
    refine P_istore C dX12_layOrder_76 (by rw [hN]; decide) rfl ?_
    exact P_sub [4, 3, 5, 1, 6, 2, 0] rfl h
set_option maxRecDepth 100000 in
set_option maxHeartbeats 4000000 in
theorem s_X12_layOrder_78 {M : Mx} {Qk : Int32 → Sg → Prop} (C : Cx M cX12_layOrder (some .boolean) RX12 wsX12_layOrder (rmz 1) 0 0 (QI (mV M) Qk)) (hN : mN M = 8) {x2 : Int32} {x3 : Int32} {x4 : Int32} {x5 : Int32} {x6 : Int32} {x7 : Int32} {σ : Sg} (h : K_X12_has (mL M) (mV M) x3 x7 σ (fun r2 σ1 => ((r2 = 0 → PS M 93 [(0, .ref 74), (2, .int x2), (3, .int x3), (4, .int x4), (5, .int x5), (6, .int x6), (7, .int x7)] [] σ1 (0, 0)) ∧ (¬ r2 = 0 → ((x6 ≤ 0 → (vp_in x5 6 ∧ (∀ σ6 : Sg, σ6 = si σ1 110 x5.toNatClampNeg x7 → (∀ v7 : Int32, v7 = x3 &&& (((1 : Int32) <<< (x7 &&& 31)) ^^^ (-1 : Int32)) → (∀ v8 : Int32, v8 = x5 + 1 → PS M 44 [(0, .ref 74), (2, .int x2), (3, .int v7), (4, .int x4), (5, .int v8)] [] σ6 (0, 0)))))) ∧ (¬ x6 ≤ 0 → PS M 93 [(0, .ref 74), (2, .int x2), (3, .int x3), (4, .int x4), (5, .int x5), (6, .int x6), (7, .int x7)] [] σ1 (0, 0))))))) : PS M 78 [(0, .ref 74), (2, .int x2), (3, .int x3), (4, .int x4), (5, .int x5), (6, .int x6), (7, .int x7)] [] σ (0, 0) := by
  refine P_aload_n C dX12_layOrder_78 0 rfl ?_
  refine P_iload_n C dX12_layOrder_79 2 rfl ?_
  refine P_iload C dX12_layOrder_80 6 rfl ?_
  refine P_ci (R_v (ci := 12) C kv_X12_layOrder_X12_has (As := [.int x3, .int x7]) rfl kd_74 rfl (fxl fx_74) (Nat.le_of_ble_eq_true rfl) dX12_layOrder_82 ⟨Nat.le_refl _, Nat.le_refl _⟩ h) (fun r2 σ1 h => ?_)
  refine P_if_eq C dX12_layOrder_85 (tgt := 93) (by decide +kernel) (fun q3 => ?_) (fun q3 => ?_)
  · have h := h.1 q3
    exact P_sub [0, 1, 2, 3, 4, 5, 6] rfl h
  · have h := h.2 q3
    refine P_iload C dX12_layOrder_88 5 rfl ?_
    refine P_if_le C dX12_layOrder_90 (tgt := 119) (by decide +kernel) (fun q4 => ?_) (fun q4 => ?_)
    · have h := h.1 q4
      refine P_aload_n C dX12_layOrder_119 0 rfl ?_
      refine P_getS C (e := 110) fa_X12_layOrder_41 kd_74 (d := 36) rfl (fxl fx_74) rfl dX12_layOrder_120 ?_
      refine P_iload C dX12_layOrder_123 4 rfl ?_
      refine P_iload C dX12_layOrder_125 6 rfl ?_
      obtain ⟨hv5, h⟩ := h
      refine P_iast C kd_110 (fxl fx_110) hv5 dX12_layOrder_127 ?_
      refine P_nm (fun σ6 eσ6 => ?_)
      have h := h σ6 eσ6
      refine P_iload_n C dX12_layOrder_128 2 rfl ?_
      refine P_iconst C dX12_layOrder_129 (v := (1 : Int32)) rfl ?_
      refine P_iload C dX12_layOrder_130 6 rfl ?_
      refine P_ishl C dX12_layOrder_132 ?_
      refine P_iconst C dX12_layOrder_133 (v := (-1 : Int32)) rfl ?_
      refine P_ixor C dX12_layOrder_134 ?_
      refine P_iand C dX12_layOrder_135 ?_
      refine P_nmi (fun v7 ev7 => ?_)
      have h := h v7 ev7
      refine P_istore_n C dX12_layOrder_136 (by rw [hN]; decide) rfl ?_
      obtain ⟨v8, ev8⟩ : ∃ v : Int32, v = x5 + 1 := ⟨_, rfl⟩
      have h := h v8 ev8
      refine P_iinc (v := v8) C dX12_layOrder_137 4 rfl (by rw [ev8]; rfl) (by rw [hN]; decide) rfl ?_
      refine P_goto C dX12_layOrder_140 (tgt := 44) (by decide +kernel) ?_
      exact P_sub [2, 3, 1, 4, 0] rfl h
    · have h := h.2 q4
      exact P_sub [0, 1, 2, 3, 4, 5, 6] rfl h
set_option maxRecDepth 100000 in
set_option maxHeartbeats 4000000 in
theorem s_X12_layOrder_93 {M : Mx} {Qk : Int32 → Sg → Prop} (C : Cx M cX12_layOrder (some .boolean) RX12 wsX12_layOrder (rmz 1) 0 0 (QI (mV M) Qk)) (hN : mN M = 8) {x2 : Int32} {x3 : Int32} {x4 : Int32} {x5 : Int32} {x6 : Int32} {x7 : Int32} {σ : Sg} (h : K_X12_has (mL M) (mV M) x3 x7 σ (fun r2 σ1 => ((r2 = 0 → (∀ v4 : Int32, v4 = x6 - (0 : Int32) → (∀ v5 : Int32, v5 = x7 + 1 → PS M 78 [(0, .ref 74), (2, .int x2), (3, .int x3), (4, .int x4), (5, .int x5), (6, .int v4), (7, .int v5)] [] σ1 (0, 0)))) ∧ (¬ r2 = 0 → (∀ v6 : Int32, v6 = x6 - (1 : Int32) → (∀ v7 : Int32, v7 = x7 + 1 → PS M 78 [(0, .ref 74), (2, .int x2), (3, .int x3), (4, .int x4), (5, .int x5), (6, .int v6), (7, .int v7)] [] σ1 (0, 0))))))) : PS M 93 [(0, .ref 74), (2, .int x2), (3, .int x3), (4, .int x4), (5, .int x5), (6, .int x6), (7, .int x7)] [] σ (0, 0) := by
  refine P_iload C dX12_layOrder_93 5 rfl ?_
  refine P_aload_n C dX12_layOrder_95 0 rfl ?_
  refine P_iload_n C dX12_layOrder_96 2 rfl ?_
  refine P_iload C dX12_layOrder_97 6 rfl ?_
  refine P_ci (R_v (ci := 12) C kv_X12_layOrder_X12_has (As := [.int x3, .int x7]) rfl kd_74 rfl (fxl fx_74) (Nat.le_of_ble_eq_true rfl) dX12_layOrder_99 ⟨Nat.le_refl _, Nat.le_refl _⟩ h) (fun r2 σ1 h => ?_)
  refine P_if_eq C dX12_layOrder_102 (tgt := 109) (by decide +kernel) (fun q3 => ?_) (fun q3 => ?_)
  · have h := h.1 q3
    refine P_iconst C dX12_layOrder_109 (v := (0 : Int32)) rfl ?_
    refine P_isub C dX12_layOrder_110 ?_
    refine P_nmi (fun v4 ev4 => ?_)
    have h := h v4 ev4
    refine P_istore C dX12_layOrder_111 (by rw [hN]; decide) rfl ?_
    obtain ⟨v5, ev5⟩ : ∃ v : Int32, v = x7 + 1 := ⟨_, rfl⟩
    have h := h v5 ev5
    refine P_iinc (v := v5) C dX12_layOrder_113 6 rfl (by rw [ev5]; rfl) (by rw [hN]; decide) rfl ?_
    refine P_goto C dX12_layOrder_116 (tgt := 78) (by decide +kernel) ?_
    exact P_sub [2, 3, 4, 5, 6, 1, 0] rfl h
  · have h := h.2 q3
    refine P_iconst C dX12_layOrder_105 (v := (1 : Int32)) rfl ?_
    refine P_goto C dX12_layOrder_106 (tgt := 110) (by decide +kernel) ?_
    refine P_isub C dX12_layOrder_110 ?_
    refine P_nmi (fun v6 ev6 => ?_)
    have h := h v6 ev6
    refine P_istore C dX12_layOrder_111 (by rw [hN]; decide) rfl ?_
    obtain ⟨v7, ev7⟩ : ∃ v : Int32, v = x7 + 1 := ⟨_, rfl⟩
    have h := h v7 ev7
    refine P_iinc (v := v7) C dX12_layOrder_113 6 rfl (by rw [ev7]; rfl) (by rw [hN]; decide) rfl ?_
    refine P_goto C dX12_layOrder_116 (tgt := 78) (by decide +kernel) ?_
    exact P_sub [2, 3, 4, 5, 6, 1, 0] rfl h
