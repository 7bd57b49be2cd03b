theorem fa_X4_strides_19 : FA RX4 wsX4_strides 19 1 6 "NineMowers$Course" := by
  show _ ∧ _ ∧ _ ∧ _
  exact ⟨by decide, fun _ h => List.mem_cons_of_mem _ (List.mem_append_left _ (List.mem_append_left _ (List.mem_append_left _ (List.mem_append_left _ (List.mem_append_left _ (List.mem_append_left _ (List.mem_append_left _ (List.mem_append_right _ h)))))))), List.mem_of_getElem? (i := 1) rfl, Or.inl rfl⟩
theorem fa_X4_strides_13 : FA RX4 wsX4_strides 13 4 1 "NineMowers$Mower" := by
  show _ ∧ _ ∧ _ ∧ _
  exact ⟨by decide, fun _ h => List.mem_cons_of_mem _ (List.mem_append_left _ (List.mem_append_left _ (List.mem_append_left _ (List.mem_append_left _ (List.mem_append_right _ h))))), List.mem_of_getElem? (i := 2) rfl, Or.inl rfl⟩
noncomputable def K_X4_strides (l : Launch) (V : Vx) (c0 : Nat) (a1 : Int32) (a2 : Nat) (a3 : Int32) (σ : Sg) (Qk : Int32 → Sg → Prop) : Prop := Ka l V yX4_strides wsX4_strides (rmz 0) 0 0 [.ref c0, .int a1, .ref a2, .int a3] σ (QI V Qk)
theorem e_X4_strides {l : Launch} {V : Vx} {c0 : Nat} {a1 : Int32} {a2 : Nat} {a3 : Int32} {σ : Sg} {Qk : Int32 → Sg → Prop} (h : ∀ M : Mx, mL M = l → mV M = V → mN M = 5 → Cx M cX4_strides (some .int) RX4 wsX4_strides (rmz 0) 0 0 (QI (mV M) Qk) → PS M 0 [(0, .ref c0), (1, .int a1), (2, .ref a2), (3, .int a3)] [] σ (0, 0)) : K_X4_strides l V c0 a1 a2 a3 σ Qk :=
  Ka_of (by decide +kernel) rfl rfl (Nat.le_of_ble_eq_true rfl) (fun M h1 h2 h3 C => h M h1 h2 h3 (by rw [h2]; exact C))
set_option maxRecDepth 100000 in
set_option maxHeartbeats 4000000 in
theorem s_X4_strides_0 {M : Mx} {Qk : Int32 → Sg → Prop} (C : Cx M cX4_strides (some .int) RX4 wsX4_strides (rmz 0) 0 0 (QI (mV M) Qk)) (hN : mN M = 5) {c0 : Nat} {a1 : Int32} {a2 : Nat} {a3 : Int32} {ci0 : Nat} (sc0 : ci0 = 0 ∨ ci0 = 3 ∨ ci0 = 4 ∨ ci0 = 6 ∨ ci0 = 7 ∨ ci0 = 8 ∨ ci0 = 10) (hc0 : kd c0 = (10 + ci0, 0)) (lc0 : c0 ∈ ids (mV M)) (ha2 : isC a2) {σ : Sg} (h : (vp_in (gi σ c0 1) 6 ∧ (∀ v2 : Int32, v2 = (gi σ (a2 + 5) (gi σ c0 1).toNatClampNeg) / (20 : Int32) → ((a1 ≤ v2 → Qk (0 : Int32) σ) ∧ (¬ a1 ≤ v2 → Qk (a1 - v2) σ))))) : PS M 0 [(0, .ref c0), (1, .int a1), (2, .ref a2), (3, .int a3)] [] σ (0, 0) := by
  refine P_aload_n C dX4_strides_0 2 rfl ?_
  refine P_getS C (e := (a2 + 5)) fa_X4_strides_19 (kdC_0 ha2) (d := 5) rfl (fxl (fxC_0 ha2)) rfl dX4_strides_1 ?_
  refine P_aload_n C dX4_strides_4 0 rfl ?_
  refine P_getM C fa_X4_strides_13 (by decide) sc0 hc0 lc0 dX4_strides_5 ?_
  obtain ⟨hv1, h⟩ := h
  refine P_iald C (kdC_5 ha2) (fxl (fxC_5 ha2)) hv1 dX4_strides_8 ?_
  refine P_bipush C dX4_strides_9 (v := (20 : Int32)) rfl ?_
  refine P_idiv C dX4_strides_11 (by decide) ?_
  refine P_nmi (fun v2 ev2 => ?_)
  have h := h v2 ev2
  refine P_istore C dX4_strides_12 (by rw [hN]; decide) rfl ?_
  refine P_iload_n C dX4_strides_14 2 rfl ?_
  refine P_iload C dX4_strides_15 0 rfl ?_
  refine P_icmp_le C dX4_strides_17 (tgt := 27) (by decide) (fun q3 => ?_) (fun q3 => ?_)
  · have h := h.1 q3
    refine P_iconst C dX4_strides_27 (v := (0 : Int32)) rfl ?_
    exact P_iret C dX4_strides_28 h
  · have h := h.2 q3
    refine P_iload_n C dX4_strides_20 2 rfl ?_
    refine P_iload C dX4_strides_21 0 rfl ?_
    refine P_isub C dX4_strides_23 ?_
    refine P_goto C dX4_strides_24 (tgt := 28) (by decide) ?_
    exact P_iret C dX4_strides_28 h
noncomputable def K_X8_strides (l : Launch) (V : Vx) (c0 : Nat) (a1 : Int32) (a2 : Nat) (a3 : Int32) (σ : Sg) (Qk : Int32 → Sg → Prop) : Prop := Ka l V yX8_strides wsX8_strides (rmz 0) 0 0 [.ref c0, .int a1, .ref a2, .int a3] σ (QI V Qk)
theorem e_X8_strides {l : Launch} {V : Vx} {c0 : Nat} {a1 : Int32} {a2 : Nat} {a3 : Int32} {σ : Sg} {Qk : Int32 → Sg → Prop} (h : ∀ M : Mx, mL M = l → mV M = V → mN M = 4 → Cx M cX8_strides (some .int) RX8 wsX8_strides (rmz 0) 0 0 (QI (mV M) Qk) → PS M 0 [(0, .ref c0), (1, .int a1), (2, .ref a2), (3, .int a3)] [] σ (0, 0)) : K_X8_strides l V c0 a1 a2 a3 σ Qk :=
  Ka_of (by decide +kernel) rfl rfl (Nat.le_of_ble_eq_true rfl) (fun M h1 h2 h3 C => h M h1 h2 h3 (by rw [h2]; exact C))
set_option maxRecDepth 100000 in
set_option maxHeartbeats 4000000 in
theorem s_X8_strides_0 {M : Mx} {Qk : Int32 → Sg → Prop} (C : Cx M cX8_strides (some .int) RX8 wsX8_strides (rmz 0) 0 0 (QI (mV M) Qk)) (hN : mN M = 4) {c0 : Nat} {a1 : Int32} {a2 : Nat} {a3 : Int32} {ci0 : Nat} (sc0 : ci0 = 6 ∨ ci0 = 8) (hc0 : kd c0 = (10 + ci0, 0)) (lc0 : c0 ∈ ids (mV M)) (ha2 : isC a2) {σ : Sg} (h : Qk a1 σ) : PS M 0 [(0, .ref c0), (1, .int a1), (2, .ref a2), (3, .int a3)] [] σ (0, 0) := by
  refine P_iload_n C dX8_strides_0 1 rfl ?_
  exact P_iret C dX8_strides_1 h
theorem ks_X3_strides_X4_strides : KSU RX3 wsX3_strides (rmz 1) 7 yX4_strides wsX4_strides (rmz 0) 3 := ⟨_, _, _, _, gX3_strides_X4_strides_s7, rfl, by decide +kernel, by decide⟩
theorem fa_X3_strides_11 : FA RX3 wsX3_strides 11 1 5 "NineMowers$Course" := by
  show _ ∧ _ ∧ _ ∧ _
  exact ⟨by decide, fun _ h => List.mem_cons_of_mem _ (List.mem_append_left _ (List.mem_append_left _ (List.mem_append_left _ (List.mem_append_left _ (List.mem_append_left _ (List.mem_append_left _ (List.mem_append_left _ (List.mem_append_right _ h)))))))), List.mem_of_getElem? (i := 1) rfl, Or.inl rfl⟩
theorem fa_X3_strides_17 : FA RX3 wsX3_strides 17 3 1 "NineMowers$Hasty" := by
  show _ ∧ _ ∧ _ ∧ _
  exact ⟨by decide, fun _ h => List.mem_cons_of_mem _ (List.mem_append_left _ (List.mem_append_left _ (List.mem_append_left _ (List.mem_append_left _ (List.mem_append_left _ (List.mem_append_right _ h)))))), List.mem_of_getElem? (i := 2) rfl, Or.inr (List.mem_of_getElem? (i := 3) rfl)⟩
theorem fa_X3_strides_23 : FA RX3 wsX3_strides 23 3 2 "NineMowers$Hasty" := by
  show _ ∧ _ ∧ _ ∧ _
  exact ⟨by decide, fun _ h => List.mem_cons_of_mem _ (List.mem_append_left _ (List.mem_append_left _ (List.mem_append_left _ (List.mem_append_left _ (List.mem_append_left _ (List.mem_append_right _ h)))))), List.mem_of_getElem? (i := 4) rfl, Or.inr (List.mem_of_getElem? (i := 5) rfl)⟩
noncomputable def K_X3_strides (l : Launch) (V : Vx) (c0 : Nat) (a1 : Int32) (a2 : Nat) (a3 : Int32) (σ : Sg) (Qk : Int32 → Sg → Prop) : Prop := Ka l V yX3_strides wsX3_strides (rmz 1) 0 0 [.ref c0, .int a1, .ref a2, .int a3] σ (QI V Qk)
theorem e_X3_strides {l : Launch} {V : Vx} {c0 : Nat} {a1 : Int32} {a2 : Nat} {a3 : Int32} {σ : Sg} {Qk : Int32 → Sg → Prop} (h : ∀ M : Mx, mL M = l → mV M = V → mN M = 4 → Cx M cX3_strides (some .int) RX3 wsX3_strides (rmz 1) 0 0 (QI (mV M) Qk) → PS M 0 [(0, .ref c0), (1, .int a1), (2, .ref a2), (3, .int a3)] [] σ (0, 0)) : K_X3_strides l V c0 a1 a2 a3 σ Qk :=
  Ka_of (by decide +kernel) rfl rfl (Nat.le_of_ble_eq_true rfl) (fun M h1 h2 h3 C => h M h1 h2 h3 (by rw [h2]; exact C))
set_option maxRecDepth 100000 in
set_option maxHeartbeats 4000000 in
theorem s_X3_strides_0 {M : Mx} {Qk : Int32 → Sg → Prop} (C : Cx M cX3_strides (some .int) RX3 wsX3_strides (rmz 1) 0 0 (QI (mV M) Qk)) (hN : mN M = 4) {c0 : Nat} {a1 : Int32} {a2 : Nat} {a3 : Int32} {ci0 : Nat} (sc0 : ci0 = 3 ∨ ci0 = 7) (hc0 : kd c0 = (10 + ci0, 0)) (lc0 : c0 ∈ ids (mV M)) (ha2 : isC a2) {σ : Sg} (h : K_X4_strides (mL M) (mV M) c0 a1 a2 a3 σ (fun r3 σ2 => (vp_in (gi σ2 c0 1) 6 ∧ (((gi σ2 (a2 + 4) (gi σ2 c0 1).toNatClampNeg) ≤ (5 : Int32) → Qk (r3 + (0 : Int32)) σ2) ∧ (¬ (gi σ2 (a2 + 4) (gi σ2 c0 1).toNatClampNeg) ≤ (5 : Int32) → Qk (r3 + (gi σ2 c0 2)) σ2))))) : PS M 0 [(0, .ref c0), (1, .int a1), (2, .ref a2), (3, .int a3)] [] σ (0, 0) := by
  refine P_aload_n C dX3_strides_0 0 rfl ?_
  refine P_iload_n C dX3_strides_1 1 rfl ?_
  refine P_aload_n C dX3_strides_2 2 rfl ?_
  refine P_iload_n C dX3_strides_3 3 rfl ?_
  have key1 : ∀ Qz, K_X4_strides (mL M) (mV M) c0 a1 a2 a3 σ Qz → RS M 4 [(0, .ref c0), (1, .int a1), (2, .ref a2), (3, .int a3)] [.int a3, .ref a2, .int a1, .ref c0] [] σ (0, 0) 0 0 (QI (mV M) Qz (([.ref c0, .int a1, .ref a2, .int a3] : List Value).map (cv (mV M))).toArray) := by
    intro Qz h8
    rcases sc0 with rfl | rfl
    · exact R_su (ci := 3) C ks_X3_strides_X4_strides (As := [.int a1, .ref a2, .int a3]) rfl hc0 rfl lc0 (Nat.le_of_ble_eq_true rfl) dX3_strides_4 ⟨Nat.le_refl _, Nat.le_refl _⟩ h8
    · exact R_su (ci := 7) C ks_X3_strides_X4_strides (As := [.int a1, .ref a2, .int a3]) rfl hc0 rfl lc0 (Nat.le_of_ble_eq_true rfl) dX3_strides_4 ⟨Nat.le_refl _, Nat.le_refl _⟩ h8
  refine P_ci (key1 _ h) (fun r3 σ2 h => ?_)
  refine P_aload_n C dX3_strides_7 2 rfl ?_
  refine P_getS C (e := (a2 + 4)) fa_X3_strides_11 (kdC_0 ha2) (d := 4) rfl (fxl (fxC_0 ha2)) rfl dX3_strides_8 ?_
  refine P_aload_n C dX3_strides_11 0 rfl ?_
  refine P_getM C fa_X3_strides_17 (by decide) (by rcases sc0 with rfl | rfl <;> decide) hc0 lc0 dX3_strides_12 ?_
  obtain ⟨hv4, h⟩ := h
  refine P_iald C (kdC_4 ha2) (fxl (fxC_4 ha2)) hv4 dX3_strides_15 ?_
  refine P_iconst C dX3_strides_16 (v := (5 : Int32)) rfl ?_
  refine P_icmp_le C dX3_strides_17 (tgt := 27) (by decide) (fun q5 => ?_) (fun q5 => ?_)
  · have h := h.1 q5
    refine P_iconst C dX3_strides_27 (v := (0 : Int32)) rfl ?_
    refine P_iadd C dX3_strides_28 ?_
    exact P_iret C dX3_strides_29 h
  · have h := h.2 q5
    refine P_aload_n C dX3_strides_20 0 rfl ?_
    refine P_getM C fa_X3_strides_23 (by decide) (by rcases sc0 with rfl | rfl <;> decide) hc0 lc0 dX3_strides_21 ?_
    refine P_goto C dX3_strides_24 (tgt := 28) (by decide) ?_
    refine P_iadd C dX3_strides_28 ?_
    exact P_iret C dX3_strides_29 h
theorem ks_X0_strides_X4_strides : KSU RX0 wsX0_strides (rmz 1) 7 yX4_strides wsX4_strides (rmz 0) 3 := ⟨_, _, _, _, gX0_strides_X4_strides_s7, rfl, by decide +kernel, by decide⟩
noncomputable def K_X0_strides (l : Launch) (V : Vx) (c0 : Nat) (a1 : Int32) (a2 : Nat) (a3 : Int32) (σ : Sg) (Qk : Int32 → Sg → Prop) : Prop := Ka l V yX0_strides wsX0_strides (rmz 1) 0 0 [.ref c0, .int a1, .ref a2, .int a3] σ (QI V Qk)
theorem e_X0_strides {l : Launch} {V : Vx} {c0 : Nat} {a1 : Int32} {a2 : Nat} {a3 : Int32} {σ : Sg} {Qk : Int32 → Sg → Prop} (h : ∀ M : Mx, mL M = l → mV M = V → mN M = 4 → Cx M cX0_strides (some .int) RX0 wsX0_strides (rmz 1) 0 0 (QI (mV M) Qk) → PS M 0 [(0, .ref c0), (1, .int a1), (2, .ref a2), (3, .int a3)] [] σ (0, 0)) : K_X0_strides l V c0 a1 a2 a3 σ Qk :=
  Ka_of (by decide +kernel) rfl rfl (Nat.le_of_ble_eq_true rfl) (fun M h1 h2 h3 C => h M h1 h2 h3 (by rw [h2]; exact C))
set_option maxRecDepth 100000 in
set_option maxHeartbeats 4000000 in
theorem s_X0_strides_0 {M : Mx} {Qk : Int32 → Sg → Prop} (C : Cx M cX0_strides (some .int) RX0 wsX0_strides (rmz 1) 0 0 (QI (mV M) Qk)) (hN : mN M = 4) {c0 : Nat} {a1 : Int32} {a2 : Nat} {a3 : Int32} {ci0 : Nat} (sc0 : ci0 = 0 ∨ ci0 = 10) (hc0 : kd c0 = (10 + ci0, 0)) (lc0 : c0 ∈ ids (mV M)) (ha2 : isC a2) {σ : Sg} (h : K_X4_strides (mL M) (mV M) c0 a1 a2 a3 σ (fun r3 σ2 => Qk (r3 / (2 : Int32)) σ2)) : PS M 0 [(0, .ref c0), (1, .int a1), (2, .ref a2), (3, .int a3)] [] σ (0, 0) := by
  refine P_aload_n C dX0_strides_0 0 rfl ?_
  refine P_iload_n C dX0_strides_1 1 rfl ?_
  refine P_aload_n C dX0_strides_2 2 rfl ?_
  refine P_iload_n C dX0_strides_3 3 rfl ?_
  have key1 : ∀ Qz, K_X4_strides (mL M) (mV M) c0 a1 a2 a3 σ Qz → RS M 4 [(0, .ref c0), (1, .int a1), (2, .ref a2), (3, .int a3)] [.int a3, .ref a2, .int a1, .ref c0] [] σ (0, 0) 0 0 (QI (mV M) Qz (([.ref c0, .int a1, .ref a2, .int a3] : List Value).map (cv (mV M))).toArray) := by
    intro Qz h8
    rcases sc0 with rfl | rfl
    · exact R_su (ci := 0) C ks_X0_strides_X4_strides (As := [.int a1, .ref a2, .int a3]) rfl hc0 rfl lc0 (Nat.le_of_ble_eq_true rfl) dX0_strides_4 ⟨Nat.le_refl _, Nat.le_refl _⟩ h8
    · exact R_su (ci := 10) C ks_X0_strides_X4_strides (As := [.int a1, .ref a2, .int a3]) rfl hc0 rfl lc0 (Nat.le_of_ble_eq_true rfl) dX0_strides_4 ⟨Nat.le_refl _, Nat.le_refl _⟩ h8
  refine P_ci (key1 _ h) (fun r3 σ2 h => ?_)
  refine P_iconst C dX0_strides_7 (v := (2 : Int32)) rfl ?_
  refine P_idiv C dX0_strides_8 (by decide) ?_
  exact P_iret C dX0_strides_9 h
theorem ks_X6_strides_X8_strides : KSU RX6 wsX6_strides (rmz 1) 7 yX8_strides wsX8_strides (rmz 0) 3 := ⟨_, _, _, _, gX6_strides_X8_strides_s7, rfl, by decide +kernel, by decide⟩
theorem fa_X6_strides_11 : FA RX6 wsX6_strides 11 6 2 "NineMowers$Old" := by
  show _ ∧ _ ∧ _ ∧ _
  exact ⟨by decide, fun _ h => List.mem_cons_of_mem _ (List.mem_append_left _ (List.mem_append_left _ (List.mem_append_left _ (List.mem_append_right _ h)))), List.mem_of_getElem? (i := 1) rfl, Or.inr (List.mem_of_getElem? (i := 2) rfl)⟩
noncomputable def K_X6_strides (l : Launch) (V : Vx) (c0 : Nat) (a1 : Int32) (a2 : Nat) (a3 : Int32) (σ : Sg) (Qk : Int32 → Sg → Prop) : Prop := Ka l V yX6_strides wsX6_strides (rmz 1) 0 0 [.ref c0, .int a1, .ref a2, .int a3] σ (QI V Qk)
theorem e_X6_strides {l : Launch} {V : Vx} {c0 : Nat} {a1 : Int32} {a2 : Nat} {a3 : Int32} {σ : Sg} {Qk : Int32 → Sg → Prop} (h : ∀ M : Mx, mL M = l → mV M = V → mN M = 5 → Cx M cX6_strides (some .int) RX6 wsX6_strides (rmz 1) 0 0 (QI (mV M) Qk) → PS M 0 [(0, .ref c0), (1, .int a1), (2, .ref a2), (3, .int a3)] [] σ (0, 0)) : K_X6_strides l V c0 a1 a2 a3 σ Qk :=
  Ka_of (by decide +kernel) rfl rfl (Nat.le_of_ble_eq_true rfl) (fun M h1 h2 h3 C => h M h1 h2 h3 (by rw [h2]; exact C))
set_option maxRecDepth 100000 in
set_option maxHeartbeats 4000000 in
theorem s_X6_strides_0 {M : Mx} {Qk : Int32 → Sg → Prop} (C : Cx M cX6_strides (some .int) RX6 wsX6_strides (rmz 1) 0 0 (QI (mV M) Qk)) (hN : mN M = 5) {c0 : Nat} {a1 : Int32} {a2 : Nat} {a3 : Int32} {ci0 : Nat} (sc0 : ci0 = 6) (hc0 : kd c0 = (10 + ci0, 0)) (lc0 : c0 ∈ ids (mV M)) (ha2 : isC a2) {σ : Sg} (h : K_X8_strides (mL M) (mV M) c0 a1 a2 a3 σ (fun r3 σ2 => (∀ v4 : Int32, v4 = r3 - ((gi σ2 c0 2) / (3 : Int32)) → ((v4 ≤ 0 → Qk (0 : Int32) σ2) ∧ (¬ v4 ≤ 0 → Qk v4 σ2))))) : PS M 0 [(0, .ref c0), (1, .int a1), (2, .ref a2), (3, .int a3)] [] σ (0, 0) := by
  refine P_aload_n C dX6_strides_0 0 rfl ?_
  refine P_iload_n C dX6_strides_1 1 rfl ?_
  refine P_aload_n C dX6_strides_2 2 rfl ?_
  refine P_iload_n C dX6_strides_3 3 rfl ?_
  have key1 : ∀ Qz, K_X8_strides (mL M) (mV M) c0 a1 a2 a3 σ Qz → RS M 4 [(0, .ref c0), (1, .int a1), (2, .ref a2), (3, .int a3)] [.int a3, .ref a2, .int a1, .ref c0] [] σ (0, 0) 0 0 (QI (mV M) Qz (([.ref c0, .int a1, .ref a2, .int a3] : List Value).map (cv (mV M))).toArray) := by
    intro Qz h8
    subst sc0
    · exact R_su (ci := 6) C ks_X6_strides_X8_strides (As := [.int a1, .ref a2, .int a3]) rfl hc0 rfl lc0 (Nat.le_of_ble_eq_true rfl) dX6_strides_4 ⟨Nat.le_refl _, Nat.le_refl _⟩ h8
  refine P_ci (key1 _ h) (fun r3 σ2 h => ?_)
  refine P_aload_n C dX6_strides_7 0 rfl ?_
  refine P_getM C fa_X6_strides_11 (by decide) (by subst sc0; decide) hc0 lc0 dX6_strides_8 ?_
  refine P_iconst C dX6_strides_11 (v := (3 : Int32)) rfl ?_
  refine P_idiv C dX6_strides_12 (by decide) ?_
  refine P_isub C dX6_strides_13 ?_
  refine P_nmi (fun v4 ev4 => ?_)
  have h := h v4 ev4
  refine P_istore C dX6_strides_14 (by rw [hN]; decide) rfl ?_
  refine P_iload C dX6_strides_16 0 rfl ?_
  refine P_if_le C dX6_strides_18 (tgt := 26) (by decide) (fun q5 => ?_) (fun q5 => ?_)
  · have h := h.1 q5
    refine P_iconst C dX6_strides_26 (v := (0 : Int32)) rfl ?_
    exact P_iret C dX6_strides_27 h
  · have h := h.2 q5
    refine P_iload C dX6_strides_21 0 rfl ?_
    refine P_goto C dX6_strides_23 (tgt := 27) (by decide) ?_
    exact P_iret C dX6_strides_27 h
theorem ks_X7_strides_X3_strides : KSU RX7 wsX7_strides (rmz 2) 7 yX3_strides wsX3_strides (rmz 1) 3 := ⟨_, _, _, _, gX7_strides_X3_strides_s7, rfl, by decide +kernel, by decide⟩
theorem kv_X7_strides_X1_isPressedAt : KV RX7 wsX7_strides (rmz 2) 11 RX1 yX1_isPressedAt wsX1_isPressedAt (rmz 1) 1 := ⟨_, _, _, _, gX7_strides_X1_isPressedAt, rfl, by decide +kernel, by decide⟩
noncomputable def K_X7_strides (l : Launch) (V : Vx) (c0 : Nat) (a1 : Int32) (a2 : Nat) (a3 : Int32) (σ : Sg) (Qk : Int32 → Sg → Prop) : Prop := Ka l V yX7_strides wsX7_strides (rmz 2) 0 0 [.ref c0, .int a1, .ref a2, .int a3] σ (QI V Qk)
theorem e_X7_strides {l : Launch} {V : Vx} {c0 : Nat} {a1 : Int32} {a2 : Nat} {a3 : Int32} {σ : Sg} {Qk : Int32 → Sg → Prop} (h : ∀ M : Mx, mL M = l → mV M = V → mN M = 4 → Cx M cX7_strides (some .int) RX7 wsX7_strides (rmz 2) 0 0 (QI (mV M) Qk) → PS M 0 [(0, .ref c0), (1, .int a1), (2, .ref a2), (3, .int a3)] [] σ (0, 0)) : K_X7_strides l V c0 a1 a2 a3 σ Qk :=
  Ka_of (by decide +kernel) rfl rfl (Nat.le_of_ble_eq_true rfl) (fun M h1 h2 h3 C => h M h1 h2 h3 (by rw [h2]; exact C))
set_option maxRecDepth 100000 in
set_option maxHeartbeats 4000000 in
theorem s_X7_strides_0 {M : Mx} {Qk : Int32 → Sg → Prop} (C : Cx M cX7_strides (some .int) RX7 wsX7_strides (rmz 2) 0 0 (QI (mV M) Qk)) (hN : mN M = 4) {c0 : Nat} {a1 : Int32} {a2 : Nat} {a3 : Int32} {ci0 : Nat} (sc0 : ci0 = 7) (hc0 : kd c0 = (10 + ci0, 0)) (lc0 : c0 ∈ ids (mV M)) (ha2 : isC a2) {σ : Sg} (h : K_X3_strides (mL M) (mV M) c0 a1 a2 a3 σ (fun r3 σ2 => K_X1_isPressedAt (mL M) (mV M) a2 a3 σ2 (fun r5 σ4 => ((r5 = 0 → Qk (r3 + (0 : Int32)) σ4) ∧ (¬ r5 = 0 → Qk (r3 + (2 : Int32)) σ4))))) : PS M 0 [(0, .ref c0), (1, .int a1), (2, .ref a2), (3, .int a3)] [] σ (0, 0) := by
  refine P_aload_n C dX7_strides_0 0 rfl ?_
  refine P_iload_n C dX7_strides_1 1 rfl ?_
  refine P_aload_n C dX7_strides_2 2 rfl ?_
  refine P_iload_n C dX7_strides_3 3 rfl ?_
  have key1 : ∀ Qz, K_X3_strides (mL M) (mV M) c0 a1 a2 a3 σ Qz → RS M 4 [(0, .ref c0), (1, .int a1), (2, .ref a2), (3, .int a3)] [.int a3, .ref a2, .int a1, .ref c0] [] σ (0, 0) 0 0 (QI (mV M) Qz (([.ref c0, .int a1, .ref a2, .int a3] : List Value).map (cv (mV M))).toArray) := by
    intro Qz h8
    subst sc0
    · exact R_su (ci := 7) C ks_X7_strides_X3_strides (As := [.int a1, .ref a2, .int a3]) rfl hc0 rfl lc0 (Nat.le_of_ble_eq_true rfl) dX7_strides_4 ⟨Nat.le_refl _, Nat.le_refl _⟩ h8
  refine P_ci (key1 _ h) (fun r3 σ2 h => ?_)
  refine P_aload_n C dX7_strides_7 2 rfl ?_
  refine P_iload_n C dX7_strides_8 3 rfl ?_
  refine P_ci (R_v (ci := 1) C kv_X7_strides_X1_isPressedAt (As := [.int a3]) rfl (kdC_0 ha2) rfl (fxl (fxC_0 ha2)) (Nat.le_of_ble_eq_true rfl) dX7_strides_9 ⟨Nat.le_refl _, Nat.le_refl _⟩ h) (fun r5 σ4 h => ?_)
  refine P_if_eq C dX7_strides_12 (tgt := 19) (by decide) (fun q6 => ?_) (fun q6 => ?_)
  · have h := h.1 q6
    refine P_iconst C dX7_strides_19 (v := (0 : Int32)) rfl ?_
    refine P_iadd C dX7_strides_20 ?_
    exact P_iret C dX7_strides_21 h
  · have h := h.2 q6
    refine P_iconst C dX7_strides_15 (v := (2 : Int32)) rfl ?_
    refine P_goto C dX7_strides_16 (tgt := 20) (by decide) ?_
    refine P_iadd C dX7_strides_20 ?_
    exact P_iret C dX7_strides_21 h
theorem ks_X10_strides_X0_strides : KSU RX10 wsX10_strides (rmz 2) 7 yX0_strides wsX0_strides (rmz 1) 3 := ⟨_, _, _, _, gX10_strides_X0_strides_s7, rfl, by decide +kernel, by decide⟩
theorem fa_X10_strides_11 : FA RX10 wsX10_strides 11 1 8 "NineMowers$Course" := by
  show _ ∧ _ ∧ _ ∧ _
  exact ⟨by decide, fun _ h => List.mem_cons_of_mem _ (List.mem_append_left _ (List.mem_append_left _ (List.mem_append_left _ (List.mem_append_left _ (List.mem_append_left _ (List.mem_append_left _ (List.mem_append_left _ (List.mem_append_right _ h)))))))), List.mem_of_getElem? (i := 1) rfl, Or.inl rfl⟩
theorem fa_X10_strides_17 : FA RX10 wsX10_strides 17 10 1 "NineMowers$Told" := by
  show _ ∧ _ ∧ _ ∧ _
  exact ⟨by decide, fun _ h => List.mem_cons_of_mem _ (List.mem_append_right _ h), List.mem_of_getElem? (i := 2) rfl, Or.inr (List.mem_of_getElem? (i := 3) rfl)⟩
theorem fa_X10_strides_23 : FA RX10 wsX10_strides 23 1 9 "NineMowers$Course" := by
  show _ ∧ _ ∧ _ ∧ _
  exact ⟨by decide, fun _ h => List.mem_cons_of_mem _ (List.mem_append_left _ (List.mem_append_left _ (List.mem_append_left _ (List.mem_append_left _ (List.mem_append_left _ (List.mem_append_left _ (List.mem_append_left _ (List.mem_append_right _ h)))))))), List.mem_of_getElem? (i := 4) rfl, Or.inl rfl⟩
noncomputable def K_X10_strides (l : Launch) (V : Vx) (c0 : Nat) (a1 : Int32) (a2 : Nat) (a3 : Int32) (σ : Sg) (Qk : Int32 → Sg → Prop) : Prop := Ka l V yX10_strides wsX10_strides (rmz 2) 0 0 [.ref c0, .int a1, .ref a2, .int a3] σ (QI V Qk)
theorem e_X10_strides {l : Launch} {V : Vx} {c0 : Nat} {a1 : Int32} {a2 : Nat} {a3 : Int32} {σ : Sg} {Qk : Int32 → Sg → Prop} (h : ∀ M : Mx, mL M = l → mV M = V → mN M = 4 → Cx M cX10_strides (some .int) RX10 wsX10_strides (rmz 2) 0 0 (QI (mV M) Qk) → PS M 0 [(0, .ref c0), (1, .int a1), (2, .ref a2), (3, .int a3)] [] σ (0, 0)) : K_X10_strides l V c0 a1 a2 a3 σ Qk :=
  Ka_of (by decide +kernel) rfl rfl (Nat.le_of_ble_eq_true rfl) (fun M h1 h2 h3 C => h M h1 h2 h3 (by rw [h2]; exact C))
set_option maxRecDepth 100000 in
set_option maxHeartbeats 4000000 in
theorem s_X10_strides_0 {M : Mx} {Qk : Int32 → Sg → Prop} (C : Cx M cX10_strides (some .int) RX10 wsX10_strides (rmz 2) 0 0 (QI (mV M) Qk)) (hN : mN M = 4) {c0 : Nat} {a1 : Int32} {a2 : Nat} {a3 : Int32} {ci0 : Nat} (sc0 : ci0 = 10) (hc0 : kd c0 = (10 + ci0, 0)) (lc0 : c0 ∈ ids (mV M)) (ha2 : isC a2) {σ : Sg} (h : K_X0_strides (mL M) (mV M) c0 a1 a2 a3 σ (fun r3 σ2 => (vp_in (((4 : Int32) * (gi σ2 c0 1)) + ((gi σ2 a2 9) - (gi σ2 a2 9) / (4 : Int32) * (4 : Int32))) 24 ∧ Qk (r3 + (gi σ2 (a2 + 7) (((4 : Int32) * (gi σ2 c0 1)) + ((gi σ2 a2 9) - (gi σ2 a2 9) / (4 : Int32) * (4 : Int32))).toNatClampNeg)) σ2))) : PS M 0 [(0, .ref c0), (1, .int a1), (2, .ref a2), (3, .int a3)] [] σ (0, 0) := by
  refine P_aload_n C dX10_strides_0 0 rfl ?_
  refine P_iload_n C dX10_strides_1 1 rfl ?_
  refine P_aload_n C dX10_strides_2 2 rfl ?_
  refine P_iload_n C dX10_strides_3 3 rfl ?_
  have key1 : ∀ Qz, K_X0_strides (mL M) (mV M) c0 a1 a2 a3 σ Qz → RS M 4 [(0, .ref c0), (1, .int a1), (2, .ref a2), (3, .int a3)] [.int a3, .ref a2, .int a1, .ref c0] [] σ (0, 0) 0 0 (QI (mV M) Qz (([.ref c0, .int a1, .ref a2, .int a3] : List Value).map (cv (mV M))).toArray) := by
    intro Qz h8
    subst sc0
    · exact R_su (ci := 10) C ks_X10_strides_X0_strides (As := [.int a1, .ref a2, .int a3]) rfl hc0 rfl lc0 (Nat.le_of_ble_eq_true rfl) dX10_strides_4 ⟨Nat.le_refl _, Nat.le_refl _⟩ h8
  refine P_ci (key1 _ h) (fun r3 σ2 h => ?_)
  refine P_aload_n C dX10_strides_7 2 rfl ?_
  refine P_getS C (e := (a2 + 7)) fa_X10_strides_11 (kdC_0 ha2) (d := 7) rfl (fxl (fxC_0 ha2)) rfl dX10_strides_8 ?_
  refine P_iconst C dX10_strides_11 (v := (4 : Int32)) rfl ?_
  refine P_aload_n C dX10_strides_12 0 rfl ?_
  refine P_getM C fa_X10_strides_17 (by decide) (by subst sc0; decide) hc0 lc0 dX10_strides_13 ?_
  refine P_imul C dX10_strides_16 ?_
  refine P_aload_n C dX10_strides_17 2 rfl ?_
  refine P_getI C fa_X10_strides_23 (kdC_0 ha2) rfl (fxl (fxC_0 ha2)) dX10_strides_18 ?_
  refine P_iconst C dX10_strides_21 (v := (4 : Int32)) rfl ?_
  refine P_irem C dX10_strides_22 (by decide) ?_
  refine P_iadd C dX10_strides_23 ?_
  obtain ⟨hv4, h⟩ := h
  refine P_iald C (kdC_7 ha2) (fxl (fxC_7 ha2)) hv4 dX10_strides_24 ?_
  refine P_iadd C dX10_strides_25 ?_
  exact P_iret C dX10_strides_26 h
noncomputable def KD_strides (l : Launch) (V : Vx) (ci : Nat) (c0 : Nat) (a1 : Int32) (a2 : Nat) (a3 : Int32) (σ : Sg) (Qk : Int32 → Sg → Prop) : Prop := (ci = 0 → K_X0_strides l V c0 a1 a2 a3 σ Qk) ∧ (ci = 3 → K_X3_strides l V c0 a1 a2 a3 σ Qk) ∧ (ci = 4 → K_X4_strides l V c0 a1 a2 a3 σ Qk) ∧ (ci = 6 → K_X6_strides l V c0 a1 a2 a3 σ Qk) ∧ (ci = 7 → K_X7_strides l V c0 a1 a2 a3 σ Qk) ∧ (ci = 8 → K_X8_strides l V c0 a1 a2 a3 σ Qk) ∧ (ci = 10 → K_X10_strides l V c0 a1 a2 a3 σ Qk)
theorem kv_X4_mowing_X5_comes_b : KV RX4 wsX4_mowing (rmz 1) 25 RX5 yX5_comes wsX5_comes (rmz 0) 1 := ⟨_, _, _, _, gX4_mowing_X5_comes, rfl, by decide +kernel, by decide⟩
theorem kv_X4_mowing_X5_comes : KV RX4 wsX4_mowinge (rmz 1) 25 RX5 yX5_comes wsX5_comes (rmz 0) 1 := KV_ml kv_X4_mowing_X5_comes_b
theorem fa_X4_mowing_13_b : FA RX4 wsX4_mowing 13 4 1 "NineMowers$Mower" := by
  show _ ∧ _ ∧ _ ∧ _
  exact ⟨by decide, fun _ h => List.mem_cons_of_mem _ (List.mem_append_left _ (List.mem_append_left _ (List.mem_append_left _ (List.mem_append_left _ (List.mem_append_left _ (List.mem_append_right _ h)))))), List.mem_of_getElem? (i := 1) rfl, Or.inl rfl⟩
theorem fa_X4_mowing_13 : FA RX4 wsX4_mowinge 13 4 1 "NineMowers$Mower" := FA_ml fa_X4_mowing_13_b
noncomputable def K_X4_mowing (l : Launch) (V : Vx) (c0 : Nat) (a1 : Int32) (a2 : Nat) (σ : Sg) (Qk : Int32 → Sg → Prop) : Prop := Ka l V yX4_mowing wsX4_mowinge (rmz 1) 0 0 [.ref c0, .int a1, .ref a2] σ (QI V Qk)
theorem e_X4_mowing {l : Launch} {V : Vx} {c0 : Nat} {a1 : Int32} {a2 : Nat} {σ : Sg} {Qk : Int32 → Sg → Prop} (h : ∀ M : Mx, mL M = l → mV M = V → mN M = 3 → Cx M cX4_mowing (some .int) RX4 wsX4_mowinge (rmz 1) 0 0 (QI (mV M) Qk) → PS M 0 [(0, .ref c0), (1, .int a1), (2, .ref a2)] [] σ (0, 0)) : K_X4_mowing l V c0 a1 a2 σ Qk :=
  Ka_of (by decide +kernel) rfl rfl (Nat.le_of_ble_eq_true rfl) (fun M h1 h2 h3 C => h M h1 h2 h3 (by rw [h2]; exact C))
set_option maxRecDepth 100000 in
set_option maxHeartbeats 4000000 in
theorem s_X4_mowing_0 {M : Mx} {Qk : Int32 → Sg → Prop} (C : Cx M cX4_mowing (some .int) RX4 wsX4_mowinge (rmz 1) 0 0 (QI (mV M) Qk)) (hN : mN M = 3) {c0 : Nat} {a1 : Int32} {a2 : Nat} {ci0 : Nat} (sc0 : ci0 = 0 ∨ ci0 = 3 ∨ ci0 = 4 ∨ ci0 = 6 ∨ ci0 = 7 ∨ ci0 = 8 ∨ ci0 = 10) (hc0 : kd c0 = (10 + ci0, 0)) (lc0 : c0 ∈ ids (mV M)) (ha2 : isN a2) {σ : Sg} (h : K_X5_comes (mL M) (mV M) a2 (10 : Int32) σ (fun σ1 => Qk (a1 + (gi σ1 c0 1)) σ1)) : PS M 0 [(0, .ref c0), (1, .int a1), (2, .ref a2)] [] σ (0, 0) := by
  refine P_aload_n C dX4_mowing_0 2 rfl ?_
  refine P_bipush C dX4_mowing_1 (v := (10 : Int32)) rfl ?_
  refine P_cv (R_v (ci := 5) C kv_X4_mowing_X5_comes (As := [.int (10 : Int32)]) rfl (kdN_0 ha2) rfl (fxl (fxN_0 ha2)) (Nat.le_of_ble_eq_true rfl) dX4_mowing_3 ⟨Nat.le_refl _, Nat.le_refl _⟩ h) (fun σ1 h => ?_)
  refine P_iload_n C dX4_mowing_6 1 rfl ?_
  refine P_aload_n C dX4_mowing_7 0 rfl ?_
  refine P_getM C fa_X4_mowing_13 (by decide) sc0 hc0 lc0 dX4_mowing_8 ?_
  refine P_iadd C dX4_mowing_11 ?_
  exact P_iret C dX4_mowing_12 h
theorem kv_X3_mowing_X5_comes_b : KV RX3 wsX3_mowing (rmz 2) 26 RX5 yX5_comes wsX5_comes (rmz 0) 1 := ⟨_, _, _, _, gX3_mowing_X5_comes, rfl, by decide +kernel, by decide⟩
theorem kv_X3_mowing_X5_comes : KV RX3 wsX3_mowinge (rmz 2) 26 RX5 yX5_comes wsX5_comes (rmz 0) 1 := KV_ml kv_X3_mowing_X5_comes_b
theorem ks_X3_mowing_X4_mowing_b : KSU RX3 wsX3_mowing (rmz 2) 32 yX4_mowing wsX4_mowing (rmz 1) 2 := ⟨_, _, _, _, gX3_mowing_X4_mowing_s32, rfl, by decide +kernel, by decide⟩
theorem ks_X3_mowing_X4_mowing : KSU RX3 wsX3_mowinge (rmz 2) 32 yX4_mowing wsX4_mowinge (rmz 1) 2 := KSU_mb ks_X3_mowing_X4_mowing_b
noncomputable def K_X3_mowing (l : Launch) (V : Vx) (c0 : Nat) (a1 : Int32) (a2 : Nat) (σ : Sg) (Qk : Int32 → Sg → Prop) : Prop := Ka l V yX3_mowing wsX3_mowinge (rmz 2) 0 0 [.ref c0, .int a1, .ref a2] σ (QI V Qk)
theorem e_X3_mowing {l : Launch} {V : Vx} {c0 : Nat} {a1 : Int32} {a2 : Nat} {σ : Sg} {Qk : Int32 → Sg → Prop} (h : ∀ M : Mx, mL M = l → mV M = V → mN M = 3 → Cx M cX3_mowing (some .int) RX3 wsX3_mowinge (rmz 2) 0 0 (QI (mV M) Qk) → PS M 0 [(0, .ref c0), (1, .int a1), (2, .ref a2)] [] σ (0, 0)) : K_X3_mowing l V c0 a1 a2 σ Qk :=
  Ka_of (by decide +kernel) rfl rfl (Nat.le_of_ble_eq_true rfl) (fun M h1 h2 h3 C => h M h1 h2 h3 (by rw [h2]; exact C))
set_option maxRecDepth 100000 in
set_option maxHeartbeats 4000000 in
theorem s_X3_mowing_0 {M : Mx} {Qk : Int32 → Sg → Prop} (C : Cx M cX3_mowing (some .int) RX3 wsX3_mowinge (rmz 2) 0 0 (QI (mV M) Qk)) (hN : mN M = 3) {c0 : Nat} {a1 : Int32} {a2 : Nat} {ci0 : Nat} (sc0 : ci0 = 3 ∨ ci0 = 7) (hc0 : kd c0 = (10 + ci0, 0)) (lc0 : c0 ∈ ids (mV M)) (ha2 : isN a2) {σ : Sg} (h : K_X5_comes (mL M) (mV M) a2 (30 : Int32) σ (fun σ1 => K_X4_mowing (mL M) (mV M) c0 (a1 * (3 : Int32)) a2 σ1 (fun r4 σ3 => Qk r4 σ3))) : PS M 0 [(0, .ref c0), (1, .int a1), (2, .ref a2)] [] σ (0, 0) := by
  refine P_aload_n C dX3_mowing_0 2 rfl ?_
  refine P_bipush C dX3_mowing_1 (v := (30 : Int32)) rfl ?_
  refine P_cv (R_v (ci := 5) C kv_X3_mowing_X5_comes (As := [.int (30 : Int32)]) rfl (kdN_0 ha2) rfl (fxl (fxN_0 ha2)) (Nat.le_of_ble_eq_true rfl) dX3_mowing_3 ⟨Nat.le_refl _, Nat.le_refl _⟩ h) (fun σ1 h => ?_)
  refine P_aload_n C dX3_mowing_6 0 rfl ?_
  refine P_iload_n C dX3_mowing_7 1 rfl ?_
  refine P_iconst C dX3_mowing_8 (v := (3 : Int32)) rfl ?_
  refine P_imul C dX3_mowing_9 ?_
  refine P_aload_n C dX3_mowing_10 2 rfl ?_
  have key2 : ∀ Qz, K_X4_mowing (mL M) (mV M) c0 (a1 * (3 : Int32)) a2 σ1 Qz → RS M 11 [(0, .ref c0), (1, .int a1), (2, .ref a2)] [.ref a2, .int (a1 * (3 : Int32)), .ref c0] [] σ1 (0, 0) 0 0 (QI (mV M) Qz (([.ref c0, .int (a1 * (3 : Int32)), .ref a2] : List Value).map (cv (mV M))).toArray) := by
    intro Qz h8
    rcases sc0 with rfl | rfl
    · exact R_su (ci := 3) C ks_X3_mowing_X4_mowing (As := [.int (a1 * (3 : Int32)), .ref a2]) rfl hc0 rfl lc0 (Nat.le_of_ble_eq_true rfl) dX3_mowing_11 ⟨Nat.le_refl _, Nat.le_refl _⟩ h8
    · exact R_su (ci := 7) C ks_X3_mowing_X4_mowing (As := [.int (a1 * (3 : Int32)), .ref a2]) rfl hc0 rfl lc0 (Nat.le_of_ble_eq_true rfl) dX3_mowing_11 ⟨Nat.le_refl _, Nat.le_refl _⟩ h8
  refine P_ci (key2 _ h) (fun r4 σ3 h => ?_)
  exact P_iret C dX3_mowing_14 h
theorem kv_X6_mowing_X5_comes_b : KV RX6 wsX6_mowing (rmz 2) 17 RX5 yX5_comes wsX5_comes (rmz 0) 1 := ⟨_, _, _, _, gX6_mowing_X5_comes, rfl, by decide +kernel, by decide⟩
theorem kv_X6_mowing_X5_comes : KV RX6 wsX6_mowinge (rmz 2) 17 RX5 yX5_comes wsX5_comes (rmz 0) 1 := KV_ml kv_X6_mowing_X5_comes_b
theorem ks_X6_mowing_X4_mowing : KSI RX6 wsX6_mowinge (rmz 2) 23 ⟨RX8, "mowing", "(ILNineMowers$Numbers;)I"⟩ RX4 yX4_mowing wsX4_mowinge (rmz 1) 2 := ⟨_, _, _, _, gsi_X6_mowing_23, rfl, by decide +kernel, by decide⟩
noncomputable def K_X6_mowing (l : Launch) (V : Vx) (c0 : Nat) (a1 : Int32) (a2 : Nat) (σ : Sg) (Qk : Int32 → Sg → Prop) : Prop := Ka l V yX6_mowing wsX6_mowinge (rmz 2) 0 0 [.ref c0, .int a1, .ref a2] σ (QI V Qk)
theorem e_X6_mowing {l : Launch} {V : Vx} {c0 : Nat} {a1 : Int32} {a2 : Nat} {σ : Sg} {Qk : Int32 → Sg → Prop} (h : ∀ M : Mx, mL M = l → mV M = V → mN M = 3 → Cx M cX6_mowing (some .int) RX6 wsX6_mowinge (rmz 2) 0 0 (QI (mV M) Qk) → PS M 0 [(0, .ref c0), (1, .int a1), (2, .ref a2)] [] σ (0, 0)) : K_X6_mowing l V c0 a1 a2 σ Qk :=
  Ka_of (by decide +kernel) rfl rfl (Nat.le_of_ble_eq_true rfl) (fun M h1 h2 h3 C => h M h1 h2 h3 (by rw [h2]; exact C))
set_option maxRecDepth 100000 in
set_option maxHeartbeats 4000000 in
theorem s_X6_mowing_0 {M : Mx} {Qk : Int32 → Sg → Prop} (C : Cx M cX6_mowing (some .int) RX6 wsX6_mowinge (rmz 2) 0 0 (QI (mV M) Qk)) (hN : mN M = 3) {c0 : Nat} {a1 : Int32} {a2 : Nat} {ci0 : Nat} (sc0 : ci0 = 6) (hc0 : kd c0 = (10 + ci0, 0)) (lc0 : c0 ∈ ids (mV M)) (ha2 : isN a2) {σ : Sg} (h : K_X5_comes (mL M) (mV M) a2 (50 : Int32) σ (fun σ1 => K_X4_mowing (mL M) (mV M) c0 a1 a2 σ1 (fun r4 σ3 => Qk (-r4) σ3))) : PS M 0 [(0, .ref c0), (1, .int a1), (2, .ref a2)] [] σ (0, 0) := by
  refine P_aload_n C dX6_mowing_0 2 rfl ?_
  refine P_bipush C dX6_mowing_1 (v := (50 : Int32)) rfl ?_
  refine P_cv (R_v (ci := 5) C kv_X6_mowing_X5_comes (As := [.int (50 : Int32)]) rfl (kdN_0 ha2) rfl (fxl (fxN_0 ha2)) (Nat.le_of_ble_eq_true rfl) dX6_mowing_3 ⟨Nat.le_refl _, Nat.le_refl _⟩ h) (fun σ1 h => ?_)
  refine P_aload_n C dX6_mowing_6 0 rfl ?_
  refine P_iload_n C dX6_mowing_7 1 rfl ?_
  refine P_aload_n C dX6_mowing_8 2 rfl ?_
  have key2 : ∀ Qz, K_X4_mowing (mL M) (mV M) c0 a1 a2 σ1 Qz → RS M 9 [(0, .ref c0), (1, .int a1), (2, .ref a2)] [.ref a2, .int a1, .ref c0] [] σ1 (0, 0) 0 0 (QI (mV M) Qz (([.ref c0, .int a1, .ref a2] : List Value).map (cv (mV M))).toArray) := by
    intro Qz h8
    subst sc0
    · exact R_si (ci := 6) C ks_X6_mowing_X4_mowing (As := [.int a1, .ref a2]) rfl hc0 rfl lc0 (Nat.le_of_ble_eq_true rfl) dX6_mowing_9 ⟨Nat.le_refl _, Nat.le_refl _⟩ h8
  refine P_ci (key2 _ h) (fun r4 σ3 h => ?_)
  refine P_ineg C dX6_mowing_12 ?_
  exact P_iret C dX6_mowing_13 h
theorem kv_X10_mowing_X5_comes_b : KV RX10 wsX10_mowing (rmz 2) 26 RX5 yX5_comes wsX5_comes (rmz 0) 1 := ⟨_, _, _, _, gX10_mowing_X5_comes, rfl, by decide +kernel, by decide⟩
theorem kv_X10_mowing_X5_comes : KV RX10 wsX10_mowinge (rmz 2) 26 RX5 yX5_comes wsX5_comes (rmz 0) 1 := KV_ml kv_X10_mowing_X5_comes_b
theorem ks_X10_mowing_X4_mowing : KSI RX10 wsX10_mowinge (rmz 2) 36 ⟨RX0, "mowing", "(ILNineMowers$Numbers;)I"⟩ RX4 yX4_mowing wsX4_mowinge (rmz 1) 2 := ⟨_, _, _, _, gsi_X10_mowing_36, rfl, by decide +kernel, by decide⟩
theorem fa_X10_mowing_39_b : FA RX10 wsX10_mowing 39 10 2 "NineMowers$Told" := by
  show _ ∧ _ ∧ _ ∧ _
  exact ⟨by decide, fun _ h => List.mem_cons_of_mem _ (List.mem_append_left _ (List.mem_append_right _ h)), List.mem_of_getElem? (i := 1) rfl, Or.inr (List.mem_of_getElem? (i := 2) rfl)⟩
theorem fa_X10_mowing_39 : FA RX10 wsX10_mowinge 39 10 2 "NineMowers$Told" := FA_ml fa_X10_mowing_39_b
noncomputable def K_X10_mowing (l : Launch) (V : Vx) (c0 : Nat) (a1 : Int32) (a2 : Nat) (σ : Sg) (Qk : Int32 → Sg → Prop) : Prop := Ka l V yX10_mowing wsX10_mowinge (rmz 2) 0 0 [.ref c0, .int a1, .ref a2] σ (QI V Qk)
theorem e_X10_mowing {l : Launch} {V : Vx} {c0 : Nat} {a1 : Int32} {a2 : Nat} {σ : Sg} {Qk : Int32 → Sg → Prop} (h : ∀ M : Mx, mL M = l → mV M = V → mN M = 3 → Cx M cX10_mowing (some .int) RX10 wsX10_mowinge (rmz 2) 0 0 (QI (mV M) Qk) → PS M 0 [(0, .ref c0), (1, .int a1), (2, .ref a2)] [] σ (0, 0)) : K_X10_mowing l V c0 a1 a2 σ Qk :=
  Ka_of (by decide +kernel) rfl rfl (Nat.le_of_ble_eq_true rfl) (fun M h1 h2 h3 C => h M h1 h2 h3 (by rw [h2]; exact C))
set_option maxRecDepth 100000 in
set_option maxHeartbeats 4000000 in
theorem s_X10_mowing_0 {M : Mx} {Qk : Int32 → Sg → Prop} (C : Cx M cX10_mowing (some .int) RX10 wsX10_mowinge (rmz 2) 0 0 (QI (mV M) Qk)) (hN : mN M = 3) {c0 : Nat} {a1 : Int32} {a2 : Nat} {ci0 : Nat} (sc0 : ci0 = 10) (hc0 : kd c0 = (10 + ci0, 0)) (lc0 : c0 ∈ ids (mV M)) (ha2 : isN a2) {σ : Sg} (h : K_X5_comes (mL M) (mV M) a2 (71 : Int32) σ (fun σ1 => K_X4_mowing (mL M) (mV M) c0 a1 a2 σ1 (fun r4 σ3 => Qk (r4 ^^^ (gi σ3 c0 2)) σ3))) : PS M 0 [(0, .ref c0), (1, .int a1), (2, .ref a2)] [] σ (0, 0) := by
  refine P_aload_n C dX10_mowing_0 2 rfl ?_
  refine P_bipush C dX10_mowing_1 (v := (71 : Int32)) rfl ?_
  refine P_cv (R_v (ci := 5) C kv_X10_mowing_X5_comes (As := [.int (71 : Int32)]) rfl (kdN_0 ha2) rfl (fxl (fxN_0 ha2)) (Nat.le_of_ble_eq_true rfl) dX10_mowing_3 ⟨Nat.le_refl _, Nat.le_refl _⟩ h) (fun σ1 h => ?_)
  refine P_aload_n C dX10_mowing_6 0 rfl ?_
  refine P_iload_n C dX10_mowing_7 1 rfl ?_
  refine P_aload_n C dX10_mowing_8 2 rfl ?_
  have key2 : ∀ Qz, K_X4_mowing (mL M) (mV M) c0 a1 a2 σ1 Qz → RS M 9 [(0, .ref c0), (1, .int a1), (2, .ref a2)] [.ref a2, .int a1, .ref c0] [] σ1 (0, 0) 0 0 (QI (mV M) Qz (([.ref c0, .int a1, .ref a2] : List Value).map (cv (mV M))).toArray) := by
    intro Qz h8
    subst sc0
    · exact R_si (ci := 10) C ks_X10_mowing_X4_mowing (As := [.int a1, .ref a2]) rfl hc0 rfl lc0 (Nat.le_of_ble_eq_true rfl) dX10_mowing_9 ⟨Nat.le_refl _, Nat.le_refl _⟩ h8
  refine P_ci (key2 _ h) (fun r4 σ3 h => ?_)
  refine P_aload_n C dX10_mowing_12 0 rfl ?_
  refine P_getM C fa_X10_mowing_39 (by decide) (by subst sc0; decide) hc0 lc0 dX10_mowing_13 ?_
  refine P_ixor C dX10_mowing_16 ?_
  exact P_iret C dX10_mowing_17 h
noncomputable def KD_mowing (l : Launch) (V : Vx) (ci : Nat) (c0 : Nat) (a1 : Int32) (a2 : Nat) (σ : Sg) (Qk : Int32 → Sg → Prop) : Prop := (ci = 0 → K_X4_mowing l V c0 a1 a2 σ Qk) ∧ (ci = 3 → K_X3_mowing l V c0 a1 a2 σ Qk) ∧ (ci = 4 → K_X4_mowing l V c0 a1 a2 σ Qk) ∧ (ci = 6 → K_X6_mowing l V c0 a1 a2 σ Qk) ∧ (ci = 7 → K_X3_mowing l V c0 a1 a2 σ Qk) ∧ (ci = 8 → K_X4_mowing l V c0 a1 a2 σ Qk) ∧ (ci = 10 → K_X10_mowing l V c0 a1 a2 σ Qk)
theorem kv_X4_whetting_X5_comes_b : KV RX4 wsX4_whetting (rmz 3) 25 RX5 yX5_comes wsX5_comes (rmz 0) 1 := ⟨_, _, _, _, gX4_whetting_X5_comes, rfl, by decide +kernel, by decide⟩
theorem kv_X4_whetting_X5_comes : KV RX4 wsX4_whettinge (rmz 3) 25 RX5 yX5_comes wsX5_comes (rmz 0) 1 := KV_ml kv_X4_whetting_X5_comes_b
theorem ku_X4_whetting_X4_mowing_31_0_b : KU RX4 wsX4_whetting (rmz 3) 31 RX0 yX4_mowing wsX4_mowing (rmz 1) 2 := ⟨_, _, _, _, _, _, Or.inl ⟨gX4_whetting_X4_mowing_u31X0, rfl⟩, rfl, by decide +kernel, by decide⟩
theorem ku_X4_whetting_X4_mowing_31_0 : KU RX4 wsX4_whettinge (rmz 3) 31 RX0 yX4_mowing wsX4_mowinge (rmz 1) 2 := KU_mb ku_X4_whetting_X4_mowing_31_0_b
theorem ku_X4_whetting_X3_mowing_31_3_b : KU RX4 wsX4_whetting (rmz 3) 31 RX3 yX3_mowing wsX3_mowing (rmz 2) 2 := ⟨_, _, _, _, _, _, Or.inr ⟨gX4_whetting_X3_mowing_u31X3, _, _, _, List.mem_of_getElem? (i := 14) rfl⟩, rfl, by decide +kernel, by decide⟩
theorem ku_X4_whetting_X3_mowing_31_3 : KU RX4 wsX4_whettinge (rmz 3) 31 RX3 yX3_mowing wsX3_mowinge (rmz 2) 2 := KU_mb ku_X4_whetting_X3_mowing_31_3_b
theorem kv_X4_whetting_X4_mowing_31_b : KV RX4 wsX4_whetting (rmz 3) 31 RX4 yX4_mowing wsX4_mowing (rmz 1) 2 := ⟨_, _, _, _, gX4_whetting_X4_mowing, rfl, by decide +kernel, by decide⟩
theorem kv_X4_whetting_X4_mowing_31 : KV RX4 wsX4_whettinge (rmz 3) 31 RX4 yX4_mowing wsX4_mowinge (rmz 1) 2 := KV_mb kv_X4_whetting_X4_mowing_31_b
theorem ku_X4_whetting_X6_mowing_31_6_b : KU RX4 wsX4_whetting (rmz 3) 31 RX6 yX6_mowing wsX6_mowing (rmz 2) 2 := ⟨_, _, _, _, _, _, Or.inr ⟨gX4_whetting_X6_mowing_u31X6, _, _, _, List.mem_of_getElem? (i := 14) rfl⟩, rfl, by decide +kernel, by decide⟩
theorem ku_X4_whetting_X6_mowing_31_6 : KU RX4 wsX4_whettinge (rmz 3) 31 RX6 yX6_mowing wsX6_mowinge (rmz 2) 2 := KU_mb ku_X4_whetting_X6_mowing_31_6_b
theorem ku_X4_whetting_X3_mowing_31_7_b : KU RX4 wsX4_whetting (rmz 3) 31 RX7 yX3_mowing wsX3_mowing (rmz 2) 2 := ⟨_, _, _, _, _, _, Or.inr ⟨gX4_whetting_X3_mowing_u31X7, _, _, _, List.mem_of_getElem? (i := 14) rfl⟩, rfl, by decide +kernel, by decide⟩
theorem ku_X4_whetting_X3_mowing_31_7 : KU RX4 wsX4_whettinge (rmz 3) 31 RX7 yX3_mowing wsX3_mowinge (rmz 2) 2 := KU_mb ku_X4_whetting_X3_mowing_31_7_b
theorem ku_X4_whetting_X4_mowing_31_8_b : KU RX4 wsX4_whetting (rmz 3) 31 RX8 yX4_mowing wsX4_mowing (rmz 1) 2 := ⟨_, _, _, _, _, _, Or.inl ⟨gX4_whetting_X4_mowing_u31X8, rfl⟩, rfl, by decide +kernel, by decide⟩
theorem ku_X4_whetting_X4_mowing_31_8 : KU RX4 wsX4_whettinge (rmz 3) 31 RX8 yX4_mowing wsX4_mowinge (rmz 1) 2 := KU_mb ku_X4_whetting_X4_mowing_31_8_b
theorem ku_X4_whetting_X10_mowing_31_10_b : KU RX4 wsX4_whetting (rmz 3) 31 RX10 yX10_mowing wsX10_mowing (rmz 2) 2 := ⟨_, _, _, _, _, _, Or.inr ⟨gX4_whetting_X10_mowing_u31X10, _, _, _, List.mem_of_getElem? (i := 14) rfl⟩, rfl, by decide +kernel, by decide⟩
theorem ku_X4_whetting_X10_mowing_31_10 : KU RX4 wsX4_whettinge (rmz 3) 31 RX10 yX10_mowing wsX10_mowinge (rmz 2) 2 := KU_mb ku_X4_whetting_X10_mowing_31_10_b
theorem fa_X4_whetting_16_b : FA RX4 wsX4_whetting 16 4 2 "NineMowers$Mower" := by
  show _ ∧ _ ∧ _ ∧ _
  exact ⟨by decide, fun _ h => List.mem_cons_of_mem _ (List.mem_append_left _ (List.mem_append_left _ (List.mem_append_left _ (List.mem_append_left _ (List.mem_append_left _ (List.mem_append_right _ h)))))), List.mem_of_getElem? (i := 1) rfl, Or.inl rfl⟩
theorem fa_X4_whetting_16 : FA RX4 wsX4_whettinge 16 4 2 "NineMowers$Mower" := FA_ml fa_X4_whetting_16_b
noncomputable def K_X4_whetting (l : Launch) (V : Vx) (c0 : Nat) (a1 : Int32) (a2 : Nat) (σ : Sg) (Qk : Int32 → Sg → Prop) : Prop := Ka l V yX4_whetting wsX4_whettinge (rmz 3) 0 0 [.ref c0, .int a1, .ref a2] σ (QI V Qk)
theorem e_X4_whetting {l : Launch} {V : Vx} {c0 : Nat} {a1 : Int32} {a2 : Nat} {σ : Sg} {Qk : Int32 → Sg → Prop} (h : ∀ M : Mx, mL M = l → mV M = V → mN M = 3 → Cx M cX4_whetting (some .int) RX4 wsX4_whettinge (rmz 3) 0 0 (QI (mV M) Qk) → PS M 0 [(0, .ref c0), (1, .int a1), (2, .ref a2)] [] σ (0, 0)) : K_X4_whetting l V c0 a1 a2 σ Qk :=
  Ka_of (by decide +kernel) rfl rfl (Nat.le_of_ble_eq_true rfl) (fun M h1 h2 h3 C => h M h1 h2 h3 (by rw [h2]; exact C))
set_option maxRecDepth 100000 in
set_option maxHeartbeats 4000000 in
theorem s_X4_whetting_0 {M : Mx} {Qk : Int32 → Sg → Prop} (C : Cx M cX4_whetting (some .int) RX4 wsX4_whettinge (rmz 3) 0 0 (QI (mV M) Qk)) (hN : mN M = 3) {c0 : Nat} {a1 : Int32} {a2 : Nat} {ci0 : Nat} (sc0 : ci0 = 0 ∨ ci0 = 3 ∨ ci0 = 4 ∨ ci0 = 6 ∨ ci0 = 7 ∨ ci0 = 8 ∨ ci0 = 10) (hc0 : kd c0 = (10 + ci0, 0)) (lc0 : c0 ∈ ids (mV M)) (ha2 : isN a2) {σ : Sg} (h : K_X5_comes (mL M) (mV M) a2 (11 : Int32) σ (fun σ1 => KD_mowing (mL M) (mV M) ci0 c0 a1 a2 σ1 (fun r3 σ2 => Qk (r3 - (gi σ2 c0 2)) σ2))) : PS M 0 [(0, .ref c0), (1, .int a1), (2, .ref a2)] [] σ (0, 0) := by
  refine P_aload_n C dX4_whetting_0 2 rfl ?_
  refine P_bipush C dX4_whetting_1 (v := (11 : Int32)) rfl ?_
  refine P_cv (R_v (ci := 5) C kv_X4_whetting_X5_comes (As := [.int (11 : Int32)]) rfl (kdN_0 ha2) rfl (fxl (fxN_0 ha2)) (Nat.le_of_ble_eq_true rfl) dX4_whetting_3 ⟨Nat.le_refl _, Nat.le_refl _⟩ h) (fun σ1 h => ?_)
  refine P_aload_n C dX4_whetting_6 0 rfl ?_
  refine P_iload_n C dX4_whetting_7 1 rfl ?_
  refine P_aload_n C dX4_whetting_8 2 rfl ?_
  have key : ∀ Qz, KD_mowing (mL M) (mV M) ci0 c0 a1 a2 σ1 Qz → RS M 9 [(0, .ref c0), (1, .int a1), (2, .ref a2)] [.ref a2, .int a1, .ref c0] [] σ1 (0, 0) 0 0 (QI (mV M) Qz (([.ref c0, .int a1, .ref a2] : List Value).map (cv (mV M))).toArray) := by
    intro Qz h
    rcases sc0 with rfl | rfl | rfl | rfl | rfl | rfl | rfl
    · exact R_u (ci := 0) C ku_X4_whetting_X4_mowing_31_0 (As := [.int a1, .ref a2]) rfl hc0 rfl lc0 (Nat.le_of_ble_eq_true rfl) dX4_whetting_9 ⟨Nat.le_refl _, Nat.le_refl _⟩ (h.1 rfl)
    · exact R_u (ci := 3) C ku_X4_whetting_X3_mowing_31_3 (As := [.int a1, .ref a2]) rfl hc0 rfl lc0 (Nat.le_of_ble_eq_true rfl) dX4_whetting_9 ⟨Nat.le_refl _, Nat.le_refl _⟩ (h.2.1 rfl)
    · exact R_v (ci := 4) C kv_X4_whetting_X4_mowing_31 (As := [.int a1, .ref a2]) rfl hc0 rfl lc0 (Nat.le_of_ble_eq_true rfl) dX4_whetting_9 ⟨Nat.le_refl _, Nat.le_refl _⟩ (h.2.2.1 rfl)
    · exact R_u (ci := 6) C ku_X4_whetting_X6_mowing_31_6 (As := [.int a1, .ref a2]) rfl hc0 rfl lc0 (Nat.le_of_ble_eq_true rfl) dX4_whetting_9 ⟨Nat.le_refl _, Nat.le_refl _⟩ (h.2.2.2.1 rfl)
    · exact R_u (ci := 7) C ku_X4_whetting_X3_mowing_31_7 (As := [.int a1, .ref a2]) rfl hc0 rfl lc0 (Nat.le_of_ble_eq_true rfl) dX4_whetting_9 ⟨Nat.le_refl _, Nat.le_refl _⟩ (h.2.2.2.2.1 rfl)
    · exact R_u (ci := 8) C ku_X4_whetting_X4_mowing_31_8 (As := [.int a1, .ref a2]) rfl hc0 rfl lc0 (Nat.le_of_ble_eq_true rfl) dX4_whetting_9 ⟨Nat.le_refl _, Nat.le_refl _⟩ (h.2.2.2.2.2.1 rfl)
    · exact R_u (ci := 10) C ku_X4_whetting_X10_mowing_31_10 (As := [.int a1, .ref a2]) rfl hc0 rfl lc0 (Nat.le_of_ble_eq_true rfl) dX4_whetting_9 ⟨Nat.le_refl _, Nat.le_refl _⟩ (h.2.2.2.2.2.2 rfl)
  refine P_ci (key _ h) (fun r3 σ2 h => ?_)
  refine P_aload_n C dX4_whetting_12 0 rfl ?_
  refine P_getM C fa_X4_whetting_16 (by decide) sc0 hc0 lc0 dX4_whetting_13 ?_
  refine P_isub C dX4_whetting_16 ?_
  exact P_iret C dX4_whetting_17 h
theorem kv_X8_whetting_X5_comes_b : KV RX8 wsX8_whetting (rmz 4) 7 RX5 yX5_comes wsX5_comes (rmz 0) 1 := ⟨_, _, _, _, gX8_whetting_X5_comes, rfl, by decide +kernel, by decide⟩
theorem kv_X8_whetting_X5_comes : KV RX8 wsX8_whettinge (rmz 4) 7 RX5 yX5_comes wsX5_comes (rmz 0) 1 := KV_ml kv_X8_whetting_X5_comes_b
theorem ks_X8_whetting_X4_whetting_b : KSU RX8 wsX8_whetting (rmz 4) 13 yX4_whetting wsX4_whetting (rmz 3) 2 := ⟨_, _, _, _, gX8_whetting_X4_whetting_s13, rfl, by decide +kernel, by decide⟩
theorem ks_X8_whetting_X4_whetting : KSU RX8 wsX8_whettinge (rmz 4) 13 yX4_whetting wsX4_whettinge (rmz 3) 2 := KSU_mb ks_X8_whetting_X4_whetting_b
noncomputable def K_X8_whetting (l : Launch) (V : Vx) (c0 : Nat) (a1 : Int32) (a2 : Nat) (σ : Sg) (Qk : Int32 → Sg → Prop) : Prop := Ka l V yX8_whetting wsX8_whettinge (rmz 4) 0 0 [.ref c0, .int a1, .ref a2] σ (QI V Qk)
theorem e_X8_whetting {l : Launch} {V : Vx} {c0 : Nat} {a1 : Int32} {a2 : Nat} {σ : Sg} {Qk : Int32 → Sg → Prop} (h : ∀ M : Mx, mL M = l → mV M = V → mN M = 3 → Cx M cX8_whetting (some .int) RX8 wsX8_whettinge (rmz 4) 0 0 (QI (mV M) Qk) → PS M 0 [(0, .ref c0), (1, .int a1), (2, .ref a2)] [] σ (0, 0)) : K_X8_whetting l V c0 a1 a2 σ Qk :=
  Ka_of (by decide +kernel) rfl rfl (Nat.le_of_ble_eq_true rfl) (fun M h1 h2 h3 C => h M h1 h2 h3 (by rw [h2]; exact C))
set_option maxRecDepth 100000 in
set_option maxHeartbeats 4000000 in
theorem s_X8_whetting_0 {M : Mx} {Qk : Int32 → Sg → Prop} (C : Cx M cX8_whetting (some .int) RX8 wsX8_whettinge (rmz 4) 0 0 (QI (mV M) Qk)) (hN : mN M = 3) {c0 : Nat} {a1 : Int32} {a2 : Nat} {ci0 : Nat} (sc0 : ci0 = 6 ∨ ci0 = 8) (hc0 : kd c0 = (10 + ci0, 0)) (lc0 : c0 ∈ ids (mV M)) (ha2 : isN a2) {σ : Sg} (h : K_X5_comes (mL M) (mV M) a2 (20 : Int32) σ (fun σ1 => K_X4_whetting (mL M) (mV M) c0 a1 a2 σ1 (fun r4 σ3 => Qk (r4 ^^^ (6 : Int32)) σ3))) : PS M 0 [(0, .ref c0), (1, .int a1), (2, .ref a2)] [] σ (0, 0) := by
  refine P_aload_n C dX8_whetting_0 2 rfl ?_
  refine P_bipush C dX8_whetting_1 (v := (20 : Int32)) rfl ?_
  refine P_cv (R_v (ci := 5) C kv_X8_whetting_X5_comes (As := [.int (20 : Int32)]) rfl (kdN_0 ha2) rfl (fxl (fxN_0 ha2)) (Nat.le_of_ble_eq_true rfl) dX8_whetting_3 ⟨Nat.le_refl _, Nat.le_refl _⟩ h) (fun σ1 h => ?_)
  refine P_aload_n C dX8_whetting_6 0 rfl ?_
  refine P_iload_n C dX8_whetting_7 1 rfl ?_
  refine P_aload_n C dX8_whetting_8 2 rfl ?_
  have key2 : ∀ Qz, K_X4_whetting (mL M) (mV M) c0 a1 a2 σ1 Qz → RS M 9 [(0, .ref c0), (1, .int a1), (2, .ref a2)] [.ref a2, .int a1, .ref c0] [] σ1 (0, 0) 0 0 (QI (mV M) Qz (([.ref c0, .int a1, .ref a2] : List Value).map (cv (mV M))).toArray) := by
    intro Qz h8
    rcases sc0 with rfl | rfl
    · exact R_su (ci := 6) C ks_X8_whetting_X4_whetting (As := [.int a1, .ref a2]) rfl hc0 rfl lc0 (Nat.le_of_ble_eq_true rfl) dX8_whetting_9 ⟨Nat.le_refl _, Nat.le_refl _⟩ h8
    · exact R_su (ci := 8) C ks_X8_whetting_X4_whetting (As := [.int a1, .ref a2]) rfl hc0 rfl lc0 (Nat.le_of_ble_eq_true rfl) dX8_whetting_9 ⟨Nat.le_refl _, Nat.le_refl _⟩ h8
  refine P_ci (key2 _ h) (fun r4 σ3 h => ?_)
  refine P_bipush C dX8_whetting_12 (v := (6 : Int32)) rfl ?_
  refine P_ixor C dX8_whetting_14 ?_
  exact P_iret C dX8_whetting_15 h
theorem kv_X6_whetting_X5_comes_b : KV RX6 wsX6_whetting (rmz 5) 17 RX5 yX5_comes wsX5_comes (rmz 0) 1 := ⟨_, _, _, _, gX6_whetting_X5_comes, rfl, by decide +kernel, by decide⟩
theorem kv_X6_whetting_X5_comes : KV RX6 wsX6_whettinge (rmz 5) 17 RX5 yX5_comes wsX5_comes (rmz 0) 1 := KV_ml kv_X6_whetting_X5_comes_b
theorem ks_X6_whetting_X8_whetting_b : KSU RX6 wsX6_whetting (rmz 5) 27 yX8_whetting wsX8_whetting (rmz 4) 2 := ⟨_, _, _, _, gX6_whetting_X8_whetting_s27, rfl, by decide +kernel, by decide⟩
theorem ks_X6_whetting_X8_whetting : KSU RX6 wsX6_whettinge (rmz 5) 27 yX8_whetting wsX8_whettinge (rmz 4) 2 := KSU_mb ks_X6_whetting_X8_whetting_b
noncomputable def K_X6_whetting (l : Launch) (V : Vx) (c0 : Nat) (a1 : Int32) (a2 : Nat) (σ : Sg) (Qk : Int32 → Sg → Prop) : Prop := Ka l V yX6_whetting wsX6_whettinge (rmz 5) 0 0 [.ref c0, .int a1, .ref a2] σ (QI V Qk)
theorem e_X6_whetting {l : Launch} {V : Vx} {c0 : Nat} {a1 : Int32} {a2 : Nat} {σ : Sg} {Qk : Int32 → Sg → Prop} (h : ∀ M : Mx, mL M = l → mV M = V → mN M = 3 → Cx M cX6_whetting (some .int) RX6 wsX6_whettinge (rmz 5) 0 0 (QI (mV M) Qk) → PS M 0 [(0, .ref c0), (1, .int a1), (2, .ref a2)] [] σ (0, 0)) : K_X6_whetting l V c0 a1 a2 σ Qk :=
  Ka_of (by decide +kernel) rfl rfl (Nat.le_of_ble_eq_true rfl) (fun M h1 h2 h3 C => h M h1 h2 h3 (by rw [h2]; exact C))
set_option maxRecDepth 100000 in
set_option maxHeartbeats 4000000 in
theorem s_X6_whetting_0 {M : Mx} {Qk : Int32 → Sg → Prop} (C : Cx M cX6_whetting (some .int) RX6 wsX6_whettinge (rmz 5) 0 0 (QI (mV M) Qk)) (hN : mN M = 3) {c0 : Nat} {a1 : Int32} {a2 : Nat} {ci0 : Nat} (sc0 : ci0 = 6) (hc0 : kd c0 = (10 + ci0, 0)) (lc0 : c0 ∈ ids (mV M)) (ha2 : isN a2) {σ : Sg} (h : K_X5_comes (mL M) (mV M) a2 (51 : Int32) σ (fun σ1 => K_X8_whetting (mL M) (mV M) c0 (a1 + (1 : Int32)) a2 σ1 (fun r4 σ3 => Qk r4 σ3))) : PS M 0 [(0, .ref c0), (1, .int a1), (2, .ref a2)] [] σ (0, 0) := by
  refine P_aload_n C dX6_whetting_0 2 rfl ?_
  refine P_bipush C dX6_whetting_1 (v := (51 : Int32)) rfl ?_
  refine P_cv (R_v (ci := 5) C kv_X6_whetting_X5_comes (As := [.int (51 : Int32)]) rfl (kdN_0 ha2) rfl (fxl (fxN_0 ha2)) (Nat.le_of_ble_eq_true rfl) dX6_whetting_3 ⟨Nat.le_refl _, Nat.le_refl _⟩ h) (fun σ1 h => ?_)
  refine P_aload_n C dX6_whetting_6 0 rfl ?_
  refine P_iload_n C dX6_whetting_7 1 rfl ?_
  refine P_iconst C dX6_whetting_8 (v := (1 : Int32)) rfl ?_
  refine P_iadd C dX6_whetting_9 ?_
  refine P_aload_n C dX6_whetting_10 2 rfl ?_
  have key2 : ∀ Qz, K_X8_whetting (mL M) (mV M) c0 (a1 + (1 : Int32)) a2 σ1 Qz → RS M 11 [(0, .ref c0), (1, .int a1), (2, .ref a2)] [.ref a2, .int (a1 + (1 : Int32)), .ref c0] [] σ1 (0, 0) 0 0 (QI (mV M) Qz (([.ref c0, .int (a1 + (1 : Int32)), .ref a2] : List Value).map (cv (mV M))).toArray) := by
    intro Qz h8
    subst sc0
    · exact R_su (ci := 6) C ks_X6_whetting_X8_whetting (As := [.int (a1 + (1 : Int32)), .ref a2]) rfl hc0 rfl lc0 (Nat.le_of_ble_eq_true rfl) dX6_whetting_11 ⟨Nat.le_refl _, Nat.le_refl _⟩ h8
  refine P_ci (key2 _ h) (fun r4 σ3 h => ?_)
  exact P_iret C dX6_whetting_14 h
theorem kv_X10_whetting_X5_comes_b : KV RX10 wsX10_whetting (rmz 4) 26 RX5 yX5_comes wsX5_comes (rmz 0) 1 := ⟨_, _, _, _, gX10_whetting_X5_comes, rfl, by decide +kernel, by decide⟩
theorem kv_X10_whetting_X5_comes : KV RX10 wsX10_whettinge (rmz 4) 26 RX5 yX5_comes wsX5_comes (rmz 0) 1 := KV_ml kv_X10_whetting_X5_comes_b
theorem ks_X10_whetting_X4_whetting : KSI RX10 wsX10_whettinge (rmz 4) 32 ⟨RX0, "whetting", "(ILNineMowers$Numbers;)I"⟩ RX4 yX4_whetting wsX4_whettinge (rmz 3) 2 := ⟨_, _, _, _, gsi_X10_whetting_32, rfl, by decide +kernel, by decide⟩
theorem ks_X10_whetting_X4_mowing : KSI RX10 wsX10_whettinge (rmz 4) 36 ⟨RX0, "mowing", "(ILNineMowers$Numbers;)I"⟩ RX4 yX4_mowing wsX4_mowinge (rmz 1) 2 := ⟨_, _, _, _, gsi_X10_whetting_36, rfl, by decide +kernel, by decide⟩
noncomputable def K_X10_whetting (l : Launch) (V : Vx) (c0 : Nat) (a1 : Int32) (a2 : Nat) (σ : Sg) (Qk : Int32 → Sg → Prop) : Prop := Ka l V yX10_whetting wsX10_whettinge (rmz 4) 0 0 [.ref c0, .int a1, .ref a2] σ (QI V Qk)
theorem e_X10_whetting {l : Launch} {V : Vx} {c0 : Nat} {a1 : Int32} {a2 : Nat} {σ : Sg} {Qk : Int32 → Sg → Prop} (h : ∀ M : Mx, mL M = l → mV M = V → mN M = 3 → Cx M cX10_whetting (some .int) RX10 wsX10_whettinge (rmz 4) 0 0 (QI (mV M) Qk) → PS M 0 [(0, .ref c0), (1, .int a1), (2, .ref a2)] [] σ (0, 0)) : K_X10_whetting l V c0 a1 a2 σ Qk :=
  Ka_of (by decide +kernel) rfl rfl (Nat.le_of_ble_eq_true rfl) (fun M h1 h2 h3 C => h M h1 h2 h3 (by rw [h2]; exact C))
set_option maxRecDepth 100000 in
set_option maxHeartbeats 4000000 in
theorem s_X10_whetting_0 {M : Mx} {Qk : Int32 → Sg → Prop} (C : Cx M cX10_whetting (some .int) RX10 wsX10_whettinge (rmz 4) 0 0 (QI (mV M) Qk)) (hN : mN M = 3) {c0 : Nat} {a1 : Int32} {a2 : Nat} {ci0 : Nat} (sc0 : ci0 = 10) (hc0 : kd c0 = (10 + ci0, 0)) (lc0 : c0 ∈ ids (mV M)) (ha2 : isN a2) {σ : Sg} (h : K_X5_comes (mL M) (mV M) a2 (70 : Int32) σ (fun σ1 => K_X4_whetting (mL M) (mV M) c0 a1 a2 σ1 (fun r4 σ3 => K_X4_mowing (mL M) (mV M) c0 (2 : Int32) a2 σ3 (fun r7 σ6 => Qk (r4 + r7) σ6)))) : PS M 0 [(0, .ref c0), (1, .int a1), (2, .ref a2)] [] σ (0, 0) := by
  refine P_aload_n C dX10_whetting_0 2 rfl ?_
  refine P_bipush C dX10_whetting_1 (v := (70 : Int32)) rfl ?_
  refine P_cv (R_v (ci := 5) C kv_X10_whetting_X5_comes (As := [.int (70 : Int32)]) rfl (kdN_0 ha2) rfl (fxl (fxN_0 ha2)) (Nat.le_of_ble_eq_true rfl) dX10_whetting_3 ⟨Nat.le_refl _, Nat.le_refl _⟩ h) (fun σ1 h => ?_)
  refine P_aload_n C dX10_whetting_6 0 rfl ?_
  refine P_iload_n C dX10_whetting_7 1 rfl ?_
  refine P_aload_n C dX10_whetting_8 2 rfl ?_
  have key2 : ∀ Qz, K_X4_whetting (mL M) (mV M) c0 a1 a2 σ1 Qz → RS M 9 [(0, .ref c0), (1, .int a1), (2, .ref a2)] [.ref a2, .int a1, .ref c0] [] σ1 (0, 0) 0 0 (QI (mV M) Qz (([.ref c0, .int a1, .ref a2] : List Value).map (cv (mV M))).toArray) := by
    intro Qz h8
    subst sc0
    · exact R_si (ci := 10) C ks_X10_whetting_X4_whetting (As := [.int a1, .ref a2]) rfl hc0 rfl lc0 (Nat.le_of_ble_eq_true rfl) dX10_whetting_9 ⟨Nat.le_refl _, Nat.le_refl _⟩ h8
  refine P_ci (key2 _ h) (fun r4 σ3 h => ?_)
  refine P_aload_n C dX10_whetting_12 0 rfl ?_
  refine P_iconst C dX10_whetting_13 (v := (2 : Int32)) rfl ?_
  refine P_aload_n C dX10_whetting_14 2 rfl ?_
  have key5 : ∀ Qz, K_X4_mowing (mL M) (mV M) c0 (2 : Int32) a2 σ3 Qz → RS M 15 [(0, .ref c0), (1, .int a1), (2, .ref a2)] [.ref a2, .int (2 : Int32), .ref c0, .int r4] [.int r4] σ3 (0, 0) 0 0 (QI (mV M) Qz (([.ref c0, .int (2 : Int32), .ref a2] : List Value).map (cv (mV M))).toArray) := by
    intro Qz h8
    subst sc0
    · exact R_si (ci := 10) C ks_X10_whetting_X4_mowing (As := [.int (2 : Int32), .ref a2]) rfl hc0 rfl lc0 (Nat.le_of_ble_eq_true rfl) dX10_whetting_15 ⟨Nat.le_refl _, Nat.le_refl _⟩ h8
  refine P_ci (key5 _ h) (fun r7 σ6 h => ?_)
  refine P_iadd C dX10_whetting_18 ?_
  exact P_iret C dX10_whetting_19 h
noncomputable def KD_whetting (l : Launch) (V : Vx) (ci : Nat) (c0 : Nat) (a1 : Int32) (a2 : Nat) (σ : Sg) (Qk : Int32 → Sg → Prop) : Prop := (ci = 0 → K_X4_whetting l V c0 a1 a2 σ Qk) ∧ (ci = 3 → K_X4_whetting l V c0 a1 a2 σ Qk) ∧ (ci = 4 → K_X4_whetting l V c0 a1 a2 σ Qk) ∧ (ci = 6 → K_X6_whetting l V c0 a1 a2 σ Qk) ∧ (ci = 7 → K_X4_whetting l V c0 a1 a2 σ Qk) ∧ (ci = 8 → K_X8_whetting l V c0 a1 a2 σ Qk) ∧ (ci = 10 → K_X10_whetting l V c0 a1 a2 σ Qk)
theorem kv_X4_telling_X5_comes_b : KV RX4 wsX4_telling (rmz 6) 25 RX5 yX5_comes wsX5_comes (rmz 0) 1 := ⟨_, _, _, _, gX4_telling_X5_comes, rfl, by decide +kernel, by decide⟩
theorem kv_X4_telling_X5_comes : KV RX4 wsX4_tellinge (rmz 6) 25 RX5 yX5_comes wsX5_comes (rmz 0) 1 := KV_ml kv_X4_telling_X5_comes_b
theorem ku_X4_telling_X4_whetting_35_0_b : KU RX4 wsX4_telling (rmz 6) 35 RX0 yX4_whetting wsX4_whetting (rmz 3) 2 := ⟨_, _, _, _, _, _, Or.inl ⟨gX4_telling_X4_whetting_u35X0, rfl⟩, rfl, by decide +kernel, by decide⟩
theorem ku_X4_telling_X4_whetting_35_0 : KU RX4 wsX4_tellinge (rmz 6) 35 RX0 yX4_whetting wsX4_whettinge (rmz 3) 2 := KU_mb ku_X4_telling_X4_whetting_35_0_b
theorem ku_X4_telling_X4_whetting_35_3_b : KU RX4 wsX4_telling (rmz 6) 35 RX3 yX4_whetting wsX4_whetting (rmz 3) 2 := ⟨_, _, _, _, _, _, Or.inl ⟨gX4_telling_X4_whetting_u35X3, rfl⟩, rfl, by decide +kernel, by decide⟩
theorem ku_X4_telling_X4_whetting_35_3 : KU RX4 wsX4_tellinge (rmz 6) 35 RX3 yX4_whetting wsX4_whettinge (rmz 3) 2 := KU_mb ku_X4_telling_X4_whetting_35_3_b
theorem kv_X4_telling_X4_whetting_35_b : KV RX4 wsX4_telling (rmz 6) 35 RX4 yX4_whetting wsX4_whetting (rmz 3) 2 := ⟨_, _, _, _, gX4_telling_X4_whetting, rfl, by decide +kernel, by decide⟩
theorem kv_X4_telling_X4_whetting_35 : KV RX4 wsX4_tellinge (rmz 6) 35 RX4 yX4_whetting wsX4_whettinge (rmz 3) 2 := KV_mb kv_X4_telling_X4_whetting_35_b
theorem ku_X4_telling_X6_whetting_35_6_b : KU RX4 wsX4_telling (rmz 6) 35 RX6 yX6_whetting wsX6_whetting (rmz 5) 2 := ⟨_, _, _, _, _, _, Or.inr ⟨gX4_telling_X6_whetting_u35X6, _, _, _, List.mem_of_getElem? (i := 13) rfl⟩, rfl, by decide +kernel, by decide⟩
theorem ku_X4_telling_X6_whetting_35_6 : KU RX4 wsX4_tellinge (rmz 6) 35 RX6 yX6_whetting wsX6_whettinge (rmz 5) 2 := KU_mb ku_X4_telling_X6_whetting_35_6_b
theorem ku_X4_telling_X4_whetting_35_7_b : KU RX4 wsX4_telling (rmz 6) 35 RX7 yX4_whetting wsX4_whetting (rmz 3) 2 := ⟨_, _, _, _, _, _, Or.inl ⟨gX4_telling_X4_whetting_u35X7, rfl⟩, rfl, by decide +kernel, by decide⟩
theorem ku_X4_telling_X4_whetting_35_7 : KU RX4 wsX4_tellinge (rmz 6) 35 RX7 yX4_whetting wsX4_whettinge (rmz 3) 2 := KU_mb ku_X4_telling_X4_whetting_35_7_b
theorem ku_X4_telling_X8_whetting_35_8_b : KU RX4 wsX4_telling (rmz 6) 35 RX8 yX8_whetting wsX8_whetting (rmz 4) 2 := ⟨_, _, _, _, _, _, Or.inr ⟨gX4_telling_X8_whetting_u35X8, _, _, _, List.mem_of_getElem? (i := 13) rfl⟩, rfl, by decide +kernel, by decide⟩
theorem ku_X4_telling_X8_whetting_35_8 : KU RX4 wsX4_tellinge (rmz 6) 35 RX8 yX8_whetting wsX8_whettinge (rmz 4) 2 := KU_mb ku_X4_telling_X8_whetting_35_8_b
theorem ku_X4_telling_X10_whetting_35_10_b : KU RX4 wsX4_telling (rmz 6) 35 RX10 yX10_whetting wsX10_whetting (rmz 4) 2 := ⟨_, _, _, _, _, _, Or.inr ⟨gX4_telling_X10_whetting_u35X10, _, _, _, List.mem_of_getElem? (i := 13) rfl⟩, rfl, by decide +kernel, by decide⟩
theorem ku_X4_telling_X10_whetting_35_10 : KU RX4 wsX4_tellinge (rmz 6) 35 RX10 yX10_whetting wsX10_whettinge (rmz 4) 2 := KU_mb ku_X4_telling_X10_whetting_35_10_b
noncomputable def K_X4_telling (l : Launch) (V : Vx) (c0 : Nat) (a1 : Int32) (a2 : Nat) (σ : Sg) (Qk : Int32 → Sg → Prop) : Prop := Ka l V yX4_telling wsX4_tellinge (rmz 6) 0 0 [.ref c0, .int a1, .ref a2] σ (QI V Qk)
theorem e_X4_telling {l : Launch} {V : Vx} {c0 : Nat} {a1 : Int32} {a2 : Nat} {σ : Sg} {Qk : Int32 → Sg → Prop} (h : ∀ M : Mx, mL M = l → mV M = V → mN M = 3 → Cx M cX4_telling (some .int) RX4 wsX4_tellinge (rmz 6) 0 0 (QI (mV M) Qk) → PS M 0 [(0, .ref c0), (1, .int a1), (2, .ref a2)] [] σ (0, 0)) : K_X4_telling l V c0 a1 a2 σ Qk :=
  Ka_of (by decide +kernel) rfl rfl (Nat.le_of_ble_eq_true rfl) (fun M h1 h2 h3 C => h M h1 h2 h3 (by rw [h2]; exact C))
set_option maxRecDepth 100000 in
set_option maxHeartbeats 4000000 in
theorem s_X4_telling_0 {M : Mx} {Qk : Int32 → Sg → Prop} (C : Cx M cX4_telling (some .int) RX4 wsX4_tellinge (rmz 6) 0 0 (QI (mV M) Qk)) (hN : mN M = 3) {c0 : Nat} {a1 : Int32} {a2 : Nat} {ci0 : Nat} (sc0 : ci0 = 0 ∨ ci0 = 3 ∨ ci0 = 4 ∨ ci0 = 6 ∨ ci0 = 7 ∨ ci0 = 8 ∨ ci0 = 10) (hc0 : kd c0 = (10 + ci0, 0)) (lc0 : c0 ∈ ids (mV M)) (ha2 : isN a2) {σ : Sg} (h : K_X5_comes (mL M) (mV M) a2 (12 : Int32) σ (fun σ1 => KD_whetting (mL M) (mV M) ci0 c0 a1 a2 σ1 (fun r3 σ2 => Qk (r3 * (2 : Int32)) σ2))) : PS M 0 [(0, .ref c0), (1, .int a1), (2, .ref a2)] [] σ (0, 0) := by
  refine P_aload_n C dX4_telling_0 2 rfl ?_
  refine P_bipush C dX4_telling_1 (v := (12 : Int32)) rfl ?_
  refine P_cv (R_v (ci := 5) C kv_X4_telling_X5_comes (As := [.int (12 : Int32)]) rfl (kdN_0 ha2) rfl (fxl (fxN_0 ha2)) (Nat.le_of_ble_eq_true rfl) dX4_telling_3 ⟨Nat.le_refl _, Nat.le_refl _⟩ h) (fun σ1 h => ?_)
  refine P_aload_n C dX4_telling_6 0 rfl ?_
  refine P_iload_n C dX4_telling_7 1 rfl ?_
  refine P_aload_n C dX4_telling_8 2 rfl ?_
  have key : ∀ Qz, KD_whetting (mL M) (mV M) ci0 c0 a1 a2 σ1 Qz → RS M 9 [(0, .ref c0), (1, .int a1), (2, .ref a2)] [.ref a2, .int a1, .ref c0] [] σ1 (0, 0) 0 0 (QI (mV M) Qz (([.ref c0, .int a1, .ref a2] : List Value).map (cv (mV M))).toArray) := by
    intro Qz h
    rcases sc0 with rfl | rfl | rfl | rfl | rfl | rfl | rfl
    · exact R_u (ci := 0) C ku_X4_telling_X4_whetting_35_0 (As := [.int a1, .ref a2]) rfl hc0 rfl lc0 (Nat.le_of_ble_eq_true rfl) dX4_telling_9 ⟨Nat.le_refl _, Nat.le_refl _⟩ (h.1 rfl)
    · exact R_u (ci := 3) C ku_X4_telling_X4_whetting_35_3 (As := [.int a1, .ref a2]) rfl hc0 rfl lc0 (Nat.le_of_ble_eq_true rfl) dX4_telling_9 ⟨Nat.le_refl _, Nat.le_refl _⟩ (h.2.1 rfl)
    · exact R_v (ci := 4) C kv_X4_telling_X4_whetting_35 (As := [.int a1, .ref a2]) rfl hc0 rfl lc0 (Nat.le_of_ble_eq_true rfl) dX4_telling_9 ⟨Nat.le_refl _, Nat.le_refl _⟩ (h.2.2.1 rfl)
    · exact R_u (ci := 6) C ku_X4_telling_X6_whetting_35_6 (As := [.int a1, .ref a2]) rfl hc0 rfl lc0 (Nat.le_of_ble_eq_true rfl) dX4_telling_9 ⟨Nat.le_refl _, Nat.le_refl _⟩ (h.2.2.2.1 rfl)
    · exact R_u (ci := 7) C ku_X4_telling_X4_whetting_35_7 (As := [.int a1, .ref a2]) rfl hc0 rfl lc0 (Nat.le_of_ble_eq_true rfl) dX4_telling_9 ⟨Nat.le_refl _, Nat.le_refl _⟩ (h.2.2.2.2.1 rfl)
    · exact R_u (ci := 8) C ku_X4_telling_X8_whetting_35_8 (As := [.int a1, .ref a2]) rfl hc0 rfl lc0 (Nat.le_of_ble_eq_true rfl) dX4_telling_9 ⟨Nat.le_refl _, Nat.le_refl _⟩ (h.2.2.2.2.2.1 rfl)
    · exact R_u (ci := 10) C ku_X4_telling_X10_whetting_35_10 (As := [.int a1, .ref a2]) rfl hc0 rfl lc0 (Nat.le_of_ble_eq_true rfl) dX4_telling_9 ⟨Nat.le_refl _, Nat.le_refl _⟩ (h.2.2.2.2.2.2 rfl)
  refine P_ci (key _ h) (fun r3 σ2 h => ?_)
  refine P_iconst C dX4_telling_12 (v := (2 : Int32)) rfl ?_
  refine P_imul C dX4_telling_13 ?_
  exact P_iret C dX4_telling_14 h
theorem kv_X0_telling_X5_comes_b : KV RX0 wsX0_telling (rmz 7) 11 RX5 yX5_comes wsX5_comes (rmz 0) 1 := ⟨_, _, _, _, gX0_telling_X5_comes, rfl, by decide +kernel, by decide⟩
theorem kv_X0_telling_X5_comes : KV RX0 wsX0_tellinge (rmz 7) 11 RX5 yX5_comes wsX5_comes (rmz 0) 1 := KV_ml kv_X0_telling_X5_comes_b
theorem ks_X0_telling_X4_telling_b : KSU RX0 wsX0_telling (rmz 7) 17 yX4_telling wsX4_telling (rmz 6) 2 := ⟨_, _, _, _, gX0_telling_X4_telling_s17, rfl, by decide +kernel, by decide⟩
theorem ks_X0_telling_X4_telling : KSU RX0 wsX0_tellinge (rmz 7) 17 yX4_telling wsX4_tellinge (rmz 6) 2 := KSU_mb ks_X0_telling_X4_telling_b
theorem ku_X0_telling_X4_whetting_21_0_b : KU RX0 wsX0_telling (rmz 7) 21 RX0 yX4_whetting wsX4_whetting (rmz 3) 2 := ⟨_, _, _, _, _, _, Or.inl ⟨gX0_telling_X4_whetting_u21X0, rfl⟩, rfl, by decide +kernel, by decide⟩
theorem ku_X0_telling_X4_whetting_21_0 : KU RX0 wsX0_tellinge (rmz 7) 21 RX0 yX4_whetting wsX4_whettinge (rmz 3) 2 := KU_mb ku_X0_telling_X4_whetting_21_0_b
theorem ku_X0_telling_X10_whetting_21_10_b : KU RX0 wsX0_telling (rmz 7) 21 RX10 yX10_whetting wsX10_whetting (rmz 4) 2 := ⟨_, _, _, _, _, _, Or.inr ⟨gX0_telling_X10_whetting_u21X10, _, _, _, List.mem_of_getElem? (i := 19) rfl⟩, rfl, by decide +kernel, by decide⟩
theorem ku_X0_telling_X10_whetting_21_10 : KU RX0 wsX0_tellinge (rmz 7) 21 RX10 yX10_whetting wsX10_whettinge (rmz 4) 2 := KU_mb ku_X0_telling_X10_whetting_21_10_b
noncomputable def K_X0_telling (l : Launch) (V : Vx) (c0 : Nat) (a1 : Int32) (a2 : Nat) (σ : Sg) (Qk : Int32 → Sg → Prop) : Prop := Ka l V yX0_telling wsX0_tellinge (rmz 7) 0 0 [.ref c0, .int a1, .ref a2] σ (QI V Qk)
theorem e_X0_telling {l : Launch} {V : Vx} {c0 : Nat} {a1 : Int32} {a2 : Nat} {σ : Sg} {Qk : Int32 → Sg → Prop} (h : ∀ M : Mx, mL M = l → mV M = V → mN M = 3 → Cx M cX0_telling (some .int) RX0 wsX0_tellinge (rmz 7) 0 0 (QI (mV M) Qk) → PS M 0 [(0, .ref c0), (1, .int a1), (2, .ref a2)] [] σ (0, 0)) : K_X0_telling l V c0 a1 a2 σ Qk :=
  Ka_of (by decide +kernel) rfl rfl (Nat.le_of_ble_eq_true rfl) (fun M h1 h2 h3 C => h M h1 h2 h3 (by rw [h2]; exact C))
set_option maxRecDepth 100000 in
set_option maxHeartbeats 4000000 in
theorem s_X0_telling_0 {M : Mx} {Qk : Int32 → Sg → Prop} (C : Cx M cX0_telling (some .int) RX0 wsX0_tellinge (rmz 7) 0 0 (QI (mV M) Qk)) (hN : mN M = 3) {c0 : Nat} {a1 : Int32} {a2 : Nat} {ci0 : Nat} (sc0 : ci0 = 0 ∨ ci0 = 10) (hc0 : kd c0 = (10 + ci0, 0)) (lc0 : c0 ∈ ids (mV M)) (ha2 : isN a2) {σ : Sg} (h : K_X5_comes (mL M) (mV M) a2 (40 : Int32) σ (fun σ1 => K_X4_telling (mL M) (mV M) c0 a1 a2 σ1 (fun r4 σ3 => KD_whetting (mL M) (mV M) ci0 c0 (1 : Int32) a2 σ3 (fun r6 σ5 => Qk (r4 + r6) σ5)))) : PS M 0 [(0, .ref c0), (1, .int a1), (2, .ref a2)] [] σ (0, 0) := by
  refine P_aload_n C dX0_telling_0 2 rfl ?_
  refine P_bipush C dX0_telling_1 (v := (40 : Int32)) rfl ?_
  refine P_cv (R_v (ci := 5) C kv_X0_telling_X5_comes (As := [.int (40 : Int32)]) rfl (kdN_0 ha2) rfl (fxl (fxN_0 ha2)) (Nat.le_of_ble_eq_true rfl) dX0_telling_3 ⟨Nat.le_refl _, Nat.le_refl _⟩ h) (fun σ1 h => ?_)
  refine P_aload_n C dX0_telling_6 0 rfl ?_
  refine P_iload_n C dX0_telling_7 1 rfl ?_
  refine P_aload_n C dX0_telling_8 2 rfl ?_
  have key2 : ∀ Qz, K_X4_telling (mL M) (mV M) c0 a1 a2 σ1 Qz → RS M 9 [(0, .ref c0), (1, .int a1), (2, .ref a2)] [.ref a2, .int a1, .ref c0] [] σ1 (0, 0) 0 0 (QI (mV M) Qz (([.ref c0, .int a1, .ref a2] : List Value).map (cv (mV M))).toArray) := by
    intro Qz h8
    rcases sc0 with rfl | rfl
    · exact R_su (ci := 0) C ks_X0_telling_X4_telling (As := [.int a1, .ref a2]) rfl hc0 rfl lc0 (Nat.le_of_ble_eq_true rfl) dX0_telling_9 ⟨Nat.le_refl _, Nat.le_refl _⟩ h8
    · exact R_su (ci := 10) C ks_X0_telling_X4_telling (As := [.int a1, .ref a2]) rfl hc0 rfl lc0 (Nat.le_of_ble_eq_true rfl) dX0_telling_9 ⟨Nat.le_refl _, Nat.le_refl _⟩ h8
  refine P_ci (key2 _ h) (fun r4 σ3 h => ?_)
  refine P_aload_n C dX0_telling_12 0 rfl ?_
  refine P_iconst C dX0_telling_13 (v := (1 : Int32)) rfl ?_
  refine P_aload_n C dX0_telling_14 2 rfl ?_
  have key : ∀ Qz, KD_whetting (mL M) (mV M) ci0 c0 (1 : Int32) a2 σ3 Qz → RS M 15 [(0, .ref c0), (1, .int a1), (2, .ref a2)] [.ref a2, .int (1 : Int32), .ref c0, .int r4] [.int r4] σ3 (0, 0) 0 0 (QI (mV M) Qz (([.ref c0, .int (1 : Int32), .ref a2] : List Value).map (cv (mV M))).toArray) := by
    intro Qz h
    rcases sc0 with rfl | rfl
    · exact R_u (ci := 0) C ku_X0_telling_X4_whetting_21_0 (As := [.int (1 : Int32), .ref a2]) rfl hc0 rfl lc0 (Nat.le_of_ble_eq_true rfl) dX0_telling_15 ⟨Nat.le_refl _, Nat.le_refl _⟩ (h.1 rfl)
    · exact R_u (ci := 10) C ku_X0_telling_X10_whetting_21_10 (As := [.int (1 : Int32), .ref a2]) rfl hc0 rfl lc0 (Nat.le_of_ble_eq_true rfl) dX0_telling_15 ⟨Nat.le_refl _, Nat.le_refl _⟩ (h.2.2.2.2.2.2 rfl)
  refine P_ci (key _ h) (fun r6 σ5 h => ?_)
  refine P_iadd C dX0_telling_18 ?_
  exact P_iret C dX0_telling_19 h
theorem kv_X7_telling_X5_comes_b : KV RX7 wsX7_telling (rmz 7) 17 RX5 yX5_comes wsX5_comes (rmz 0) 1 := ⟨_, _, _, _, gX7_telling_X5_comes, rfl, by decide +kernel, by decide⟩
theorem kv_X7_telling_X5_comes : KV RX7 wsX7_tellinge (rmz 7) 17 RX5 yX5_comes wsX5_comes (rmz 0) 1 := KV_ml kv_X7_telling_X5_comes_b
theorem fa_X7_telling_23_b : FA RX7 wsX7_telling 23 7 1 "NineMowers$Pressed" := by
  show _ ∧ _ ∧ _ ∧ _
  exact ⟨by decide, fun _ h => List.mem_cons_of_mem _ (List.mem_append_left _ (List.mem_append_left _ (List.mem_append_left _ (List.mem_append_right _ h)))), List.mem_of_getElem? (i := 1) rfl, Or.inr (List.mem_of_getElem? (i := 2) rfl)⟩
theorem fa_X7_telling_23 : FA RX7 wsX7_tellinge 23 7 1 "NineMowers$Pressed" := FA_ml fa_X7_telling_23_b
theorem ks_X7_telling_X4_telling : KSI RX7 wsX7_tellinge (rmz 7) 29 ⟨RX3, "telling", "(ILNineMowers$Numbers;)I"⟩ RX4 yX4_telling wsX4_tellinge (rmz 6) 2 := ⟨_, _, _, _, gsi_X7_telling_29, rfl, by decide +kernel, by decide⟩
noncomputable def K_X7_telling (l : Launch) (V : Vx) (c0 : Nat) (a1 : Int32) (a2 : Nat) (σ : Sg) (Qk : Int32 → Sg → Prop) : Prop := Ka l V yX7_telling wsX7_tellinge (rmz 7) 0 0 [.ref c0, .int a1, .ref a2] σ (QI V Qk)
theorem e_X7_telling {l : Launch} {V : Vx} {c0 : Nat} {a1 : Int32} {a2 : Nat} {σ : Sg} {Qk : Int32 → Sg → Prop} (h : ∀ M : Mx, mL M = l → mV M = V → mN M = 3 → Cx M cX7_telling (some .int) RX7 wsX7_tellinge (rmz 7) 0 0 (QI (mV M) Qk) → PS M 0 [(0, .ref c0), (1, .int a1), (2, .ref a2)] [] σ (0, 0)) : K_X7_telling l V c0 a1 a2 σ Qk :=
  Ka_of (by decide +kernel) rfl rfl (Nat.le_of_ble_eq_true rfl) (fun M h1 h2 h3 C => h M h1 h2 h3 (by rw [h2]; exact C))
set_option maxRecDepth 100000 in
set_option maxHeartbeats 4000000 in
theorem s_X7_telling_0 {M : Mx} {Qk : Int32 → Sg → Prop} (C : Cx M cX7_telling (some .int) RX7 wsX7_tellinge (rmz 7) 0 0 (QI (mV M) Qk)) (hN : mN M = 3) {c0 : Nat} {a1 : Int32} {a2 : Nat} {ci0 : Nat} (sc0 : ci0 = 7) (hc0 : kd c0 = (10 + ci0, 0)) (lc0 : c0 ∈ ids (mV M)) (ha2 : isN a2) {σ : Sg} (h : K_X5_comes (mL M) (mV M) a2 (60 : Int32) σ (fun σ1 => K_X4_telling (mL M) (mV M) c0 (a1 - (gi σ1 c0 1)) a2 σ1 (fun r4 σ3 => Qk r4 σ3))) : PS M 0 [(0, .ref c0), (1, .int a1), (2, .ref a2)] [] σ (0, 0) := by
  refine P_aload_n C dX7_telling_0 2 rfl ?_
  refine P_bipush C dX7_telling_1 (v := (60 : Int32)) rfl ?_
  refine P_cv (R_v (ci := 5) C kv_X7_telling_X5_comes (As := [.int (60 : Int32)]) rfl (kdN_0 ha2) rfl (fxl (fxN_0 ha2)) (Nat.le_of_ble_eq_true rfl) dX7_telling_3 ⟨Nat.le_refl _, Nat.le_refl _⟩ h) (fun σ1 h => ?_)
  refine P_aload_n C dX7_telling_6 0 rfl ?_
  refine P_iload_n C dX7_telling_7 1 rfl ?_
  refine P_aload_n C dX7_telling_8 0 rfl ?_
  refine P_getM C fa_X7_telling_23 (by decide) (by subst sc0; decide) hc0 lc0 dX7_telling_9 ?_
  refine P_isub C dX7_telling_12 ?_
  refine P_aload_n C dX7_telling_13 2 rfl ?_
  have key2 : ∀ Qz, K_X4_telling (mL M) (mV M) c0 (a1 - (gi σ1 c0 1)) a2 σ1 Qz → RS M 14 [(0, .ref c0), (1, .int a1), (2, .ref a2)] [.ref a2, .int (a1 - (gi σ1 c0 1)), .ref c0] [] σ1 (0, 0) 0 0 (QI (mV M) Qz (([.ref c0, .int (a1 - (gi σ1 c0 1)), .ref a2] : List Value).map (cv (mV M))).toArray) := by
    intro Qz h8
    subst sc0
    · exact R_si (ci := 7) C ks_X7_telling_X4_telling (As := [.int (a1 - (gi σ1 c0 1)), .ref a2]) rfl hc0 rfl lc0 (Nat.le_of_ble_eq_true rfl) dX7_telling_14 ⟨Nat.le_refl _, Nat.le_refl _⟩ h8
  refine P_ci (key2 _ h) (fun r4 σ3 h => ?_)
  exact P_iret C dX7_telling_17 h
noncomputable def KD_telling (l : Launch) (V : Vx) (ci : Nat) (c0 : Nat) (a1 : Int32) (a2 : Nat) (σ : Sg) (Qk : Int32 → Sg → Prop) : Prop := (ci = 0 → K_X0_telling l V c0 a1 a2 σ Qk) ∧ (ci = 3 → K_X4_telling l V c0 a1 a2 σ Qk) ∧ (ci = 4 → K_X4_telling l V c0 a1 a2 σ Qk) ∧ (ci = 6 → K_X4_telling l V c0 a1 a2 σ Qk) ∧ (ci = 7 → K_X7_telling l V c0 a1 a2 σ Qk) ∧ (ci = 8 → K_X4_telling l V c0 a1 a2 σ Qk) ∧ (ci = 10 → K_X0_telling l V c0 a1 a2 σ Qk)
theorem fa_X11_act_56_b : FA RX11 wsX11_act 56 11 9 "NineMowers" := by
  show _ ∧ _ ∧ _ ∧ _
  exact ⟨by decide, fun _ h => List.mem_cons_of_mem _ (List.mem_append_left _ (List.mem_append_left _ (List.mem_append_left _ (List.mem_append_left _ (List.mem_append_left _ (List.mem_append_left _ (List.mem_append_left _ (List.mem_append_left _ (List.mem_append_left _ (List.mem_append_right _ h)))))))))), List.mem_of_getElem? (i := 1) rfl, Or.inl rfl⟩
theorem fa_X11_act_56 : FA RX11 wsX11_acte 56 11 9 "NineMowers" := FA_ml fa_X11_act_56_b
theorem pa_X11_act_256_b : PA RX11 wsX11_act 256 5 1 "NineMowers$Numbers" .int := by
  show _ ∧ _ ∧ _ ∧ _ ∧ _ ∧ _ ∧ _ ∧ _
  exact ⟨by decide, fun _ h => List.mem_cons_of_mem _ (List.mem_append_left _ (List.mem_append_left _ (List.mem_append_left _ (List.mem_append_left _ (List.mem_append_left _ (List.mem_append_left _ (List.mem_append_left _ (List.mem_append_left _ (List.mem_append_right _ h))))))))), List.mem_of_getElem? (i := 2) rfl, rfl, rfl, by decide +kernel, ⟨tyX5, tyX5_ok⟩, nmX5⟩
theorem pa_X11_act_256 : PA RX11 wsX11_acte 256 5 1 "NineMowers$Numbers" .int := PA_ml pa_X11_act_256_b
theorem kv_X11_act_X11_isMower_b : KV RX11 wsX11_act (rmz 8) 110 RX11 yX11_isMower wsX11_isMower (rmz 0) 1 := ⟨_, _, _, _, gX11_act_X11_isMower, rfl, by decide +kernel, by decide⟩
theorem kv_X11_act_X11_isMower : KV RX11 wsX11_acte (rmz 8) 110 RX11 yX11_isMower wsX11_isMower (rmz 0) 1 := KV_ml kv_X11_act_X11_isMower_b
theorem fa_X11_act_12_b : FA RX11 wsX11_act 12 11 0 "NineMowers" := by
  show _ ∧ _ ∧ _ ∧ _
  exact ⟨by decide, fun _ h => List.mem_cons_of_mem _ (List.mem_append_left _ (List.mem_append_left _ (List.mem_append_left _ (List.mem_append_left _ (List.mem_append_left _ (List.mem_append_left _ (List.mem_append_left _ (List.mem_append_left _ (List.mem_append_left _ (List.mem_append_right _ h)))))))))), List.mem_of_getElem? (i := 3) rfl, Or.inl rfl⟩
theorem fa_X11_act_12 : FA RX11 wsX11_acte 12 11 0 "NineMowers" := FA_ml fa_X11_act_12_b
theorem fa_X11_act_114_b : FA RX11 wsX11_act 114 1 0 "NineMowers$Course" := by
  show _ ∧ _ ∧ _ ∧ _
  exact ⟨by decide, fun _ h => List.mem_cons_of_mem _ (List.mem_append_left _ (List.mem_append_left _ (List.mem_append_left _ (List.mem_append_left _ (List.mem_append_left _ (List.mem_append_left _ (List.mem_append_left _ (List.mem_append_right _ h)))))))), List.mem_of_getElem? (i := 4) rfl, Or.inl rfl⟩
theorem fa_X11_act_114 : FA RX11 wsX11_acte 114 1 0 "NineMowers$Course" := FA_ml fa_X11_act_114_b
theorem ku_X11_act_X4_mowing_304_0_b : KU RX11 wsX11_act (rmz 8) 304 RX0 yX4_mowing wsX4_mowing (rmz 1) 2 := ⟨_, _, _, _, _, _, Or.inl ⟨gX11_act_X4_mowing_u304X0, rfl⟩, rfl, by decide +kernel, by decide⟩
theorem ku_X11_act_X4_mowing_304_0 : KU RX11 wsX11_acte (rmz 8) 304 RX0 yX4_mowing wsX4_mowinge (rmz 1) 2 := KU_mb ku_X11_act_X4_mowing_304_0_b
theorem ku_X11_act_X3_mowing_304_3_b : KU RX11 wsX11_act (rmz 8) 304 RX3 yX3_mowing wsX3_mowing (rmz 2) 2 := ⟨_, _, _, _, _, _, Or.inr ⟨gX11_act_X3_mowing_u304X3, _, _, _, List.mem_of_getElem? (i := 16) rfl⟩, rfl, by decide +kernel, by decide⟩
theorem ku_X11_act_X3_mowing_304_3 : KU RX11 wsX11_acte (rmz 8) 304 RX3 yX3_mowing wsX3_mowinge (rmz 2) 2 := KU_mb ku_X11_act_X3_mowing_304_3_b
theorem kv_X11_act_X4_mowing_304_b : KV RX11 wsX11_act (rmz 8) 304 RX4 yX4_mowing wsX4_mowing (rmz 1) 2 := ⟨_, _, _, _, gX11_act_X4_mowing, rfl, by decide +kernel, by decide⟩
theorem kv_X11_act_X4_mowing_304 : KV RX11 wsX11_acte (rmz 8) 304 RX4 yX4_mowing wsX4_mowinge (rmz 1) 2 := KV_mb kv_X11_act_X4_mowing_304_b
theorem ku_X11_act_X6_mowing_304_6_b : KU RX11 wsX11_act (rmz 8) 304 RX6 yX6_mowing wsX6_mowing (rmz 2) 2 := ⟨_, _, _, _, _, _, Or.inr ⟨gX11_act_X6_mowing_u304X6, _, _, _, List.mem_of_getElem? (i := 16) rfl⟩, rfl, by decide +kernel, by decide⟩
theorem ku_X11_act_X6_mowing_304_6 : KU RX11 wsX11_acte (rmz 8) 304 RX6 yX6_mowing wsX6_mowinge (rmz 2) 2 := KU_mb ku_X11_act_X6_mowing_304_6_b
theorem ku_X11_act_X3_mowing_304_7_b : KU RX11 wsX11_act (rmz 8) 304 RX7 yX3_mowing wsX3_mowing (rmz 2) 2 := ⟨_, _, _, _, _, _, Or.inr ⟨gX11_act_X3_mowing_u304X7, _, _, _, List.mem_of_getElem? (i := 16) rfl⟩, rfl, by decide +kernel, by decide⟩
theorem ku_X11_act_X3_mowing_304_7 : KU RX11 wsX11_acte (rmz 8) 304 RX7 yX3_mowing wsX3_mowinge (rmz 2) 2 := KU_mb ku_X11_act_X3_mowing_304_7_b
theorem ku_X11_act_X4_mowing_304_8_b : KU RX11 wsX11_act (rmz 8) 304 RX8 yX4_mowing wsX4_mowing (rmz 1) 2 := ⟨_, _, _, _, _, _, Or.inl ⟨gX11_act_X4_mowing_u304X8, rfl⟩, rfl, by decide +kernel, by decide⟩
theorem ku_X11_act_X4_mowing_304_8 : KU RX11 wsX11_acte (rmz 8) 304 RX8 yX4_mowing wsX4_mowinge (rmz 1) 2 := KU_mb ku_X11_act_X4_mowing_304_8_b
theorem ku_X11_act_X10_mowing_304_10_b : KU RX11 wsX11_act (rmz 8) 304 RX10 yX10_mowing wsX10_mowing (rmz 2) 2 := ⟨_, _, _, _, _, _, Or.inr ⟨gX11_act_X10_mowing_u304X10, _, _, _, List.mem_of_getElem? (i := 16) rfl⟩, rfl, by decide +kernel, by decide⟩
theorem ku_X11_act_X10_mowing_304_10 : KU RX11 wsX11_acte (rmz 8) 304 RX10 yX10_mowing wsX10_mowinge (rmz 2) 2 := KU_mb ku_X11_act_X10_mowing_304_10_b
theorem ku_X11_act_X4_whetting_308_0_b : KU RX11 wsX11_act (rmz 8) 308 RX0 yX4_whetting wsX4_whetting (rmz 3) 2 := ⟨_, _, _, _, _, _, Or.inl ⟨gX11_act_X4_whetting_u308X0, rfl⟩, rfl, by decide +kernel, by decide⟩
theorem ku_X11_act_X4_whetting_308_0 : KU RX11 wsX11_acte (rmz 8) 308 RX0 yX4_whetting wsX4_whettinge (rmz 3) 2 := KU_mb ku_X11_act_X4_whetting_308_0_b
theorem ku_X11_act_X4_whetting_308_3_b : KU RX11 wsX11_act (rmz 8) 308 RX3 yX4_whetting wsX4_whetting (rmz 3) 2 := ⟨_, _, _, _, _, _, Or.inl ⟨gX11_act_X4_whetting_u308X3, rfl⟩, rfl, by decide +kernel, by decide⟩
theorem ku_X11_act_X4_whetting_308_3 : KU RX11 wsX11_acte (rmz 8) 308 RX3 yX4_whetting wsX4_whettinge (rmz 3) 2 := KU_mb ku_X11_act_X4_whetting_308_3_b
theorem kv_X11_act_X4_whetting_308_b : KV RX11 wsX11_act (rmz 8) 308 RX4 yX4_whetting wsX4_whetting (rmz 3) 2 := ⟨_, _, _, _, gX11_act_X4_whetting, rfl, by decide +kernel, by decide⟩
theorem kv_X11_act_X4_whetting_308 : KV RX11 wsX11_acte (rmz 8) 308 RX4 yX4_whetting wsX4_whettinge (rmz 3) 2 := KV_mb kv_X11_act_X4_whetting_308_b
theorem ku_X11_act_X6_whetting_308_6_b : KU RX11 wsX11_act (rmz 8) 308 RX6 yX6_whetting wsX6_whetting (rmz 5) 2 := ⟨_, _, _, _, _, _, Or.inr ⟨gX11_act_X6_whetting_u308X6, _, _, _, List.mem_of_getElem? (i := 53) rfl⟩, rfl, by decide +kernel, by decide⟩
theorem ku_X11_act_X6_whetting_308_6 : KU RX11 wsX11_acte (rmz 8) 308 RX6 yX6_whetting wsX6_whettinge (rmz 5) 2 := KU_mb ku_X11_act_X6_whetting_308_6_b
theorem ku_X11_act_X4_whetting_308_7_b : KU RX11 wsX11_act (rmz 8) 308 RX7 yX4_whetting wsX4_whetting (rmz 3) 2 := ⟨_, _, _, _, _, _, Or.inl ⟨gX11_act_X4_whetting_u308X7, rfl⟩, rfl, by decide +kernel, by decide⟩
theorem ku_X11_act_X4_whetting_308_7 : KU RX11 wsX11_acte (rmz 8) 308 RX7 yX4_whetting wsX4_whettinge (rmz 3) 2 := KU_mb ku_X11_act_X4_whetting_308_7_b
theorem ku_X11_act_X8_whetting_308_8_b : KU RX11 wsX11_act (rmz 8) 308 RX8 yX8_whetting wsX8_whetting (rmz 4) 2 := ⟨_, _, _, _, _, _, Or.inr ⟨gX11_act_X8_whetting_u308X8, _, _, _, List.mem_of_getElem? (i := 53) rfl⟩, rfl, by decide +kernel, by decide⟩
theorem ku_X11_act_X8_whetting_308_8 : KU RX11 wsX11_acte (rmz 8) 308 RX8 yX8_whetting wsX8_whettinge (rmz 4) 2 := KU_mb ku_X11_act_X8_whetting_308_8_b
theorem ku_X11_act_X10_whetting_308_10_b : KU RX11 wsX11_act (rmz 8) 308 RX10 yX10_whetting wsX10_whetting (rmz 4) 2 := ⟨_, _, _, _, _, _, Or.inr ⟨gX11_act_X10_whetting_u308X10, _, _, _, List.mem_of_getElem? (i := 53) rfl⟩, rfl, by decide +kernel, by decide⟩
theorem ku_X11_act_X10_whetting_308_10 : KU RX11 wsX11_acte (rmz 8) 308 RX10 yX10_whetting wsX10_whettinge (rmz 4) 2 := KU_mb ku_X11_act_X10_whetting_308_10_b
theorem ku_X11_act_X0_telling_311_0_b : KU RX11 wsX11_act (rmz 8) 311 RX0 yX0_telling wsX0_telling (rmz 7) 2 := ⟨_, _, _, _, _, _, Or.inr ⟨gX11_act_X0_telling_u311X0, _, _, _, List.mem_of_getElem? (i := 89) rfl⟩, rfl, by decide +kernel, by decide⟩
theorem ku_X11_act_X0_telling_311_0 : KU RX11 wsX11_acte (rmz 8) 311 RX0 yX0_telling wsX0_tellinge (rmz 7) 2 := KU_mb ku_X11_act_X0_telling_311_0_b
theorem ku_X11_act_X4_telling_311_3_b : KU RX11 wsX11_act (rmz 8) 311 RX3 yX4_telling wsX4_telling (rmz 6) 2 := ⟨_, _, _, _, _, _, Or.inl ⟨gX11_act_X4_telling_u311X3, rfl⟩, rfl, by decide +kernel, by decide⟩
theorem ku_X11_act_X4_telling_311_3 : KU RX11 wsX11_acte (rmz 8) 311 RX3 yX4_telling wsX4_tellinge (rmz 6) 2 := KU_mb ku_X11_act_X4_telling_311_3_b
theorem kv_X11_act_X4_telling_311_b : KV RX11 wsX11_act (rmz 8) 311 RX4 yX4_telling wsX4_telling (rmz 6) 2 := ⟨_, _, _, _, gX11_act_X4_telling, rfl, by decide +kernel, by decide⟩
theorem kv_X11_act_X4_telling_311 : KV RX11 wsX11_acte (rmz 8) 311 RX4 yX4_telling wsX4_tellinge (rmz 6) 2 := KV_mb kv_X11_act_X4_telling_311_b
theorem ku_X11_act_X4_telling_311_6_b : KU RX11 wsX11_act (rmz 8) 311 RX6 yX4_telling wsX4_telling (rmz 6) 2 := ⟨_, _, _, _, _, _, Or.inl ⟨gX11_act_X4_telling_u311X6, rfl⟩, rfl, by decide +kernel, by decide⟩
theorem ku_X11_act_X4_telling_311_6 : KU RX11 wsX11_acte (rmz 8) 311 RX6 yX4_telling wsX4_tellinge (rmz 6) 2 := KU_mb ku_X11_act_X4_telling_311_6_b
theorem ku_X11_act_X7_telling_311_7_b : KU RX11 wsX11_act (rmz 8) 311 RX7 yX7_telling wsX7_telling (rmz 7) 2 := ⟨_, _, _, _, _, _, Or.inr ⟨gX11_act_X7_telling_u311X7, _, _, _, List.mem_of_getElem? (i := 89) rfl⟩, rfl, by decide +kernel, by decide⟩
theorem ku_X11_act_X7_telling_311_7 : KU RX11 wsX11_acte (rmz 8) 311 RX7 yX7_telling wsX7_tellinge (rmz 7) 2 := KU_mb ku_X11_act_X7_telling_311_7_b
theorem ku_X11_act_X4_telling_311_8_b : KU RX11 wsX11_act (rmz 8) 311 RX8 yX4_telling wsX4_telling (rmz 6) 2 := ⟨_, _, _, _, _, _, Or.inl ⟨gX11_act_X4_telling_u311X8, rfl⟩, rfl, by decide +kernel, by decide⟩
theorem ku_X11_act_X4_telling_311_8 : KU RX11 wsX11_acte (rmz 8) 311 RX8 yX4_telling wsX4_tellinge (rmz 6) 2 := KU_mb ku_X11_act_X4_telling_311_8_b
theorem ku_X11_act_X0_telling_311_10_b : KU RX11 wsX11_act (rmz 8) 311 RX10 yX0_telling wsX0_telling (rmz 7) 2 := ⟨_, _, _, _, _, _, Or.inr ⟨gX11_act_X0_telling_u311X10, _, _, _, List.mem_of_getElem? (i := 89) rfl⟩, rfl, by decide +kernel, by decide⟩
theorem ku_X11_act_X0_telling_311_10 : KU RX11 wsX11_acte (rmz 8) 311 RX10 yX0_telling wsX0_tellinge (rmz 7) 2 := KU_mb ku_X11_act_X0_telling_311_10_b
noncomputable def K_X11_act (l : Launch) (V : Vx) (a1 : Int32) (a2 : Int32) (a3 : Int32) (σ : Sg) (Qk : Int32 → Sg → Prop) : Prop := Ka l V yX11_act wsX11_acte (rmz 8) 0 0 [.ref 0, .int a1, .int a2, .int a3] σ (QI V Qk)
theorem e_X11_act {l : Launch} {V : Vx} {a1 : Int32} {a2 : Int32} {a3 : Int32} {σ : Sg} {Qk : Int32 → Sg → Prop} (h : ∀ M : Mx, mL M = l → mV M = V → mN M = 5 → Cx M cX11_act (some .int) RX11 wsX11_acte (rmz 8) 0 0 (QI (mV M) Qk) → PS M 0 [(0, .ref 0), (1, .int a1), (2, .int a2), (3, .int a3)] [] σ (0, 0)) : K_X11_act l V a1 a2 a3 σ Qk :=
  Ka_of (by decide +kernel) rfl rfl (Nat.le_of_ble_eq_true rfl) (fun M h1 h2 h3 C => h M h1 h2 h3 (by rw [h2]; exact C))
set_option maxRecDepth 100000 in
set_option maxHeartbeats 4000000 in
theorem s_X11_act_0 {M : Mx} {Qk : Int32 → Sg → Prop} (C : Cx M cX11_act (some .int) RX11 wsX11_acte (rmz 8) 0 0 (QI (mV M) Qk)) (hN : mN M = 5) {a1 : Int32} {a2 : Int32} {a3 : Int32} {σ : Sg} (h : (∀ σ1 : Sg, σ1 = si σ 64 1 (0 : Int32) → K_X11_isMower (mL M) (mV M) a1 σ1 (fun r3 σ2 => ((¬ r3 = 0 → (vp_in a1 6 ∧ (∃ (μ6 ci6 : Nat), gr σ2 2 a1.toNatClampNeg = some μ6 ∧ isMc ci6 ∧ kd μ6 = (10 + ci6, 0) ∧ μ6 ∈ ids (mV M) ∧ ((a2.toInt < 0 ∨ 2 < a2.toInt → Qk (0 : Int32) σ2) ∧ (a2.toInt = 0 → KD_mowing (mL M) (mV M) ci6 μ6 a3 64 σ2 (fun r9 σ8 => Qk r9 σ8)) ∧ (a2.toInt = 1 → KD_whetting (mL M) (mV M) ci6 μ6 a3 64 σ2 (fun r11 σ10 => Qk r11 σ10)) ∧ (a2.toInt = 2 → KD_telling (mL M) (mV M) ci6 μ6 a3 64 σ2 (fun r13 σ12 => Qk r13 σ12)))))) ∧ (r3 = 0 → Qk (0 : Int32) σ2))))) : PS M 0 [(0, .ref 0), (1, .int a1), (2, .int a2), (3, .int a3)] [] σ (0, 0) := by
  refine P_aload_n C dX11_act_0 0 rfl ?_
  refine P_getS C (e := 64) fa_X11_act_56 kd_0 (d := 64) rfl (fxl fx_0) rfl dX11_act_1 ?_
  refine P_iconst C dX11_act_4 (v := (0 : Int32)) rfl ?_
  refine P_putI C pa_X11_act_256 kd_64 rfl (fxl fx_64) dX11_act_5 ?_
  refine P_nm (fun σ1 eσ1 => ?_)
  have h := h σ1 eσ1
  refine P_aload_n C dX11_act_8 0 rfl ?_
  refine P_iload_n C dX11_act_9 1 rfl ?_
  refine P_ci (R_v (ci := 11) C kv_X11_act_X11_isMower (As := [.int a1]) rfl kd_0 rfl (fxl fx_0) (Nat.le_of_ble_eq_true rfl) dX11_act_10 ⟨Nat.le_refl _, Nat.le_refl _⟩ h) (fun r3 σ2 h => ?_)
  refine P_if_ne C dX11_act_13 (tgt := 18) (by decide) (fun q4 => ?_) (fun q4 => ?_)
  · have h := h.1 q4
    refine P_aload_n C dX11_act_18 0 rfl ?_
    refine P_getS C (e := 1) fa_X11_act_12 kd_0 (d := 1) rfl (fxl fx_0) rfl dX11_act_19 ?_
    refine P_getS C (e := 2) fa_X11_act_114 kd_1 (d := 1) rfl (fxl fx_1) rfl dX11_act_22 ?_
    refine P_iload_n C dX11_act_25 1 rfl ?_
    obtain ⟨hv5, μ6, ci6, hrμ6, sμ6, hμ6, lμ6, h⟩ := h
    refine P_aldD C kd_2 (Or.inl rfl) (fxl fx_2) hv5 hrμ6 dX11_act_26 ?_
    refine P_astore C dX11_act_27 (by rw [hN]; decide) rfl ?_
    refine P_iload_n C dX11_act_29 3 rfl ?_
    refine P_tsw C dX11_act_30 89 (by decide) (fun q7 => ?_) (by decide) (fun i off ho q7 => ?_)
    · have h := h.1 q7
      refine P_iconst C dX11_act_89 (v := (0 : Int32)) rfl ?_
      exact P_iret C dX11_act_90 h
    · rcases i with _ | _ | _ | i
      · obtain rfl : (26 : Int) = off := Option.some.inj ho
        refine ⟨?_, by decide⟩
        show PS M 56 _ _ _ _
        have h := h.2.1 (by have q := q7; simp at q; omega)
        refine P_aload C dX11_act_56 0 rfl ?_
        refine P_iload_n C dX11_act_58 4 rfl ?_
        refine P_aload_n C dX11_act_59 1 rfl ?_
        refine P_getS C (e := 64) fa_X11_act_56 kd_0 (d := 64) rfl (fxl fx_0) rfl dX11_act_60 ?_
        have key : ∀ Qz, KD_mowing (mL M) (mV M) ci6 μ6 a3 64 σ2 Qz → RS M 63 [(4, .ref μ6), (0, .ref 0), (1, .int a1), (2, .int a2), (3, .int a3)] [.ref 64, .int a3, .ref μ6] [] σ2 (0, 0) 0 0 (QI (mV M) Qz (([.ref μ6, .int a3, .ref 64] : List Value).map (cv (mV M))).toArray) := by
          intro Qz h
          rcases sμ6 with rfl | rfl | rfl | rfl | rfl | rfl | rfl
          · exact R_u (ci := 0) C ku_X11_act_X4_mowing_304_0 (As := [.int a3, .ref 64]) rfl hμ6 rfl lμ6 (Nat.le_of_ble_eq_true rfl) dX11_act_63 ⟨Nat.le_refl _, Nat.le_refl _⟩ (h.1 rfl)
          · exact R_u (ci := 3) C ku_X11_act_X3_mowing_304_3 (As := [.int a3, .ref 64]) rfl hμ6 rfl lμ6 (Nat.le_of_ble_eq_true rfl) dX11_act_63 ⟨Nat.le_refl _, Nat.le_refl _⟩ (h.2.1 rfl)
          · exact R_v (ci := 4) C kv_X11_act_X4_mowing_304 (As := [.int a3, .ref 64]) rfl hμ6 rfl lμ6 (Nat.le_of_ble_eq_true rfl) dX11_act_63 ⟨Nat.le_refl _, Nat.le_refl _⟩ (h.2.2.1 rfl)
          · exact R_u (ci := 6) C ku_X11_act_X6_mowing_304_6 (As := [.int a3, .ref 64]) rfl hμ6 rfl lμ6 (Nat.le_of_ble_eq_true rfl) dX11_act_63 ⟨Nat.le_refl _, Nat.le_refl _⟩ (h.2.2.2.1 rfl)
          · exact R_u (ci := 7) C ku_X11_act_X3_mowing_304_7 (As := [.int a3, .ref 64]) rfl hμ6 rfl lμ6 (Nat.le_of_ble_eq_true rfl) dX11_act_63 ⟨Nat.le_refl _, Nat.le_refl _⟩ (h.2.2.2.2.1 rfl)
          · exact R_u (ci := 8) C ku_X11_act_X4_mowing_304_8 (As := [.int a3, .ref 64]) rfl hμ6 rfl lμ6 (Nat.le_of_ble_eq_true rfl) dX11_act_63 ⟨Nat.le_refl _, Nat.le_refl _⟩ (h.2.2.2.2.2.1 rfl)
          · exact R_u (ci := 10) C ku_X11_act_X10_mowing_304_10 (As := [.int a3, .ref 64]) rfl hμ6 rfl lμ6 (Nat.le_of_ble_eq_true rfl) dX11_act_63 ⟨Nat.le_refl _, Nat.le_refl _⟩ (h.2.2.2.2.2.2 rfl)
        refine P_ci (key _ h) (fun r9 σ8 h => ?_)
        exact P_iret C dX11_act_66 h
      · obtain rfl : (37 : Int) = off := Option.some.inj ho
        refine ⟨?_, by decide⟩
        show PS M 67 _ _ _ _
        have h := h.2.2.1 (by have q := q7; simp at q; omega)
        refine P_aload C dX11_act_67 0 rfl ?_
        refine P_iload_n C dX11_act_69 4 rfl ?_
        refine P_aload_n C dX11_act_70 1 rfl ?_
        refine P_getS C (e := 64) fa_X11_act_56 kd_0 (d := 64) rfl (fxl fx_0) rfl dX11_act_71 ?_
        have key : ∀ Qz, KD_whetting (mL M) (mV M) ci6 μ6 a3 64 σ2 Qz → RS M 74 [(4, .ref μ6), (0, .ref 0), (1, .int a1), (2, .int a2), (3, .int a3)] [.ref 64, .int a3, .ref μ6] [] σ2 (0, 0) 0 0 (QI (mV M) Qz (([.ref μ6, .int a3, .ref 64] : List Value).map (cv (mV M))).toArray) := by
          intro Qz h
          rcases sμ6 with rfl | rfl | rfl | rfl | rfl | rfl | rfl
          · exact R_u (ci := 0) C ku_X11_act_X4_whetting_308_0 (As := [.int a3, .ref 64]) rfl hμ6 rfl lμ6 (Nat.le_of_ble_eq_true rfl) dX11_act_74 ⟨Nat.le_refl _, Nat.le_refl _⟩ (h.1 rfl)
          · exact R_u (ci := 3) C ku_X11_act_X4_whetting_308_3 (As := [.int a3, .ref 64]) rfl hμ6 rfl lμ6 (Nat.le_of_ble_eq_true rfl) dX11_act_74 ⟨Nat.le_refl _, Nat.le_refl _⟩ (h.2.1 rfl)
          · exact R_v (ci := 4) C kv_X11_act_X4_whetting_308 (As := [.int a3, .ref 64]) rfl hμ6 rfl lμ6 (Nat.le_of_ble_eq_true rfl) dX11_act_74 ⟨Nat.le_refl _, Nat.le_refl _⟩ (h.2.2.1 rfl)
          · exact R_u (ci := 6) C ku_X11_act_X6_whetting_308_6 (As := [.int a3, .ref 64]) rfl hμ6 rfl lμ6 (Nat.le_of_ble_eq_true rfl) dX11_act_74 ⟨Nat.le_refl _, Nat.le_refl _⟩ (h.2.2.2.1 rfl)
          · exact R_u (ci := 7) C ku_X11_act_X4_whetting_308_7 (As := [.int a3, .ref 64]) rfl hμ6 rfl lμ6 (Nat.le_of_ble_eq_true rfl) dX11_act_74 ⟨Nat.le_refl _, Nat.le_refl _⟩ (h.2.2.2.2.1 rfl)
          · exact R_u (ci := 8) C ku_X11_act_X8_whetting_308_8 (As := [.int a3, .ref 64]) rfl hμ6 rfl lμ6 (Nat.le_of_ble_eq_true rfl) dX11_act_74 ⟨Nat.le_refl _, Nat.le_refl _⟩ (h.2.2.2.2.2.1 rfl)
          · exact R_u (ci := 10) C ku_X11_act_X10_whetting_308_10 (As := [.int a3, .ref 64]) rfl hμ6 rfl lμ6 (Nat.le_of_ble_eq_true rfl) dX11_act_74 ⟨Nat.le_refl _, Nat.le_refl _⟩ (h.2.2.2.2.2.2 rfl)
        refine P_ci (key _ h) (fun r11 σ10 h => ?_)
        exact P_iret C dX11_act_77 h
      · obtain rfl : (48 : Int) = off := Option.some.inj ho
        refine ⟨?_, by decide⟩
        show PS M 78 _ _ _ _
        have h := h.2.2.2 (by have q := q7; simp at q; omega)
        refine P_aload C dX11_act_78 0 rfl ?_
        refine P_iload_n C dX11_act_80 4 rfl ?_
        refine P_aload_n C dX11_act_81 1 rfl ?_
        refine P_getS C (e := 64) fa_X11_act_56 kd_0 (d := 64) rfl (fxl fx_0) rfl dX11_act_82 ?_
        have key : ∀ Qz, KD_telling (mL M) (mV M) ci6 μ6 a3 64 σ2 Qz → RS M 85 [(4, .ref μ6), (0, .ref 0), (1, .int a1), (2, .int a2), (3, .int a3)] [.ref 64, .int a3, .ref μ6] [] σ2 (0, 0) 0 0 (QI (mV M) Qz (([.ref μ6, .int a3, .ref 64] : List Value).map (cv (mV M))).toArray) := by
          intro Qz h
          rcases sμ6 with rfl | rfl | rfl | rfl | rfl | rfl | rfl
          · exact R_u (ci := 0) C ku_X11_act_X0_telling_311_0 (As := [.int a3, .ref 64]) rfl hμ6 rfl lμ6 (Nat.le_of_ble_eq_true rfl) dX11_act_85 ⟨Nat.le_refl _, Nat.le_refl _⟩ (h.1 rfl)
          · exact R_u (ci := 3) C ku_X11_act_X4_telling_311_3 (As := [.int a3, .ref 64]) rfl hμ6 rfl lμ6 (Nat.le_of_ble_eq_true rfl) dX11_act_85 ⟨Nat.le_refl _, Nat.le_refl _⟩ (h.2.1 rfl)
          · exact R_v (ci := 4) C kv_X11_act_X4_telling_311 (As := [.int a3, .ref 64]) rfl hμ6 rfl lμ6 (Nat.le_of_ble_eq_true rfl) dX11_act_85 ⟨Nat.le_refl _, Nat.le_refl _⟩ (h.2.2.1 rfl)
          · exact R_u (ci := 6) C ku_X11_act_X4_telling_311_6 (As := [.int a3, .ref 64]) rfl hμ6 rfl lμ6 (Nat.le_of_ble_eq_true rfl) dX11_act_85 ⟨Nat.le_refl _, Nat.le_refl _⟩ (h.2.2.2.1 rfl)
          · exact R_u (ci := 7) C ku_X11_act_X7_telling_311_7 (As := [.int a3, .ref 64]) rfl hμ6 rfl lμ6 (Nat.le_of_ble_eq_true rfl) dX11_act_85 ⟨Nat.le_refl _, Nat.le_refl _⟩ (h.2.2.2.2.1 rfl)
          · exact R_u (ci := 8) C ku_X11_act_X4_telling_311_8 (As := [.int a3, .ref 64]) rfl hμ6 rfl lμ6 (Nat.le_of_ble_eq_true rfl) dX11_act_85 ⟨Nat.le_refl _, Nat.le_refl _⟩ (h.2.2.2.2.2.1 rfl)
          · exact R_u (ci := 10) C ku_X11_act_X0_telling_311_10 (As := [.int a3, .ref 64]) rfl hμ6 rfl lμ6 (Nat.le_of_ble_eq_true rfl) dX11_act_85 ⟨Nat.le_refl _, Nat.le_refl _⟩ (h.2.2.2.2.2.2 rfl)
        refine P_ci (key _ h) (fun r13 σ12 h => ?_)
        exact P_iret C dX11_act_88 h
      · exact absurd (Array.getElem?_eq_some_iff.mp ho).1 (Nat.not_lt.mpr (by show 3 ≤ _; omega))
  · have h := h.2 q4
    refine P_iconst C dX11_act_16 (v := (0 : Int32)) rfl ?_
    exact P_iret C dX11_act_17 h
