noncomputable def K_J0_coder_7d493 (l : Launch) (V : Vx) (c0 : Nat) (σ : Sg) (Qk : Int32 → Sg → Prop) : Prop := Ka l V yJ0_coder_7d493 wsJ0_coder_7d493 (rmz 0) 0 0 [.ref (200 + c0)] σ (QI V Qk)
theorem e_J0_coder_7d493 {l : Launch} {V : Vx} {c0 : Nat} {σ : Sg} {Qk : Int32 → Sg → Prop} (h : ∀ M : Mx, mL M = l → mV M = V → mN M = 1 → Cx M cJ0_coder_7d493 (some .byte) RJ0 wsJ0_coder_7d493 (rmz 0) 0 0 (QI (mV M) Qk) → PS M 0 [(0, .ref (200 + c0))] [] σ (0, 0)) : K_J0_coder_7d493 l V c0 σ Qk :=
  Ka_of (by decide +kernel) rfl rfl (Nat.le_of_ble_eq_true rfl) (fun M h1 h2 h3 C => h M h1 h2 h3 (by rw [h2]; exact C))
set_option maxRecDepth 100000 in
set_option maxHeartbeats 4000000 in
theorem s_J0_coder_7d493_0 {M : Mx} {Qk : Int32 → Sg → Prop} (C : Cx M cJ0_coder_7d493 (some .byte) RJ0 wsJ0_coder_7d493 (rmz 0) 0 0 (QI (mV M) Qk)) (hN : mN M = 1) {c0 : Nat} (hc0 : c0 < 8) {σ : Sg} (h : (((1 : Int32) = 0 → Qk (1 : Int32) σ) ∧ (¬ (1 : Int32) = 0 → Qk (0 : Int32) σ))) : PS M 0 [(0, .ref (200 + c0))] [] σ (0, 0) := by
  refine P_gstZ C (List.mem_of_getElem? (i := 1) rfl) dJ0_coder_7d493_0 ?_
  refine P_if_eq C dJ0_coder_7d493_3 (tgt := 13) (by decide +kernel) (fun q1 => ?_) (fun q1 => ?_)
  · have h := h.1 q1
    refine P_iconst C dJ0_coder_7d493_13 (v := (1 : Int32)) rfl ?_
    exact P_zret C (by decide +kernel) dJ0_coder_7d493_14 h
  · have h := h.2 q1
    refine P_aload_n C dJ0_coder_7d493_6 0 rfl ?_
    refine P_scod C hc0 (List.mem_of_getElem? (i := 2) rfl) dJ0_coder_7d493_7 ?_
    refine P_goto C dJ0_coder_7d493_10 (tgt := 14) (by decide +kernel) ?_
    exact P_zret C (by decide +kernel) dJ0_coder_7d493_14 h
noncomputable def K_J0_isLatin1_aae02 (l : Launch) (V : Vx) (c0 : Nat) (σ : Sg) (Qk : Int32 → Sg → Prop) : Prop := Ka l V yJ0_isLatin1_aae02 wsJ0_isLatin1_aae02 (rmz 0) 0 0 [.ref (200 + c0)] σ (QI V Qk)
theorem e_J0_isLatin1_aae02 {l : Launch} {V : Vx} {c0 : Nat} {σ : Sg} {Qk : Int32 → Sg → Prop} (h : ∀ M : Mx, mL M = l → mV M = V → mN M = 1 → Cx M cJ0_isLatin1_aae02 (some .boolean) RJ0 wsJ0_isLatin1_aae02 (rmz 0) 0 0 (QI (mV M) Qk) → PS M 0 [(0, .ref (200 + c0))] [] σ (0, 0)) : K_J0_isLatin1_aae02 l V c0 σ Qk :=
  Ka_of (by decide +kernel) rfl rfl (Nat.le_of_ble_eq_true rfl) (fun M h1 h2 h3 C => h M h1 h2 h3 (by rw [h2]; exact C))
set_option maxRecDepth 100000 in
set_option maxHeartbeats 4000000 in
theorem s_J0_isLatin1_aae02_0 {M : Mx} {Qk : Int32 → Sg → Prop} (C : Cx M cJ0_isLatin1_aae02 (some .boolean) RJ0 wsJ0_isLatin1_aae02 (rmz 0) 0 0 (QI (mV M) Qk)) (hN : mN M = 1) {c0 : Nat} (hc0 : c0 < 8) {σ : Sg} (h : (((1 : Int32) = 0 → Qk (0 : Int32) σ) ∧ (¬ (1 : Int32) = 0 → ((¬ (0 : Int32) = 0 → Qk (0 : Int32) σ) ∧ ((0 : Int32) = 0 → Qk (1 : Int32) σ))))) : PS M 0 [(0, .ref (200 + c0))] [] σ (0, 0) := by
  refine P_gstZ C (List.mem_of_getElem? (i := 1) rfl) dJ0_isLatin1_aae02_0 ?_
  refine P_if_eq C dJ0_isLatin1_aae02_3 (tgt := 17) (by decide +kernel) (fun q1 => ?_) (fun q1 => ?_)
  · have h := h.1 q1
    refine P_iconst C dJ0_isLatin1_aae02_17 (v := (0 : Int32)) rfl ?_
    exact P_zret C (by decide +kernel) dJ0_isLatin1_aae02_18 h
  · have h := h.2 q1
    refine P_aload_n C dJ0_isLatin1_aae02_6 0 rfl ?_
    refine P_scod C hc0 (List.mem_of_getElem? (i := 2) rfl) dJ0_isLatin1_aae02_7 ?_
    refine P_if_ne C dJ0_isLatin1_aae02_10 (tgt := 17) (by decide +kernel) (fun q2 => ?_) (fun q2 => ?_)
    · have h := h.1 q2
      refine P_iconst C dJ0_isLatin1_aae02_17 (v := (0 : Int32)) rfl ?_
      exact P_zret C (by decide +kernel) dJ0_isLatin1_aae02_18 h
    · have h := h.2 q2
      refine P_iconst C dJ0_isLatin1_aae02_13 (v := (1 : Int32)) rfl ?_
      refine P_goto C dJ0_isLatin1_aae02_14 (tgt := 18) (by decide +kernel) ?_
      exact P_zret C (by decide +kernel) dJ0_isLatin1_aae02_18 h
theorem kv_J0_length_8abf5_J0_coder_7d493 : KV RJ0 wsJ0_length_8abf5 (rmz 1) 335 RJ0 yJ0_coder_7d493 wsJ0_coder_7d493 (rmz 0) 0 := ⟨_, _, _, _, gJ0_length_8abf5_J0_coder_7d493, rfl, by decide +kernel, by decide +kernel⟩
noncomputable def K_J0_length_8abf5 (l : Launch) (V : Vx) (c0 : Nat) (σ : Sg) (Qk : Int32 → Sg → Prop) : Prop := Ka l V yJ0_length_8abf5 wsJ0_length_8abf5 (rmz 1) 0 0 [.ref (200 + c0)] σ (QI V Qk)
theorem e_J0_length_8abf5 {l : Launch} {V : Vx} {c0 : Nat} {σ : Sg} {Qk : Int32 → Sg → Prop} (h : ∀ M : Mx, mL M = l → mV M = V → mN M = 1 → Cx M cJ0_length_8abf5 (some .int) RJ0 wsJ0_length_8abf5 (rmz 1) 0 0 (QI (mV M) Qk) → PS M 0 [(0, .ref (200 + c0))] [] σ (0, 0)) : K_J0_length_8abf5 l V c0 σ Qk :=
  Ka_of (by decide +kernel) rfl rfl (Nat.le_of_ble_eq_true rfl) (fun M h1 h2 h3 C => h M h1 h2 h3 (by rw [h2]; exact C))
set_option maxRecDepth 100000 in
set_option maxHeartbeats 4000000 in
theorem s_J0_length_8abf5_0 {M : Mx} {Qk : Int32 → Sg → Prop} (C : Cx M cJ0_length_8abf5 (some .int) RJ0 wsJ0_length_8abf5 (rmz 1) 0 0 (QI (mV M) Qk)) (hN : mN M = 1) {c0 : Nat} (hc0 : c0 < 8) {σ : Sg} (h : K_J0_coder_7d493 (mL M) (mV M) c0 σ (fun r2 σ1 => Qk ((nI (slen c0)) >>> (r2 &&& 31)) σ1)) : PS M 0 [(0, .ref (200 + c0))] [] σ (0, 0) := by
  refine P_aload_n C dJ0_length_8abf5_0 0 rfl ?_
  refine P_sval C hc0 (List.mem_of_getElem? (i := 1) rfl) dJ0_length_8abf5_1 ?_
  refine P_slen C hc0 dJ0_length_8abf5_4 ?_
  refine P_aload_n C dJ0_length_8abf5_5 0 rfl ?_
  refine P_ci (R_vs C kv_J0_length_8abf5_J0_coder_7d493 (As := []) rfl hc0 (Nat.le_of_ble_eq_true rfl) dJ0_length_8abf5_6 ⟨Nat.le_refl _, Nat.le_refl _⟩ h) (fun r2 σ1 h => ?_)
  refine P_ishr C dJ0_length_8abf5_9 ?_
  exact P_iret C dJ0_length_8abf5_10 h
theorem kf_J1_charAt_3b067_J0_checkIndex_df160 : KF RJ1 wsJ1_charAt_3b067 (rmz 2) 9 yJ0_checkIndex_df160 wsJ0_checkIndex_df160 (rmz 1) 2 := ⟨_, _, _, _, gJ1_charAt_3b067_J0_checkIndex_df160, rfl, by decide +kernel, by decide +kernel⟩
noncomputable def K_J1_charAt_3b067 (l : Launch) (V : Vx) (a1 : Nat) (a2 : Int32) (σ : Sg) (Qk : Int32 → Sg → Prop) : Prop := Ka l V yJ1_charAt_3b067 wsJ1_charAt_3b067 (rmz 2) 0 0 [.ref (300 + a1), .int a2] σ (QI V Qk)
theorem e_J1_charAt_3b067 {l : Launch} {V : Vx} {a1 : Nat} {a2 : Int32} {σ : Sg} {Qk : Int32 → Sg → Prop} (h : ∀ M : Mx, mL M = l → mV M = V → mN M = 2 → Cx M cJ1_charAt_3b067 (some .char) RJ1 wsJ1_charAt_3b067 (rmz 2) 0 0 (QI (mV M) Qk) → PS M 0 [(0, .ref (300 + a1)), (1, .int a2)] [] σ (0, 0)) : K_J1_charAt_3b067 l V a1 a2 σ Qk :=
  Ka_of (by decide +kernel) rfl rfl (Nat.le_of_ble_eq_true rfl) (fun M h1 h2 h3 C => h M h1 h2 h3 (by rw [h2]; exact C))
set_option maxRecDepth 100000 in
set_option maxHeartbeats 4000000 in
theorem s_J1_charAt_3b067_0 {M : Mx} {Qk : Int32 → Sg → Prop} (C : Cx M cJ1_charAt_3b067 (some .char) RJ1 wsJ1_charAt_3b067 (rmz 2) 0 0 (QI (mV M) Qk)) (hN : mN M = 2) {a1 : Nat} {a2 : Int32} (ha1 : a1 < 8) {σ : Sg} (h : K_J0_checkIndex_df160 (mL M) (mV M) a2 (nI (slen a1)) σ (fun σ1 => (vp_in a2 (slen a1) ∧ (narrow .char (.int ((((sby a1 a2.toNatClampNeg) &&& (255 : Int32)).toUInt32 % 65536).toInt32)) = .int ((((sby a1 a2.toNatClampNeg) &&& (255 : Int32)).toUInt32 % 65536).toInt32) ∧ Qk ((((sby a1 a2.toNatClampNeg) &&& (255 : Int32)).toUInt32 % 65536).toInt32) σ1)))) : PS M 0 [(0, .ref (300 + a1)), (1, .int a2)] [] σ (0, 0) := by
  refine P_iload_n C dJ1_charAt_3b067_0 1 rfl ?_
  refine P_aload_n C dJ1_charAt_3b067_1 0 rfl ?_
  refine P_slen C ha1 dJ1_charAt_3b067_2 ?_
  refine P_cv (R_f C kf_J1_charAt_3b067_J0_checkIndex_df160 (As := [.int a2, .int (nI (slen a1))]) rfl (Nat.le_of_ble_eq_true rfl) dJ1_charAt_3b067_3 ⟨Nat.le_refl _, Nat.le_refl _⟩ h) (fun σ1 h => ?_)
  refine P_aload_n C dJ1_charAt_3b067_6 0 rfl ?_
  refine P_iload_n C dJ1_charAt_3b067_7 1 rfl ?_
  obtain ⟨hv2, h⟩ := h
  refine P_sald C ha1 hv2 dJ1_charAt_3b067_8 ?_
  refine P_sipush C dJ1_charAt_3b067_9 (v := (255 : Int32)) rfl ?_
  refine P_iand C dJ1_charAt_3b067_12 ?_
  refine P_i2c C dJ1_charAt_3b067_13 ?_
  exact P_zret C h.1 dJ1_charAt_3b067_14 h.2
theorem kv_J0_charAt_5068e_J0_isLatin1_aae02 : KV RJ0 wsJ0_charAt_5068e (rmz 3) 492 RJ0 yJ0_isLatin1_aae02 wsJ0_isLatin1_aae02 (rmz 0) 0 := ⟨_, _, _, _, gJ0_charAt_5068e_J0_isLatin1_aae02, rfl, by decide +kernel, by decide +kernel⟩
theorem kf_J0_charAt_5068e_J1_charAt_3b067 : KF RJ0 wsJ0_charAt_5068e (rmz 3) 495 yJ1_charAt_3b067 wsJ1_charAt_3b067 (rmz 2) 2 := ⟨_, _, _, _, gJ0_charAt_5068e_J1_charAt_3b067, rfl, by decide +kernel, by decide +kernel⟩
noncomputable def K_J0_charAt_5068e (l : Launch) (V : Vx) (c0 : Nat) (a1 : Int32) (σ : Sg) (Qk : Int32 → Sg → Prop) : Prop := Ka l V yJ0_charAt_5068e wsJ0_charAt_5068e (rmz 3) 0 0 [.ref (200 + c0), .int a1] σ (QI V Qk)
theorem e_J0_charAt_5068e {l : Launch} {V : Vx} {c0 : Nat} {a1 : Int32} {σ : Sg} {Qk : Int32 → Sg → Prop} (h : ∀ M : Mx, mL M = l → mV M = V → mN M = 2 → Cx M cJ0_charAt_5068e (some .char) RJ0 wsJ0_charAt_5068e (rmz 3) 0 0 (QI (mV M) Qk) → PS M 0 [(0, .ref (200 + c0)), (1, .int a1)] [] σ (0, 0)) : K_J0_charAt_5068e l V c0 a1 σ Qk :=
  Ka_of (by decide +kernel) rfl rfl (Nat.le_of_ble_eq_true rfl) (fun M h1 h2 h3 C => h M h1 h2 h3 (by rw [h2]; exact C))
set_option maxRecDepth 100000 in
set_option maxHeartbeats 4000000 in
theorem s_J0_charAt_5068e_0 {M : Mx} {Qk : Int32 → Sg → Prop} (C : Cx M cJ0_charAt_5068e (some .char) RJ0 wsJ0_charAt_5068e (rmz 3) 0 0 (QI (mV M) Qk)) (hN : mN M = 2) {c0 : Nat} {a1 : Int32} (hc0 : c0 < 8) {σ : Sg} (h : K_J0_isLatin1_aae02 (mL M) (mV M) c0 σ (fun r2 σ1 => ((r2 = 0 → False) ∧ (¬ r2 = 0 → K_J1_charAt_3b067 (mL M) (mV M) c0 a1 σ1 (fun r5 σ4 => (narrow .char (.int r5) = .int r5 ∧ Qk r5 σ4)))))) : PS M 0 [(0, .ref (200 + c0)), (1, .int a1)] [] σ (0, 0) := by
  refine P_aload_n C dJ0_charAt_5068e_0 0 rfl ?_
  refine P_ci (R_vs C kv_J0_charAt_5068e_J0_isLatin1_aae02 (As := []) rfl hc0 (Nat.le_of_ble_eq_true rfl) dJ0_charAt_5068e_1 ⟨Nat.le_refl _, Nat.le_refl _⟩ h) (fun r2 σ1 h => ?_)
  refine P_if_eq C dJ0_charAt_5068e_4 (tgt := 16) (by decide +kernel) (fun q3 => ?_) (fun q3 => ?_)
  · have h := h.1 q3
    refine P_aload_n C dJ0_charAt_5068e_16 0 rfl ?_
    refine P_sval C hc0 (List.mem_of_getElem? (i := 1) rfl) dJ0_charAt_5068e_17 ?_
    refine P_iload_n C dJ0_charAt_5068e_20 1 rfl ?_
    exact h.elim
  · have h := h.2 q3
    refine P_aload_n C dJ0_charAt_5068e_7 0 rfl ?_
    refine P_sval C hc0 (List.mem_of_getElem? (i := 1) rfl) dJ0_charAt_5068e_8 ?_
    refine P_iload_n C dJ0_charAt_5068e_11 1 rfl ?_
    refine P_ci (R_f C kf_J0_charAt_5068e_J1_charAt_3b067 (As := [.ref (300 + c0), .int a1]) rfl (Nat.le_of_ble_eq_true rfl) dJ0_charAt_5068e_12 ⟨Nat.le_refl _, Nat.le_refl _⟩ h) (fun r5 σ4 h => ?_)
    exact P_zret C h.1 dJ0_charAt_5068e_15 h.2
noncomputable def K_J1_canEncode_9a6ad (l : Launch) (V : Vx) (a1 : Int32) (σ : Sg) (Qk : Int32 → Sg → Prop) : Prop := Ka l V yJ1_canEncode_9a6ad wsJ1_canEncode_9a6ad (rmz 0) 0 0 [.int a1] σ (QI V Qk)
theorem e_J1_canEncode_9a6ad {l : Launch} {V : Vx} {a1 : Int32} {σ : Sg} {Qk : Int32 → Sg → Prop} (h : ∀ M : Mx, mL M = l → mV M = V → mN M = 1 → Cx M cJ1_canEncode_9a6ad (some .boolean) RJ1 wsJ1_canEncode_9a6ad (rmz 0) 0 0 (QI (mV M) Qk) → PS M 0 [(0, .int a1)] [] σ (0, 0)) : K_J1_canEncode_9a6ad l V a1 σ Qk :=
  Ka_of (by decide +kernel) rfl rfl (Nat.le_of_ble_eq_true rfl) (fun M h1 h2 h3 C => h M h1 h2 h3 (by rw [h2]; exact C))
set_option maxRecDepth 100000 in
set_option maxHeartbeats 4000000 in
theorem s_J1_canEncode_9a6ad_0 {M : Mx} {Qk : Int32 → Sg → Prop} (C : Cx M cJ1_canEncode_9a6ad (some .boolean) RJ1 wsJ1_canEncode_9a6ad (rmz 0) 0 0 (QI (mV M) Qk)) (hN : mN M = 1) {a1 : Int32} {σ : Sg} (h : ((a1 < 0 → Qk (0 : Int32) σ) ∧ (¬ a1 < 0 → (((255 : Int32) < a1 → Qk (0 : Int32) σ) ∧ (¬ (255 : Int32) < a1 → Qk (1 : Int32) σ))))) : PS M 0 [(0, .int a1)] [] σ (0, 0) := by
  refine P_iload_n C dJ1_canEncode_9a6ad_0 0 rfl ?_
  refine P_if_lt C dJ1_canEncode_9a6ad_1 (tgt := 15) (by decide +kernel) (fun q1 => ?_) (fun q1 => ?_)
  · have h := h.1 q1
    refine P_iconst C dJ1_canEncode_9a6ad_15 (v := (0 : Int32)) rfl ?_
    exact P_zret C (by decide +kernel) dJ1_canEncode_9a6ad_16 h
  · have h := h.2 q1
    refine P_iload_n C dJ1_canEncode_9a6ad_4 0 rfl ?_
    refine P_sipush C dJ1_canEncode_9a6ad_5 (v := (255 : Int32)) rfl ?_
    refine P_icmp_gt C dJ1_canEncode_9a6ad_8 (tgt := 15) (by decide +kernel) (fun q2 => ?_) (fun q2 => ?_)
    · have h := h.1 q2
      refine P_iconst C dJ1_canEncode_9a6ad_15 (v := (0 : Int32)) rfl ?_
      exact P_zret C (by decide +kernel) dJ1_canEncode_9a6ad_16 h
    · have h := h.2 q2
      refine P_iconst C dJ1_canEncode_9a6ad_11 (v := (1 : Int32)) rfl ?_
      refine P_goto C dJ1_canEncode_9a6ad_12 (tgt := 16) (by decide +kernel) ?_
      exact P_zret C (by decide +kernel) dJ1_canEncode_9a6ad_16 h
noncomputable def K_J1_indexOfChar_4cfef (l : Launch) (V : Vx) (a1 : Nat) (a2 : Int32) (a3 : Int32) (a4 : Int32) (σ : Sg) (Qk : Int32 → Sg → Prop) : Prop := Ka l V yJ1_indexOfChar_4cfef wsJ1_indexOfChar_4cfef (rmz 0) 0 0 [.ref (300 + a1), .int a2, .int a3, .int a4] σ (QI V Qk)
theorem e_J1_indexOfChar_4cfef {l : Launch} {V : Vx} {a1 : Nat} {a2 : Int32} {a3 : Int32} {a4 : Int32} {σ : Sg} {Qk : Int32 → Sg → Prop} (h : ∀ M : Mx, mL M = l → mV M = V → mN M = 6 → Cx M cJ1_indexOfChar_4cfef (some .int) RJ1 wsJ1_indexOfChar_4cfef (rmz 0) 0 0 (QI (mV M) Qk) → PS M 0 [(0, .ref (300 + a1)), (1, .int a2), (2, .int a3), (3, .int a4)] [] σ (0, 0)) : K_J1_indexOfChar_4cfef l V a1 a2 a3 a4 σ Qk :=
  Ka_of (by decide +kernel) rfl rfl (Nat.le_of_ble_eq_true rfl) (fun M h1 h2 h3 C => h M h1 h2 h3 (by rw [h2]; exact C))
set_option maxRecDepth 100000 in
set_option maxHeartbeats 4000000 in
theorem s_J1_indexOfChar_4cfef_0 {M : Mx} {Qk : Int32 → Sg → Prop} (C : Cx M cJ1_indexOfChar_4cfef (some .int) RJ1 wsJ1_indexOfChar_4cfef (rmz 0) 0 0 (QI (mV M) Qk)) (hN : mN M = 6) {a1 : Nat} {a2 : Int32} {a3 : Int32} {a4 : Int32} (ha1 : a1 < 8) {σ : Sg} (h : PS M 7 [(0, .ref (300 + a1)), (3, .int a4), (4, .int a2.toInt8.toInt32), (5, .int a3)] [] σ (0, 0)) : PS M 0 [(0, .ref (300 + a1)), (1, .int a2), (2, .int a3), (3, .int a4)] [] σ (0, 0) := by
  refine P_iload_n C dJ1_indexOfChar_4cfef_0 1 rfl ?_
  refine P_i2b C dJ1_indexOfChar_4cfef_1 ?_
  refine P_istore C dJ1_indexOfChar_4cfef_2 (by rw [hN]; decide) rfl ?_
  refine P_iload_n C dJ1_indexOfChar_4cfef_4 3 rfl ?_
  refine P_istore C dJ1_indexOfChar_4cfef_5 (by rw [hN]; decide) rfl ?_
  exact P_sub [2, 5, 1, 0] rfl h
set_option maxRecDepth 100000 in
set_option maxHeartbeats 4000000 in
theorem s_J1_indexOfChar_4cfef_7 {M : Mx} {Qk : Int32 → Sg → Prop} (C : Cx M cJ1_indexOfChar_4cfef (some .int) RJ1 wsJ1_indexOfChar_4cfef (rmz 0) 0 0 (QI (mV M) Qk)) (hN : mN M = 6) {x0 : Nat} {x3 : Int32} {x4 : Int32} {x5 : Int32} (hx0 : x0 < 8) {σ : Sg} (h : ((x3 ≤ x5 → Qk (-1 : Int32) σ) ∧ (¬ x3 ≤ x5 → (vp_in x5 (slen x0) ∧ ((¬ (sby x0 x5.toNatClampNeg) = x4 → (∀ v4 : Int32, v4 = x5 + 1 → PS M 7 [(0, .ref (300 + x0)), (3, .int x3), (4, .int x4), (5, .int v4)] [] σ (0, 0))) ∧ ((sby x0 x5.toNatClampNeg) = x4 → Qk x5 σ)))))) : PS M 7 [(0, .ref (300 + x0)), (3, .int x3), (4, .int x4), (5, .int x5)] [] σ (0, 0) := by
  refine P_iload C dJ1_indexOfChar_4cfef_7 3 rfl ?_
  refine P_iload_n C dJ1_indexOfChar_4cfef_9 1 rfl ?_
  refine P_icmp_ge C dJ1_indexOfChar_4cfef_10 (tgt := 31) (by decide +kernel) (fun q1 => ?_) (fun q1 => ?_)
  · have h := h.1 q1
    refine P_iconst C dJ1_indexOfChar_4cfef_31 (v := (-1 : Int32)) rfl ?_
    exact P_iret C dJ1_indexOfChar_4cfef_32 h
  · have h := h.2 q1
    refine P_aload_n C dJ1_indexOfChar_4cfef_13 0 rfl ?_
    refine P_iload C dJ1_indexOfChar_4cfef_14 3 rfl ?_
    obtain ⟨hv2, h⟩ := h
    refine P_sald C hx0 hv2 dJ1_indexOfChar_4cfef_16 ?_
    refine P_iload C dJ1_indexOfChar_4cfef_17 2 rfl ?_
    refine P_icmp_ne C dJ1_indexOfChar_4cfef_19 (tgt := 25) (by decide +kernel) (fun q3 => ?_) (fun q3 => ?_)
    · have h := h.1 q3
      obtain ⟨v4, ev4⟩ : ∃ v : Int32, v = x5 + 1 := ⟨_, rfl⟩
      have h := h v4 ev4
      refine P_iinc (v := v4) C dJ1_indexOfChar_4cfef_25 3 rfl (by rw [ev4]; rfl) (by rw [hN]; decide) rfl ?_
      refine P_goto C dJ1_indexOfChar_4cfef_28 (tgt := 7) (by decide +kernel) ?_
      exact P_sub [1, 2, 3, 0] rfl h
    · have h := h.2 q3
      refine P_iload C dJ1_indexOfChar_4cfef_22 3 rfl ?_
      exact P_iret C dJ1_indexOfChar_4cfef_24 h
theorem kf_J1_indexOf_4cfef_J1_canEncode_9a6ad : KF RJ1 wsJ1_indexOf_4cfef (rmz 1) 88 yJ1_canEncode_9a6ad wsJ1_canEncode_9a6ad (rmz 0) 1 := ⟨_, _, _, _, gJ1_indexOf_4cfef_J1_canEncode_9a6ad, rfl, by decide +kernel, by decide +kernel⟩
theorem km_J1_indexOf_4cfef_max : KM RJ1 wsJ1_indexOf_4cfef 92 Lib.Math.max.name Lib.Math.max.code := ⟨List.mem_of_getElem? (i := 1) rfl, List.mem_of_getElem? (i := 2) rfl, List.mem_of_getElem? (i := 3) rfl, List.mem_of_getElem? (i := 4) rfl⟩
theorem km_J1_indexOf_4cfef_min : KM RJ1 wsJ1_indexOf_4cfef 38 Lib.Math.min.name Lib.Math.min.code := ⟨List.mem_of_getElem? (i := 5) rfl, List.mem_of_getElem? (i := 6) rfl, List.mem_of_getElem? (i := 3) rfl, List.mem_of_getElem? (i := 7) rfl⟩
theorem kf_J1_indexOf_4cfef_J1_indexOfChar_4cfef : KF RJ1 wsJ1_indexOf_4cfef (rmz 1) 95 yJ1_indexOfChar_4cfef wsJ1_indexOfChar_4cfef (rmz 0) 4 := ⟨_, _, _, _, gJ1_indexOf_4cfef_J1_indexOfChar_4cfef, rfl, by decide +kernel, by decide +kernel⟩
noncomputable def K_J1_indexOf_4cfef (l : Launch) (V : Vx) (a1 : Nat) (a2 : Int32) (a3 : Int32) (a4 : Int32) (σ : Sg) (Qk : Int32 → Sg → Prop) : Prop := Ka l V yJ1_indexOf_4cfef wsJ1_indexOf_4cfef (rmz 1) 0 0 [.ref (300 + a1), .int a2, .int a3, .int a4] σ (QI V Qk)
theorem e_J1_indexOf_4cfef {l : Launch} {V : Vx} {a1 : Nat} {a2 : Int32} {a3 : Int32} {a4 : Int32} {σ : Sg} {Qk : Int32 → Sg → Prop} (h : ∀ M : Mx, mL M = l → mV M = V → mN M = 4 → Cx M cJ1_indexOf_4cfef (some .int) RJ1 wsJ1_indexOf_4cfef (rmz 1) 0 0 (QI (mV M) Qk) → PS M 0 [(0, .ref (300 + a1)), (1, .int a2), (2, .int a3), (3, .int a4)] [] σ (0, 0)) : K_J1_indexOf_4cfef l V a1 a2 a3 a4 σ Qk :=
  Ka_of (by decide +kernel) rfl rfl (Nat.le_of_ble_eq_true rfl) (fun M h1 h2 h3 C => h M h1 h2 h3 (by rw [h2]; exact C))
set_option maxRecDepth 100000 in
set_option maxHeartbeats 4000000 in
theorem s_J1_indexOf_4cfef_0 {M : Mx} {Qk : Int32 → Sg → Prop} (C : Cx M cJ1_indexOf_4cfef (some .int) RJ1 wsJ1_indexOf_4cfef (rmz 1) 0 0 (QI (mV M) Qk)) (hN : mN M = 4) {a1 : Nat} {a2 : Int32} {a3 : Int32} {a4 : Int32} (ha1 : a1 < 8) {σ : Sg} (h : K_J1_canEncode_9a6ad (mL M) (mV M) a2 σ (fun r2 σ1 => ((¬ r2 = 0 → (∀ v4 : Int32, v4 = jmax a3 (0 : Int32) → (∀ v5 : Int32, v5 = jmin a4 (nI (slen a1)) → ((v4 < v5 → K_J1_indexOfChar_4cfef (mL M) (mV M) a1 a2 v4 v5 σ1 (fun r8 σ7 => Qk r8 σ7)) ∧ (¬ v4 < v5 → Qk (-1 : Int32) σ1))))) ∧ (r2 = 0 → Qk (-1 : Int32) σ1)))) : PS M 0 [(0, .ref (300 + a1)), (1, .int a2), (2, .int a3), (3, .int a4)] [] σ (0, 0) := by
  refine P_iload_n C dJ1_indexOf_4cfef_0 1 rfl ?_
  refine P_ci (R_f C kf_J1_indexOf_4cfef_J1_canEncode_9a6ad (As := [.int a2]) rfl (Nat.le_of_ble_eq_true rfl) dJ1_indexOf_4cfef_1 ⟨Nat.le_refl _, Nat.le_refl _⟩ h) (fun r2 σ1 h => ?_)
  refine P_if_ne C dJ1_indexOf_4cfef_4 (tgt := 9) (by decide +kernel) (fun q3 => ?_) (fun q3 => ?_)
  · have h := h.1 q3
    refine P_iload_n C dJ1_indexOf_4cfef_9 2 rfl ?_
    refine P_iconst C dJ1_indexOf_4cfef_10 (v := (0 : Int32)) rfl ?_
    refine P_max C km_J1_indexOf_4cfef_max (by decide +kernel) (Nat.le_of_ble_eq_true rfl) ⟨Nat.le_refl _, Nat.le_refl _⟩ dJ1_indexOf_4cfef_11 ?_
    refine P_nmi (fun v4 ev4 => ?_)
    have h := h v4 ev4
    refine P_istore_n C dJ1_indexOf_4cfef_14 (by rw [hN]; decide) rfl ?_
    refine P_iload_n C dJ1_indexOf_4cfef_15 3 rfl ?_
    refine P_aload_n C dJ1_indexOf_4cfef_16 1 rfl ?_
    refine P_slen C ha1 dJ1_indexOf_4cfef_17 ?_
    refine P_min C km_J1_indexOf_4cfef_min (by decide +kernel) (Nat.le_of_ble_eq_true rfl) ⟨Nat.le_refl _, Nat.le_refl _⟩ dJ1_indexOf_4cfef_18 ?_
    refine P_nmi (fun v5 ev5 => ?_)
    have h := h v5 ev5
    refine P_istore_n C dJ1_indexOf_4cfef_21 (by rw [hN]; decide) rfl ?_
    refine P_iload_n C dJ1_indexOf_4cfef_22 1 rfl ?_
    refine P_iload_n C dJ1_indexOf_4cfef_23 0 rfl ?_
    refine P_icmp_lt C dJ1_indexOf_4cfef_24 (tgt := 29) (by decide +kernel) (fun q6 => ?_) (fun q6 => ?_)
    · have h := h.1 q6
      refine P_aload_n C dJ1_indexOf_4cfef_29 2 rfl ?_
      refine P_iload_n C dJ1_indexOf_4cfef_30 3 rfl ?_
      refine P_iload_n C dJ1_indexOf_4cfef_31 1 rfl ?_
      refine P_iload_n C dJ1_indexOf_4cfef_32 0 rfl ?_
      refine P_ci (R_f C kf_J1_indexOf_4cfef_J1_indexOfChar_4cfef (As := [.ref (300 + a1), .int a2, .int v4, .int v5]) rfl (Nat.le_of_ble_eq_true rfl) dJ1_indexOf_4cfef_33 ⟨Nat.le_refl _, Nat.le_refl _⟩ h) (fun r8 σ7 h => ?_)
      exact P_iret C dJ1_indexOf_4cfef_36 h
    · have h := h.2 q6
      refine P_iconst C dJ1_indexOf_4cfef_27 (v := (-1 : Int32)) rfl ?_
      exact P_iret C dJ1_indexOf_4cfef_28 h
  · have h := h.2 q3
    refine P_iconst C dJ1_indexOf_4cfef_7 (v := (-1 : Int32)) rfl ?_
    exact P_iret C dJ1_indexOf_4cfef_8 h
theorem kv_J0_indexOf_7cf53_J0_isLatin1_aae02 : KV RJ0 wsJ0_indexOf_7cf53 (rmz 2) 492 RJ0 yJ0_isLatin1_aae02 wsJ0_isLatin1_aae02 (rmz 0) 0 := ⟨_, _, _, _, gJ0_indexOf_7cf53_J0_isLatin1_aae02, rfl, by decide +kernel, by decide +kernel⟩
theorem kv_J0_indexOf_7cf53_J0_length_8abf5 : KV RJ0 wsJ0_indexOf_7cf53 (rmz 2) 505 RJ0 yJ0_length_8abf5 wsJ0_length_8abf5 (rmz 1) 0 := ⟨_, _, _, _, gJ0_indexOf_7cf53_J0_length_8abf5, rfl, by decide +kernel, by decide +kernel⟩
theorem kf_J0_indexOf_7cf53_J1_indexOf_4cfef : KF RJ0 wsJ0_indexOf_7cf53 (rmz 2) 637 yJ1_indexOf_4cfef wsJ1_indexOf_4cfef (rmz 1) 4 := ⟨_, _, _, _, gJ0_indexOf_7cf53_J1_indexOf_4cfef, rfl, by decide +kernel, by decide +kernel⟩
noncomputable def K_J0_indexOf_7cf53 (l : Launch) (V : Vx) (c0 : Nat) (a1 : Int32) (a2 : Int32) (σ : Sg) (Qk : Int32 → Sg → Prop) : Prop := Ka l V yJ0_indexOf_7cf53 wsJ0_indexOf_7cf53 (rmz 2) 0 0 [.ref (200 + c0), .int a1, .int a2] σ (QI V Qk)
theorem e_J0_indexOf_7cf53 {l : Launch} {V : Vx} {c0 : Nat} {a1 : Int32} {a2 : Int32} {σ : Sg} {Qk : Int32 → Sg → Prop} (h : ∀ M : Mx, mL M = l → mV M = V → mN M = 3 → Cx M cJ0_indexOf_7cf53 (some .int) RJ0 wsJ0_indexOf_7cf53 (rmz 2) 0 0 (QI (mV M) Qk) → PS M 0 [(0, .ref (200 + c0)), (1, .int a1), (2, .int a2)] [] σ (0, 0)) : K_J0_indexOf_7cf53 l V c0 a1 a2 σ Qk :=
  Ka_of (by decide +kernel) rfl rfl (Nat.le_of_ble_eq_true rfl) (fun M h1 h2 h3 C => h M h1 h2 h3 (by rw [h2]; exact C))
set_option maxRecDepth 100000 in
set_option maxHeartbeats 4000000 in
theorem s_J0_indexOf_7cf53_0 {M : Mx} {Qk : Int32 → Sg → Prop} (C : Cx M cJ0_indexOf_7cf53 (some .int) RJ0 wsJ0_indexOf_7cf53 (rmz 2) 0 0 (QI (mV M) Qk)) (hN : mN M = 3) {c0 : Nat} {a1 : Int32} {a2 : Int32} (hc0 : c0 < 8) {σ : Sg} (h : K_J0_isLatin1_aae02 (mL M) (mV M) c0 σ (fun r2 σ1 => ((r2 = 0 → K_J0_length_8abf5 (mL M) (mV M) c0 σ1 (fun r5 σ4 => False)) ∧ (¬ r2 = 0 → K_J0_length_8abf5 (mL M) (mV M) c0 σ1 (fun r7 σ6 => K_J1_indexOf_4cfef (mL M) (mV M) c0 a1 a2 r7 σ6 (fun r9 σ8 => Qk r9 σ8)))))) : PS M 0 [(0, .ref (200 + c0)), (1, .int a1), (2, .int a2)] [] σ (0, 0) := by
  refine P_aload_n C dJ0_indexOf_7cf53_0 0 rfl ?_
  refine P_ci (R_vs C kv_J0_indexOf_7cf53_J0_isLatin1_aae02 (As := []) rfl hc0 (Nat.le_of_ble_eq_true rfl) dJ0_indexOf_7cf53_1 ⟨Nat.le_refl _, Nat.le_refl _⟩ h) (fun r2 σ1 h => ?_)
  refine P_if_eq C dJ0_indexOf_7cf53_4 (tgt := 23) (by decide +kernel) (fun q3 => ?_) (fun q3 => ?_)
  · have h := h.1 q3
    refine P_aload_n C dJ0_indexOf_7cf53_23 0 rfl ?_
    refine P_sval C hc0 (List.mem_of_getElem? (i := 1) rfl) dJ0_indexOf_7cf53_24 ?_
    refine P_iload_n C dJ0_indexOf_7cf53_27 1 rfl ?_
    refine P_iload_n C dJ0_indexOf_7cf53_28 2 rfl ?_
    refine P_aload_n C dJ0_indexOf_7cf53_29 0 rfl ?_
    refine P_ci (R_vs C kv_J0_indexOf_7cf53_J0_length_8abf5 (As := []) rfl hc0 (Nat.le_of_ble_eq_true rfl) dJ0_indexOf_7cf53_30 ⟨Nat.le_refl _, Nat.le_refl _⟩ h) (fun r5 σ4 h => ?_)
    exact h.elim
  · have h := h.2 q3
    refine P_aload_n C dJ0_indexOf_7cf53_7 0 rfl ?_
    refine P_sval C hc0 (List.mem_of_getElem? (i := 1) rfl) dJ0_indexOf_7cf53_8 ?_
    refine P_iload_n C dJ0_indexOf_7cf53_11 1 rfl ?_
    refine P_iload_n C dJ0_indexOf_7cf53_12 2 rfl ?_
    refine P_aload_n C dJ0_indexOf_7cf53_13 0 rfl ?_
    refine P_ci (R_vs C kv_J0_indexOf_7cf53_J0_length_8abf5 (As := []) rfl hc0 (Nat.le_of_ble_eq_true rfl) dJ0_indexOf_7cf53_14 ⟨Nat.le_refl _, Nat.le_refl _⟩ h) (fun r7 σ6 h => ?_)
    refine P_ci (R_f C kf_J0_indexOf_7cf53_J1_indexOf_4cfef (As := [.ref (300 + c0), .int a1, .int a2, .int r7]) rfl (Nat.le_of_ble_eq_true rfl) dJ0_indexOf_7cf53_17 ⟨Nat.le_refl _, Nat.le_refl _⟩ h) (fun r9 σ8 h => ?_)
    refine P_goto C dJ0_indexOf_7cf53_20 (tgt := 36) (by decide +kernel) ?_
    exact P_iret C dJ0_indexOf_7cf53_36 h
theorem kv_J0_indexOf_0f7a4_J0_indexOf_7cf53 : KV RJ0 wsJ0_indexOf_0f7a4 (rmz 3) 633 RJ0 yJ0_indexOf_7cf53 wsJ0_indexOf_7cf53 (rmz 2) 2 := ⟨_, _, _, _, gJ0_indexOf_0f7a4_J0_indexOf_7cf53, rfl, by decide +kernel, by decide +kernel⟩
noncomputable def K_J0_indexOf_0f7a4 (l : Launch) (V : Vx) (c0 : Nat) (a1 : Int32) (σ : Sg) (Qk : Int32 → Sg → Prop) : Prop := Ka l V yJ0_indexOf_0f7a4 wsJ0_indexOf_0f7a4 (rmz 3) 0 0 [.ref (200 + c0), .int a1] σ (QI V Qk)
theorem e_J0_indexOf_0f7a4 {l : Launch} {V : Vx} {c0 : Nat} {a1 : Int32} {σ : Sg} {Qk : Int32 → Sg → Prop} (h : ∀ M : Mx, mL M = l → mV M = V → mN M = 2 → Cx M cJ0_indexOf_0f7a4 (some .int) RJ0 wsJ0_indexOf_0f7a4 (rmz 3) 0 0 (QI (mV M) Qk) → PS M 0 [(0, .ref (200 + c0)), (1, .int a1)] [] σ (0, 0)) : K_J0_indexOf_0f7a4 l V c0 a1 σ Qk :=
  Ka_of (by decide +kernel) rfl rfl (Nat.le_of_ble_eq_true rfl) (fun M h1 h2 h3 C => h M h1 h2 h3 (by rw [h2]; exact C))
set_option maxRecDepth 100000 in
set_option maxHeartbeats 4000000 in
theorem s_J0_indexOf_0f7a4_0 {M : Mx} {Qk : Int32 → Sg → Prop} (C : Cx M cJ0_indexOf_0f7a4 (some .int) RJ0 wsJ0_indexOf_0f7a4 (rmz 3) 0 0 (QI (mV M) Qk)) (hN : mN M = 2) {c0 : Nat} {a1 : Int32} (hc0 : c0 < 8) {σ : Sg} (h : K_J0_indexOf_7cf53 (mL M) (mV M) c0 a1 (0 : Int32) σ (fun r2 σ1 => Qk r2 σ1)) : PS M 0 [(0, .ref (200 + c0)), (1, .int a1)] [] σ (0, 0) := by
  refine P_aload_n C dJ0_indexOf_0f7a4_0 0 rfl ?_
  refine P_iload_n C dJ0_indexOf_0f7a4_1 1 rfl ?_
  refine P_iconst C dJ0_indexOf_0f7a4_2 (v := (0 : Int32)) rfl ?_
  refine P_ci (R_vs C kv_J0_indexOf_0f7a4_J0_indexOf_7cf53 (As := [.int a1, .int (0 : Int32)]) rfl hc0 (Nat.le_of_ble_eq_true rfl) dJ0_indexOf_0f7a4_3 ⟨Nat.le_refl _, Nat.le_refl _⟩ h) (fun r2 σ1 h => ?_)
  exact P_iret C dJ0_indexOf_0f7a4_6 h
noncomputable def K_J7_fill_d0a16 (l : Launch) (V : Vx) (a1 : Nat) (a2 : Int64) (σ : Sg) (Qk : Sg → Prop) : Prop := Ka l V yJ7_fill_d0a16 wsJ7_fill_d0a16 (rmz 0) 0 0 [.ref a1, .long a2] σ (QV V Qk)
theorem e_J7_fill_d0a16 {l : Launch} {V : Vx} {a1 : Nat} {a2 : Int64} {σ : Sg} {Qk : Sg → Prop} (h : ∀ M : Mx, mL M = l → mV M = V → mN M = 5 → Cx M cJ7_fill_d0a16 none RJ7 wsJ7_fill_d0a16 (rmz 0) 0 0 (QV (mV M) Qk) → PS M 0 [(0, .ref a1), (1, .long a2)] [] σ (0, 0)) : K_J7_fill_d0a16 l V a1 a2 σ Qk :=
  Ka_of (by decide +kernel) rfl rfl (Nat.le_of_ble_eq_true rfl) (fun M h1 h2 h3 C => h M h1 h2 h3 (by rw [h2]; exact C))
set_option maxRecDepth 100000 in
set_option maxHeartbeats 4000000 in
theorem s_J7_fill_d0a16_0 {M : Mx} {Qk : Sg → Prop} (C : Cx M cJ7_fill_d0a16 none RJ7 wsJ7_fill_d0a16 (rmz 0) 0 0 (QV (mV M) Qk)) (hN : mN M = 5) {a1 : Nat} {a2 : Int64} {na1 : Nat} (ha1 : kd a1 = (3, na1)) (la1 : a1 ∈ ids (mV M)) {σ : Sg} (h : (∀ v1 : Int32, v1 = Int32.ofNat na1 → PS M 6 [(0, .ref a1), (1, .long a2), (3, .int (0 : Int32)), (4, .int v1)] [] σ (0, 0))) : PS M 0 [(0, .ref a1), (1, .long a2)] [] σ (0, 0) := by
  refine P_iconst C dJ7_fill_d0a16_0 (v := (0 : Int32)) rfl ?_
  refine P_istore_n C dJ7_fill_d0a16_1 (by rw [hN]; decide) rfl ?_
  refine P_aload_n C dJ7_fill_d0a16_2 1 rfl ?_
  refine P_alen C ha1 (by decide +kernel) la1 (v := Int32.ofNat na1) rfl dJ7_fill_d0a16_3 ?_
  refine P_nmi (fun v1 ev1 => ?_)
  have h := h v1 ev1
  refine P_istore C dJ7_fill_d0a16_4 (by rw [hN]; decide) rfl ?_
  exact P_sub [2, 3, 1, 0] rfl h
set_option maxRecDepth 100000 in
set_option maxHeartbeats 4000000 in
theorem s_J7_fill_d0a16_6 {M : Mx} {Qk : Sg → Prop} (C : Cx M cJ7_fill_d0a16 none RJ7 wsJ7_fill_d0a16 (rmz 0) 0 0 (QV (mV M) Qk)) (hN : mN M = 5) {x0 : Nat} {x1 : Int64} {x3 : Int32} {x4 : Int32} {nx0 : Nat} (hx0 : kd x0 = (3, nx0)) (lx0 : x0 ∈ ids (mV M)) {σ : Sg} (h : ((x4 ≤ x3 → Qk σ) ∧ (¬ x4 ≤ x3 → (vp_in x3 nx0 ∧ (∀ σ3 : Sg, σ3 = sl σ x0 x3.toNatClampNeg x1 → (∀ v4 : Int32, v4 = x3 + 1 → PS M 6 [(0, .ref x0), (1, .long x1), (3, .int v4), (4, .int x4)] [] σ3 (0, 0))))))) : PS M 6 [(0, .ref x0), (1, .long x1), (3, .int x3), (4, .int x4)] [] σ (0, 0) := by
  refine P_iload_n C dJ7_fill_d0a16_6 2 rfl ?_
  refine P_iload C dJ7_fill_d0a16_7 3 rfl ?_
  refine P_icmp_ge C dJ7_fill_d0a16_9 (tgt := 22) (by decide +kernel) (fun q1 => ?_) (fun q1 => ?_)
  · have h := h.1 q1
    exact P_vret C dJ7_fill_d0a16_22 h
  · have h := h.2 q1
    refine P_aload_n C dJ7_fill_d0a16_12 0 rfl ?_
    refine P_iload_n C dJ7_fill_d0a16_13 2 rfl ?_
    refine P_lload_n C dJ7_fill_d0a16_14 1 rfl ?_
    obtain ⟨hv2, h⟩ := h
    refine P_last C hx0 lx0 hv2 dJ7_fill_d0a16_15 ?_
    refine P_nm (fun σ3 eσ3 => ?_)
    have h := h σ3 eσ3
    obtain ⟨v4, ev4⟩ : ∃ v : Int32, v = x3 + 1 := ⟨_, rfl⟩
    have h := h v4 ev4
    refine P_iinc (v := v4) C dJ7_fill_d0a16_16 2 rfl (by rw [ev4]; rfl) (by rw [hN]; decide) rfl ?_
    refine P_goto C dJ7_fill_d0a16_19 (tgt := 6) (by decide +kernel) ?_
    exact P_sub [1, 2, 0, 3] rfl h
theorem pa_X9_becomes_13 : PA RX9 wsX9_becomes 13 9 1 "NineMowers$Tape" .int := by
  show _ ∧ _ ∧ _ ∧ _ ∧ _ ∧ _ ∧ _ ∧ _
  exact ⟨by decide +kernel, fun _ h => List.mem_cons_of_mem _ (List.mem_append_right _ h), List.mem_of_getElem? (i := 1) rfl, rfl, rfl, by decide +kernel, ⟨tyX9, tyX9_ok⟩, nmX9⟩
theorem pa_X9_becomes_17 : PA RX9 wsX9_becomes 17 9 2 "NineMowers$Tape" .int := by
  show _ ∧ _ ∧ _ ∧ _ ∧ _ ∧ _ ∧ _ ∧ _
  exact ⟨by decide +kernel, fun _ h => List.mem_cons_of_mem _ (List.mem_append_right _ h), List.mem_of_getElem? (i := 2) rfl, rfl, rfl, by decide +kernel, ⟨tyX9, tyX9_ok⟩, nmX9⟩
theorem fa_X9_becomes_9 : FA RX9 wsX9_becomes 9 9 0 "NineMowers$Tape" := by
  show _ ∧ _ ∧ _ ∧ _
  exact ⟨by decide +kernel, fun _ h => List.mem_cons_of_mem _ (List.mem_append_right _ h), List.mem_of_getElem? (i := 3) rfl, Or.inl rfl⟩
theorem kf_X9_becomes_J7_fill_d0a16 : KF RX9 wsX9_becomes (rmz 1) 20 yJ7_fill_d0a16 wsJ7_fill_d0a16 (rmz 0) 2 := ⟨_, _, _, _, gX9_becomes_J7_fill_d0a16, rfl, by decide +kernel, by decide +kernel⟩
noncomputable def K_X9_becomes (l : Launch) (V : Vx) (c0 : Nat) (a1 : Int32) (a2 : Int32) (σ : Sg) (Qk : Sg → Prop) : Prop := Ka l V yX9_becomes wsX9_becomes (rmz 1) 0 0 [.ref c0, .int a1, .int a2] σ (QV V Qk)
theorem e_X9_becomes {l : Launch} {V : Vx} {c0 : Nat} {a1 : Int32} {a2 : Int32} {σ : Sg} {Qk : Sg → Prop} (h : ∀ M : Mx, mL M = l → mV M = V → mN M = 3 → Cx M cX9_becomes none RX9 wsX9_becomes (rmz 1) 0 0 (QV (mV M) Qk) → PS M 0 [(0, .ref c0), (1, .int a1), (2, .int a2)] [] σ (0, 0)) : K_X9_becomes l V c0 a1 a2 σ Qk :=
  Ka_of (by decide +kernel) rfl rfl (Nat.le_of_ble_eq_true rfl) (fun M h1 h2 h3 C => h M h1 h2 h3 (by rw [h2]; exact C))
set_option maxRecDepth 100000 in
set_option maxHeartbeats 4000000 in
theorem s_X9_becomes_0 {M : Mx} {Qk : Sg → Prop} (C : Cx M cX9_becomes none RX9 wsX9_becomes (rmz 1) 0 0 (QV (mV M) Qk)) (hN : mN M = 3) {c0 : Nat} {a1 : Int32} {a2 : Int32} (hc0 : isT c0) {σ : Sg} (h : (∀ σ1 : Sg, σ1 = si σ c0 1 a1 → (∀ σ2 : Sg, σ2 = si σ1 c0 2 a2 → K_J7_fill_d0a16 (mL M) (mV M) (c0 + 1) (0 : Int64) σ2 (fun σ3 => Qk σ3)))) : PS M 0 [(0, .ref c0), (1, .int a1), (2, .int a2)] [] σ (0, 0) := by
  refine P_aload_n C dX9_becomes_0 0 rfl ?_
  refine P_iload_n C dX9_becomes_1 1 rfl ?_
  refine P_putI C pa_X9_becomes_13 (kdT_0 hc0) rfl (fxl (fxT_0 hc0)) dX9_becomes_2 ?_
  refine P_nm (fun σ1 eσ1 => ?_)
  have h := h σ1 eσ1
  refine P_aload_n C dX9_becomes_5 0 rfl ?_
  refine P_iload_n C dX9_becomes_6 2 rfl ?_
  refine P_putI C pa_X9_becomes_17 (kdT_0 hc0) rfl (fxl (fxT_0 hc0)) dX9_becomes_7 ?_
  refine P_nm (fun σ2 eσ2 => ?_)
  have h := h σ2 eσ2
  refine P_aload_n C dX9_becomes_10 0 rfl ?_
  refine P_getS C (e := (c0 + 1)) fa_X9_becomes_9 (kdT_0 hc0) (d := 1) rfl (fxl (fxT_0 hc0)) rfl dX9_becomes_11 ?_
  refine P_lconst C dX9_becomes_14 (v := (0 : Int64)) rfl ?_
  refine P_cv (R_f C kf_X9_becomes_J7_fill_d0a16 (As := [.ref (c0 + 1), .long (0 : Int64)]) rfl (Nat.le_of_ble_eq_true rfl) dX9_becomes_15 ⟨Nat.le_refl _, Nat.le_refl _⟩ h) (fun σ3 h => ?_)
  exact P_vret C dX9_becomes_18 h
noncomputable def K_X2_wordOf (l : Launch) (V : Vx) (a1 : Int32) (σ : Sg) (Qk : Nat → Sg → Prop) : Prop := Ka l V yX2_wordOf wsX2_wordOf (rmz 0) 0 0 [.int a1] σ (QR V Qk)
theorem e_X2_wordOf {l : Launch} {V : Vx} {a1 : Int32} {σ : Sg} {Qk : Nat → Sg → Prop} (h : ∀ M : Mx, mL M = l → mV M = V → mN M = 1 → Cx M cX2_wordOf (some (.object "java/lang/String")) RX2 wsX2_wordOf (rmz 0) 0 0 (QR (mV M) Qk) → PS M 0 [(0, .int a1)] [] σ (0, 0)) : K_X2_wordOf l V a1 σ Qk :=
  Ka_of (by decide +kernel) rfl rfl (Nat.le_of_ble_eq_true rfl) (fun M h1 h2 h3 C => h M h1 h2 h3 (by rw [h2]; exact C))
set_option maxRecDepth 100000 in
set_option maxHeartbeats 4000000 in
theorem s_X2_wordOf_0 {M : Mx} {Qk : Nat → Sg → Prop} (C : Cx M cX2_wordOf (some (.object "java/lang/String")) RX2 wsX2_wordOf (rmz 0) 0 0 (QR (mV M) Qk)) (hN : mN M = 1) {a1 : Int32} {σ : Sg} (h : ((a1.toInt < 0 ∨ 3 < a1.toInt → Qk (200 + 5) σ) ∧ (a1.toInt = 0 → Qk (200 + 1) σ) ∧ (a1.toInt = 1 → Qk (200 + 2) σ) ∧ (a1.toInt = 2 → Qk (200 + 3) σ) ∧ (a1.toInt = 3 → Qk (200 + 4) σ))) : PS M 0 [(0, .int a1)] [] σ (0, 0) := by
  refine P_iload_n C dX2_wordOf_0 0 rfl ?_
  refine P_tsw C dX2_wordOf_1 44 (by decide +kernel) (fun q1 => ?_) (by decide +kernel) (fun i off ho q1 => ?_)
  · have h := h.1 q1
    refine P_ldcS C (i := 5) (by decide +kernel) rfl dX2_wordOf_44 ?_
    exact P_aret C (Or.inl ⟨_, rfl⟩) dX2_wordOf_46 h
  · rcases i with _ | _ | _ | _ | i
    · obtain rfl : (31 : Int) = off := Option.some.inj ho
      refine ⟨?_, by decide +kernel⟩
      show PS M 32 _ _ _ _
      have h := h.2.1 (by have q := q1; simp at q; omega)
      refine P_ldcS C (i := 1) (by decide +kernel) rfl dX2_wordOf_32 ?_
      exact P_aret C (Or.inl ⟨_, rfl⟩) dX2_wordOf_34 h
    · obtain rfl : (34 : Int) = off := Option.some.inj ho
      refine ⟨?_, by decide +kernel⟩
      show PS M 35 _ _ _ _
      have h := h.2.2.1 (by have q := q1; simp at q; omega)
      refine P_ldcS C (i := 2) (by decide +kernel) rfl dX2_wordOf_35 ?_
      exact P_aret C (Or.inl ⟨_, rfl⟩) dX2_wordOf_37 h
    · obtain rfl : (37 : Int) = off := Option.some.inj ho
      refine ⟨?_, by decide +kernel⟩
      show PS M 38 _ _ _ _
      have h := h.2.2.2.1 (by have q := q1; simp at q; omega)
      refine P_ldcS C (i := 3) (by decide +kernel) rfl dX2_wordOf_38 ?_
      exact P_aret C (Or.inl ⟨_, rfl⟩) dX2_wordOf_40 h
    · obtain rfl : (40 : Int) = off := Option.some.inj ho
      refine ⟨?_, by decide +kernel⟩
      show PS M 41 _ _ _ _
      have h := h.2.2.2.2 (by have q := q1; simp at q; omega)
      refine P_ldcS C (i := 4) (by decide +kernel) rfl dX2_wordOf_41 ?_
      exact P_aret C (Or.inl ⟨_, rfl⟩) dX2_wordOf_43 h
    · exact absurd (Array.getElem?_eq_some_iff.mp ho).1 (Nat.not_lt.mpr (by show 4 ≤ _; omega))
theorem kf_X2_readsWord_X2_wordOf : KF RX2 wsX2_readsWord (rmz 4) 85 yX2_wordOf wsX2_wordOf (rmz 0) 1 := ⟨_, _, _, _, gX2_readsWord_X2_wordOf, rfl, by decide +kernel, by decide +kernel⟩
theorem kv_X2_readsWord_J0_length_8abf5 : KV RX2 wsX2_readsWord (rmz 4) 89 RJ0 yJ0_length_8abf5 wsJ0_length_8abf5 (rmz 1) 0 := ⟨_, _, _, _, gX2_readsWord_J0_length_8abf5, rfl, by decide +kernel, by decide +kernel⟩
theorem kv_X2_readsWord_J0_charAt_5068e : KV RX2 wsX2_readsWord (rmz 4) 93 RJ0 yJ0_charAt_5068e wsJ0_charAt_5068e (rmz 3) 1 := ⟨_, _, _, _, gX2_readsWord_J0_charAt_5068e, rfl, by decide +kernel, by decide +kernel⟩
theorem kv_X2_readsWord_X2_takes : KV RX2 wsX2_readsWord (rmz 4) 60 RX2 yX2_takes wsX2_takes (rmz 1) 1 := ⟨_, _, _, _, gX2_readsWord_X2_takes, rfl, by decide +kernel, by decide +kernel⟩
noncomputable def K_X2_readsWord (l : Launch) (V : Vx) (c0 : Nat) (a1 : Int32) (σ : Sg) (Qk : Int32 → Sg → Prop) : Prop := Ka l V yX2_readsWord wsX2_readsWord (rmz 4) 0 0 [.ref c0, .int a1] σ (QI V Qk)
theorem e_X2_readsWord {l : Launch} {V : Vx} {c0 : Nat} {a1 : Int32} {σ : Sg} {Qk : Int32 → Sg → Prop} (h : ∀ M : Mx, mL M = l → mV M = V → mN M = 4 → Cx M cX2_readsWord (some .boolean) RX2 wsX2_readsWord (rmz 4) 0 0 (QI (mV M) Qk) → PS M 0 [(0, .ref c0), (1, .int a1)] [] σ (0, 0)) : K_X2_readsWord l V c0 a1 σ Qk :=
  Ka_of (by decide +kernel) rfl rfl (Nat.le_of_ble_eq_true rfl) (fun M h1 h2 h3 C => h M h1 h2 h3 (by rw [h2]; exact C))
set_option maxRecDepth 100000 in
set_option maxHeartbeats 4000000 in
theorem s_X2_readsWord_0 {M : Mx} {Qk : Int32 → Sg → Prop} (C : Cx M cX2_readsWord (some .boolean) RX2 wsX2_readsWord (rmz 4) 0 0 (QI (mV M) Qk)) (hN : mN M = 4) {c0 : Nat} {a1 : Int32} (hc0 : kd c0 = (12, 0)) (lc0 : c0 ∈ ids (mV M)) {σ : Sg} (h : K_X2_wordOf (mL M) (mV M) a1 σ (fun b3 σ1 => (∃ a2 : Nat, b3 = 200 + a2 ∧ a2 < 8 ∧ PS M 7 [(0, .ref c0), (2, .ref (200 + a2)), (3, .int (0 : Int32))] [] σ1 (0, 0)))) : PS M 0 [(0, .ref c0), (1, .int a1)] [] σ (0, 0) := by
  refine P_iload_n C dX2_readsWord_0 1 rfl ?_
  refine P_cr (R_f C kf_X2_readsWord_X2_wordOf (As := [.int a1]) rfl (Nat.le_of_ble_eq_true rfl) dX2_readsWord_1 ⟨Nat.le_refl _, Nat.le_refl _⟩ h) (fun b3 σ1 h => ?_)
  obtain ⟨a2, rfl, ha2, h⟩ := h
  refine P_astore_n C dX2_readsWord_4 (by rw [hN]; decide) rfl ?_
  refine P_iconst C dX2_readsWord_5 (v := (0 : Int32)) rfl ?_
  refine P_istore_n C dX2_readsWord_6 (by rw [hN]; decide) rfl ?_
  exact P_sub [2, 1, 0] rfl h
set_option maxRecDepth 100000 in
set_option maxHeartbeats 4000000 in
theorem s_X2_readsWord_7 {M : Mx} {Qk : Int32 → Sg → Prop} (C : Cx M cX2_readsWord (some .boolean) RX2 wsX2_readsWord (rmz 4) 0 0 (QI (mV M) Qk)) (hN : mN M = 4) {x0 : Nat} {x2 : Nat} {x3 : Int32} (hx0 : kd x0 = (12, 0)) (lx0 : x0 ∈ ids (mV M)) (hx2 : x2 < 8) {σ : Sg} (h : K_J0_length_8abf5 (mL M) (mV M) x2 σ (fun r2 σ1 => ((r2 ≤ x3 → Qk (1 : Int32) σ1) ∧ (¬ r2 ≤ x3 → K_J0_charAt_5068e (mL M) (mV M) x2 x3 σ1 (fun r5 σ4 => K_X2_takes (mL M) (mV M) x0 r5 σ4 (fun r7 σ6 => ((¬ r7 = 0 → (∀ v9 : Int32, v9 = x3 + 1 → PS M 7 [(0, .ref x0), (2, .ref (200 + x2)), (3, .int v9)] [] σ6 (0, 0))) ∧ (r7 = 0 → Qk (0 : Int32) σ6)))))))) : PS M 7 [(0, .ref x0), (2, .ref (200 + x2)), (3, .int x3)] [] σ (0, 0) := by
  refine P_iload_n C dX2_readsWord_7 2 rfl ?_
  refine P_aload_n C dX2_readsWord_8 1 rfl ?_
  refine P_ci (R_vs C kv_X2_readsWord_J0_length_8abf5 (As := []) rfl hx2 (Nat.le_of_ble_eq_true rfl) dX2_readsWord_9 ⟨Nat.le_refl _, Nat.le_refl _⟩ h) (fun r2 σ1 h => ?_)
  refine P_icmp_ge C dX2_readsWord_12 (tgt := 35) (by decide +kernel) (fun q3 => ?_) (fun q3 => ?_)
  · have h := h.1 q3
    refine P_iconst C dX2_readsWord_35 (v := (1 : Int32)) rfl ?_
    exact P_zret C (by decide +kernel) dX2_readsWord_36 h
  · have h := h.2 q3
    refine P_aload_n C dX2_readsWord_15 0 rfl ?_
    refine P_aload_n C dX2_readsWord_16 1 rfl ?_
    refine P_iload_n C dX2_readsWord_17 2 rfl ?_
    refine P_ci (R_vs C kv_X2_readsWord_J0_charAt_5068e (As := [.int x3]) rfl hx2 (Nat.le_of_ble_eq_true rfl) dX2_readsWord_18 ⟨Nat.le_refl _, Nat.le_refl _⟩ h) (fun r5 σ4 h => ?_)
    refine P_ci (R_v (ci := 2) C kv_X2_readsWord_X2_takes (As := [.int r5]) rfl hx0 rfl lx0 (Nat.le_of_ble_eq_true rfl) dX2_readsWord_21 ⟨Nat.le_refl _, Nat.le_refl _⟩ h) (fun r7 σ6 h => ?_)
    refine P_if_ne C dX2_readsWord_24 (tgt := 29) (by decide +kernel) (fun q8 => ?_) (fun q8 => ?_)
    · have h := h.1 q8
      obtain ⟨v9, ev9⟩ : ∃ v : Int32, v = x3 + 1 := ⟨_, rfl⟩
      have h := h v9 ev9
      refine P_iinc (v := v9) C dX2_readsWord_29 2 rfl (by rw [ev9]; rfl) (by rw [hN]; decide) rfl ?_
      refine P_goto C dX2_readsWord_32 (tgt := 7) (by decide +kernel) ?_
      exact P_sub [1, 2, 0] rfl h
    · have h := h.2 q8
      refine P_iconst C dX2_readsWord_27 (v := (0 : Int32)) rfl ?_
      exact P_zret C (by decide +kernel) dX2_readsWord_28 h
theorem kv_X2_signAmong_X2_sign : KV RX2 wsX2_signAmong (rmz 4) 130 RX2 yX2_sign wsX2_sign (rmz 0) 0 := ⟨_, _, _, _, gX2_signAmong_X2_sign, rfl, by decide +kernel, by decide +kernel⟩
theorem kv_X2_signAmong_J0_indexOf_0f7a4 : KV RX2 wsX2_signAmong (rmz 4) 133 RJ0 yJ0_indexOf_0f7a4 wsJ0_indexOf_0f7a4 (rmz 3) 1 := ⟨_, _, _, _, gX2_signAmong_J0_indexOf_0f7a4, rfl, by decide +kernel, by decide +kernel⟩
noncomputable def K_X2_signAmong (l : Launch) (V : Vx) (c0 : Nat) (a1 : Nat) (σ : Sg) (Qk : Int32 → Sg → Prop) : Prop := Ka l V yX2_signAmong wsX2_signAmong (rmz 4) 0 0 [.ref c0, .ref (200 + a1)] σ (QI V Qk)
theorem e_X2_signAmong {l : Launch} {V : Vx} {c0 : Nat} {a1 : Nat} {σ : Sg} {Qk : Int32 → Sg → Prop} (h : ∀ M : Mx, mL M = l → mV M = V → mN M = 3 → Cx M cX2_signAmong (some .int) RX2 wsX2_signAmong (rmz 4) 0 0 (QI (mV M) Qk) → PS M 0 [(0, .ref c0), (1, .ref (200 + a1))] [] σ (0, 0)) : K_X2_signAmong l V c0 a1 σ Qk :=
  Ka_of (by decide +kernel) rfl rfl (Nat.le_of_ble_eq_true rfl) (fun M h1 h2 h3 C => h M h1 h2 h3 (by rw [h2]; exact C))
set_option maxRecDepth 100000 in
set_option maxHeartbeats 4000000 in
theorem s_X2_signAmong_0 {M : Mx} {Qk : Int32 → Sg → Prop} (C : Cx M cX2_signAmong (some .int) RX2 wsX2_signAmong (rmz 4) 0 0 (QI (mV M) Qk)) (hN : mN M = 3) {c0 : Nat} {a1 : Nat} (hc0 : kd c0 = (12, 0)) (lc0 : c0 ∈ ids (mV M)) (ha1 : a1 < 8) {σ : Sg} (h : K_X2_sign (mL M) (mV M) c0 σ (fun r2 σ1 => ((0 ≤ r2 → K_J0_indexOf_0f7a4 (mL M) (mV M) a1 ((r2.toUInt32 % 65536).toInt32) σ1 (fun r5 σ4 => Qk r5 σ4)) ∧ (¬ 0 ≤ r2 → Qk (-1 : Int32) σ1)))) : PS M 0 [(0, .ref c0), (1, .ref (200 + a1))] [] σ (0, 0) := by
  refine P_aload_n C dX2_signAmong_0 0 rfl ?_
  refine P_ci (R_v (ci := 2) C kv_X2_signAmong_X2_sign (As := []) rfl hc0 rfl lc0 (Nat.le_of_ble_eq_true rfl) dX2_signAmong_1 ⟨Nat.le_refl _, Nat.le_refl _⟩ h) (fun r2 σ1 h => ?_)
  refine P_istore_n C dX2_signAmong_4 (by rw [hN]; decide) rfl ?_
  refine P_iload_n C dX2_signAmong_5 0 rfl ?_
  refine P_if_ge C dX2_signAmong_6 (tgt := 13) (by decide +kernel) (fun q3 => ?_) (fun q3 => ?_)
  · have h := h.1 q3
    refine P_aload_n C dX2_signAmong_13 2 rfl ?_
    refine P_iload_n C dX2_signAmong_14 0 rfl ?_
    refine P_i2c C dX2_signAmong_15 ?_
    refine P_ci (R_vs C kv_X2_signAmong_J0_indexOf_0f7a4 (As := [.int ((r2.toUInt32 % 65536).toInt32)]) rfl ha1 (Nat.le_of_ble_eq_true rfl) dX2_signAmong_16 ⟨Nat.le_refl _, Nat.le_refl _⟩ h) (fun r5 σ4 h => ?_)
    exact P_iret C dX2_signAmong_19 h
  · have h := h.2 q3
    refine P_iconst C dX2_signAmong_9 (v := (-1 : Int32)) rfl ?_
    refine P_goto C dX2_signAmong_10 (tgt := 19) (by decide +kernel) ?_
    exact P_iret C dX2_signAmong_19 h
theorem kv_X2_readsTest_X2_signAmong : KV RX2 wsX2_readsTest (rmz 5) 66 RX2 yX2_signAmong wsX2_signAmong (rmz 4) 1 := ⟨_, _, _, _, gX2_readsTest_X2_signAmong, rfl, by decide +kernel, by decide +kernel⟩
theorem fa_X2_readsTest_47 : FA RX2 wsX2_readsTest 47 2 11 "NineMowers$Field" := by
  show _ ∧ _ ∧ _ ∧ _
  exact ⟨by decide +kernel, fun _ h => List.mem_cons_of_mem _ (List.mem_append_right _ h), List.mem_of_getElem? (i := 1) rfl, Or.inl rfl⟩
theorem pa_X2_readsTest_47 : PA RX2 wsX2_readsTest 47 2 11 "NineMowers$Field" .int := by
  show _ ∧ _ ∧ _ ∧ _ ∧ _ ∧ _ ∧ _ ∧ _
  exact ⟨by decide +kernel, fun _ h => List.mem_cons_of_mem _ (List.mem_append_right _ h), List.mem_of_getElem? (i := 1) rfl, rfl, rfl, by decide +kernel, ⟨tyX2, tyX2_ok⟩, nmX2⟩
theorem kv_X2_readsTest_X2_readsNumber : KV RX2 wsX2_readsTest (rmz 5) 74 RX2 yX2_readsNumber wsX2_readsNumber (rmz 2) 0 := ⟨_, _, _, _, gX2_readsTest_X2_readsNumber, rfl, by decide +kernel, by decide +kernel⟩
theorem kv_X2_readsTest_X2_writes : KV RX2 wsX2_readsTest (rmz 5) 113 RX2 yX2_writes wsX2_writes (rmz 0) 1 := ⟨_, _, _, _, gX2_readsTest_X2_writes, rfl, by decide +kernel, by decide +kernel⟩
noncomputable def K_X2_readsTest (l : Launch) (V : Vx) (c0 : Nat) (σ : Sg) (Qk : Int32 → Sg → Prop) : Prop := Ka l V yX2_readsTest wsX2_readsTest (rmz 5) 0 0 [.ref c0] σ (QI V Qk)
theorem e_X2_readsTest {l : Launch} {V : Vx} {c0 : Nat} {σ : Sg} {Qk : Int32 → Sg → Prop} (h : ∀ M : Mx, mL M = l → mV M = V → mN M = 4 → Cx M cX2_readsTest (some .boolean) RX2 wsX2_readsTest (rmz 5) 0 0 (QI (mV M) Qk) → PS M 0 [(0, .ref c0)] [] σ (0, 0)) : K_X2_readsTest l V c0 σ Qk :=
  Ka_of (by decide +kernel) rfl rfl (Nat.le_of_ble_eq_true rfl) (fun M h1 h2 h3 C => h M h1 h2 h3 (by rw [h2]; exact C))
set_option maxRecDepth 100000 in
set_option maxHeartbeats 4000000 in
theorem s_X2_readsTest_0 {M : Mx} {Qk : Int32 → Sg → Prop} (C : Cx M cX2_readsTest (some .boolean) RX2 wsX2_readsTest (rmz 5) 0 0 (QI (mV M) Qk)) (hN : mN M = 4) {c0 : Nat} (hc0 : kd c0 = (12, 0)) (lc0 : c0 ∈ ids (mV M)) {σ : Sg} (h : K_X2_signAmong (mL M) (mV M) c0 6 σ (fun r2 σ1 => ((0 ≤ r2 → (∀ σ4 : Sg, σ4 = si σ1 c0 11 ((gi σ1 c0 11) + (1 : Int32)) → K_X2_signAmong (mL M) (mV M) c0 7 σ4 (fun r6 σ5 => ((0 ≤ r6 → (∀ σ8 : Sg, σ8 = si σ5 c0 11 ((gi σ5 c0 11) + (1 : Int32)) → K_X2_readsNumber (mL M) (mV M) c0 σ8 (fun r10 σ9 => ((0 ≤ r10 → K_X2_writes (mL M) (mV M) c0 (((r2 * (300 : Int32)) + (r6 * (100 : Int32))) + r10) σ9 (fun σ12 => Qk (1 : Int32) σ12)) ∧ (¬ 0 ≤ r10 → Qk (0 : Int32) σ9))))) ∧ (¬ 0 ≤ r6 → Qk (0 : Int32) σ5))))) ∧ (¬ 0 ≤ r2 → Qk (0 : Int32) σ1)))) : PS M 0 [(0, .ref c0)] [] σ (0, 0) := by
  refine P_aload_n C dX2_readsTest_0 0 rfl ?_
  refine P_ldcS C (i := 6) (by decide +kernel) rfl dX2_readsTest_1 ?_
  refine P_ci (R_v (ci := 2) C kv_X2_readsTest_X2_signAmong (As := [.ref (200 + 6)]) rfl hc0 rfl lc0 (Nat.le_of_ble_eq_true rfl) dX2_readsTest_3 ⟨Nat.le_refl _, Nat.le_refl _⟩ h) (fun r2 σ1 h => ?_)
  refine P_istore_n C dX2_readsTest_6 (by rw [hN]; decide) rfl ?_
  refine P_iload_n C dX2_readsTest_7 0 rfl ?_
  refine P_if_ge C dX2_readsTest_8 (tgt := 13) (by decide +kernel) (fun q3 => ?_) (fun q3 => ?_)
  · have h := h.1 q3
    refine P_aload_n C dX2_readsTest_13 1 rfl ?_
    refine P_dup C dX2_readsTest_14 rfl ?_
    refine P_getI C fa_X2_readsTest_47 hc0 rfl lc0 dX2_readsTest_15 ?_
    refine P_iconst C dX2_readsTest_18 (v := (1 : Int32)) rfl ?_
    refine P_iadd C dX2_readsTest_19 ?_
    refine P_putI C pa_X2_readsTest_47 hc0 rfl lc0 dX2_readsTest_20 ?_
    refine P_nm (fun σ4 eσ4 => ?_)
    have h := h σ4 eσ4
    refine P_aload_n C dX2_readsTest_23 1 rfl ?_
    refine P_ldcS C (i := 7) (by decide +kernel) rfl dX2_readsTest_24 ?_
    refine P_ci (R_v (ci := 2) C kv_X2_readsTest_X2_signAmong (As := [.ref (200 + 7)]) rfl hc0 rfl lc0 (Nat.le_of_ble_eq_true rfl) dX2_readsTest_26 ⟨Nat.le_refl _, Nat.le_refl _⟩ h) (fun r6 σ5 h => ?_)
    refine P_istore_n C dX2_readsTest_29 (by rw [hN]; decide) rfl ?_
    refine P_iload_n C dX2_readsTest_30 0 rfl ?_
    refine P_if_ge C dX2_readsTest_31 (tgt := 36) (by decide +kernel) (fun q7 => ?_) (fun q7 => ?_)
    · have h := h.1 q7
      refine P_aload_n C dX2_readsTest_36 2 rfl ?_
      refine P_dup C dX2_readsTest_37 rfl ?_
      refine P_getI C fa_X2_readsTest_47 hc0 rfl lc0 dX2_readsTest_38 ?_
      refine P_iconst C dX2_readsTest_41 (v := (1 : Int32)) rfl ?_
      refine P_iadd C dX2_readsTest_42 ?_
      refine P_putI C pa_X2_readsTest_47 hc0 rfl lc0 dX2_readsTest_43 ?_
      refine P_nm (fun σ8 eσ8 => ?_)
      have h := h σ8 eσ8
      refine P_aload_n C dX2_readsTest_46 2 rfl ?_
      refine P_ci (R_v (ci := 2) C kv_X2_readsTest_X2_readsNumber (As := []) rfl hc0 rfl lc0 (Nat.le_of_ble_eq_true rfl) dX2_readsTest_47 ⟨Nat.le_refl _, Nat.le_refl _⟩ h) (fun r10 σ9 h => ?_)
      refine P_istore_n C dX2_readsTest_50 (by rw [hN]; decide) rfl ?_
      refine P_iload_n C dX2_readsTest_51 0 rfl ?_
      refine P_if_ge C dX2_readsTest_52 (tgt := 57) (by decide +kernel) (fun q11 => ?_) (fun q11 => ?_)
      · have h := h.1 q11
        refine P_aload_n C dX2_readsTest_57 3 rfl ?_
        refine P_iload_n C dX2_readsTest_58 2 rfl ?_
        refine P_sipush C dX2_readsTest_59 (v := (300 : Int32)) rfl ?_
        refine P_imul C dX2_readsTest_62 ?_
        refine P_iload_n C dX2_readsTest_63 1 rfl ?_
        refine P_bipush C dX2_readsTest_64 (v := (100 : Int32)) rfl ?_
        refine P_imul C dX2_readsTest_66 ?_
        refine P_iadd C dX2_readsTest_67 ?_
        refine P_iload_n C dX2_readsTest_68 0 rfl ?_
        refine P_iadd C dX2_readsTest_69 ?_
        refine P_cv (R_v (ci := 2) C kv_X2_readsTest_X2_writes (As := [.int (((r2 * (300 : Int32)) + (r6 * (100 : Int32))) + r10)]) rfl hc0 rfl lc0 (Nat.le_of_ble_eq_true rfl) dX2_readsTest_70 ⟨Nat.le_refl _, Nat.le_refl _⟩ h) (fun σ12 h => ?_)
        refine P_iconst C dX2_readsTest_73 (v := (1 : Int32)) rfl ?_
        exact P_zret C (by decide +kernel) dX2_readsTest_74 h
      · have h := h.2 q11
        refine P_iconst C dX2_readsTest_55 (v := (0 : Int32)) rfl ?_
        exact P_zret C (by decide +kernel) dX2_readsTest_56 h
    · have h := h.2 q7
      refine P_iconst C dX2_readsTest_34 (v := (0 : Int32)) rfl ?_
      exact P_zret C (by decide +kernel) dX2_readsTest_35 h
  · have h := h.2 q3
    refine P_iconst C dX2_readsTest_11 (v := (0 : Int32)) rfl ?_
    exact P_zret C (by decide +kernel) dX2_readsTest_12 h
theorem kv_X2_readsPart_r4_X2_takes : KV RX2 wsX2_readsPart (rmz 6) 60 RX2 yX2_takes wsX2_takes (rmz 1) 1 := ⟨_, _, _, _, gX2_readsPart_X2_takes, rfl, by decide +kernel, by decide +kernel⟩
theorem kv_X2_readsPart_r4_X2_readsTest : KV RX2 wsX2_readsPart (rmz 6) 120 RX2 yX2_readsTest wsX2_readsTest (rmz 5) 0 := ⟨_, _, _, _, gX2_readsPart_X2_readsTest, rfl, by decide +kernel, by decide +kernel⟩
noncomputable def K_X2_readsPart_r4 (l : Launch) (V : Vx) (c0 : Nat) (a1 : Int32) (σ : Sg) (Qk : Int32 → Sg → Prop) : Prop := Ka l V yX2_readsPart wsX2_readsPart (rmz 6) 0 0 [.ref c0, .int a1] σ (QI V Qk)
theorem e_X2_readsPart_r4 {l : Launch} {V : Vx} {c0 : Nat} {a1 : Int32} {σ : Sg} {Qk : Int32 → Sg → Prop} (h : ∀ M : Mx, mL M = l → mV M = V → mN M = 2 → Cx M cX2_readsPart (some .boolean) RX2 wsX2_readsPart (rmz 6) 0 0 (QI (mV M) Qk) → PS M 0 [(0, .ref c0), (1, .int a1)] [] σ (0, 0)) : K_X2_readsPart_r4 l V c0 a1 σ Qk :=
  Ka_of (by decide +kernel) rfl rfl (Nat.le_of_ble_eq_true rfl) (fun M h1 h2 h3 C => h M h1 h2 h3 (by rw [h2]; exact C))
set_option maxRecDepth 100000 in
set_option maxHeartbeats 4000000 in
theorem s_X2_readsPart_r4_0 {M : Mx} {Qk : Int32 → Sg → Prop} (C : Cx M cX2_readsPart (some .boolean) RX2 wsX2_readsPart (rmz 6) 0 0 (QI (mV M) Qk)) (hN : mN M = 2) {c0 : Nat} {a1 : Int32} (hc0 : kd c0 = (12, 0)) (lc0 : c0 ∈ ids (mV M)) {σ : Sg} (h : (((4 : Int32) ≤ a1 → PS M 33 [(0, .ref c0), (1, .int a1)] [] σ (0, 0)) ∧ (¬ (4 : Int32) ≤ a1 → K_X2_takes (mL M) (mV M) c0 (33 : Int32) σ (fun r3 σ2 => ((r3 = 0 → PS M 33 [(0, .ref c0), (1, .int a1)] [] σ2 (0, 0)) ∧ (¬ r3 = 0 → False)))))) : PS M 0 [(0, .ref c0), (1, .int a1)] [] σ (0, 0) := by
  refine P_iload_n C dX2_readsPart_0 1 rfl ?_
  refine P_iconst C dX2_readsPart_1 (v := (4 : Int32)) rfl ?_
  refine P_icmp_ge C dX2_readsPart_2 (tgt := 33) (by decide +kernel) (fun q1 => ?_) (fun q1 => ?_)
  · have h := h.1 q1
    exact P_sub [0, 1] rfl h
  · have h := h.2 q1
    refine P_aload_n C dX2_readsPart_5 0 rfl ?_
    refine P_bipush C dX2_readsPart_6 (v := (33 : Int32)) rfl ?_
    refine P_ci (R_v (ci := 2) C kv_X2_readsPart_r4_X2_takes (As := [.int (33 : Int32)]) rfl hc0 rfl lc0 (Nat.le_of_ble_eq_true rfl) dX2_readsPart_8 ⟨Nat.le_refl _, Nat.le_refl _⟩ h) (fun r3 σ2 h => ?_)
    refine P_if_eq C dX2_readsPart_11 (tgt := 33) (by decide +kernel) (fun q4 => ?_) (fun q4 => ?_)
    · have h := h.1 q4
      exact P_sub [0, 1] rfl h
    · have h := h.2 q4
      refine P_aload_n C dX2_readsPart_14 0 rfl ?_
      refine P_iload_n C dX2_readsPart_15 1 rfl ?_
      refine P_iconst C dX2_readsPart_16 (v := (1 : Int32)) rfl ?_
      refine P_iadd C dX2_readsPart_17 ?_
      exact h.elim
set_option maxRecDepth 100000 in
set_option maxHeartbeats 4000000 in
theorem s_X2_readsPart_r4_33 {M : Mx} {Qk : Int32 → Sg → Prop} (C : Cx M cX2_readsPart (some .boolean) RX2 wsX2_readsPart (rmz 6) 0 0 (QI (mV M) Qk)) (hN : mN M = 2) {x0 : Nat} {x1 : Int32} (hx0 : kd x0 = (12, 0)) (lx0 : x0 ∈ ids (mV M)) {σ : Sg} (h : (((4 : Int32) ≤ x1 → K_X2_readsTest (mL M) (mV M) x0 σ (fun r3 σ2 => (narrow .boolean (.int r3) = .int r3 ∧ Qk r3 σ2))) ∧ (¬ (4 : Int32) ≤ x1 → K_X2_takes (mL M) (mV M) x0 (40 : Int32) σ (fun r5 σ4 => ((r5 = 0 → K_X2_readsTest (mL M) (mV M) x0 σ4 (fun r8 σ7 => (narrow .boolean (.int r8) = .int r8 ∧ Qk r8 σ7))) ∧ (¬ r5 = 0 → False)))))) : PS M 33 [(0, .ref x0), (1, .int x1)] [] σ (0, 0) := by
  refine P_iload_n C dX2_readsPart_33 1 rfl ?_
  refine P_iconst C dX2_readsPart_34 (v := (4 : Int32)) rfl ?_
  refine P_icmp_ge C dX2_readsPart_35 (tgt := 72) (by decide +kernel) (fun q1 => ?_) (fun q1 => ?_)
  · have h := h.1 q1
    refine P_aload_n C dX2_readsPart_72 0 rfl ?_
    refine P_ci (R_v (ci := 2) C kv_X2_readsPart_r4_X2_readsTest (As := []) rfl hx0 rfl lx0 (Nat.le_of_ble_eq_true rfl) dX2_readsPart_73 ⟨Nat.le_refl _, Nat.le_refl _⟩ h) (fun r3 σ2 h => ?_)
    exact P_zret C h.1 dX2_readsPart_76 h.2
  · have h := h.2 q1
    refine P_aload_n C dX2_readsPart_38 0 rfl ?_
    refine P_bipush C dX2_readsPart_39 (v := (40 : Int32)) rfl ?_
    refine P_ci (R_v (ci := 2) C kv_X2_readsPart_r4_X2_takes (As := [.int (40 : Int32)]) rfl hx0 rfl lx0 (Nat.le_of_ble_eq_true rfl) dX2_readsPart_41 ⟨Nat.le_refl _, Nat.le_refl _⟩ h) (fun r5 σ4 h => ?_)
    refine P_if_eq C dX2_readsPart_44 (tgt := 72) (by decide +kernel) (fun q6 => ?_) (fun q6 => ?_)
    · have h := h.1 q6
      refine P_aload_n C dX2_readsPart_72 0 rfl ?_
      refine P_ci (R_v (ci := 2) C kv_X2_readsPart_r4_X2_readsTest (As := []) rfl hx0 rfl lx0 (Nat.le_of_ble_eq_true rfl) dX2_readsPart_73 ⟨Nat.le_refl _, Nat.le_refl _⟩ h) (fun r8 σ7 h => ?_)
      exact P_zret C h.1 dX2_readsPart_76 h.2
    · have h := h.2 q6
      refine P_aload_n C dX2_readsPart_47 0 rfl ?_
      refine P_iload_n C dX2_readsPart_48 1 rfl ?_
      refine P_iconst C dX2_readsPart_49 (v := (1 : Int32)) rfl ?_
      refine P_iadd C dX2_readsPart_50 ?_
      exact h.elim
theorem kv_X2_readsBoth_r4_X2_readsPart_r4 : KV RX2 wsX2_readsBoth (rmz 7) 117 RX2 yX2_readsPart wsX2_readsPart (rmz 6) 1 := ⟨_, _, _, _, gX2_readsBoth_X2_readsPart, rfl, by decide +kernel, by decide +kernel⟩
theorem kv_X2_readsBoth_r4_X2_takes : KV RX2 wsX2_readsBoth (rmz 7) 60 RX2 yX2_takes wsX2_takes (rmz 1) 1 := ⟨_, _, _, _, gX2_readsBoth_X2_takes, rfl, by decide +kernel, by decide +kernel⟩
theorem kv_X2_readsBoth_r4_X2_writes : KV RX2 wsX2_readsBoth (rmz 7) 113 RX2 yX2_writes wsX2_writes (rmz 0) 1 := ⟨_, _, _, _, gX2_readsBoth_X2_writes, rfl, by decide +kernel, by decide +kernel⟩
noncomputable def K_X2_readsBoth_r4 (l : Launch) (V : Vx) (c0 : Nat) (a1 : Int32) (σ : Sg) (Qk : Int32 → Sg → Prop) : Prop := Ka l V yX2_readsBoth wsX2_readsBoth (rmz 7) 0 0 [.ref c0, .int a1] σ (QI V Qk)
theorem e_X2_readsBoth_r4 {l : Launch} {V : Vx} {c0 : Nat} {a1 : Int32} {σ : Sg} {Qk : Int32 → Sg → Prop} (h : ∀ M : Mx, mL M = l → mV M = V → mN M = 3 → Cx M cX2_readsBoth (some .boolean) RX2 wsX2_readsBoth (rmz 7) 0 0 (QI (mV M) Qk) → PS M 0 [(0, .ref c0), (1, .int a1)] [] σ (0, 0)) : K_X2_readsBoth_r4 l V c0 a1 σ Qk :=
  Ka_of (by decide +kernel) rfl rfl (Nat.le_of_ble_eq_true rfl) (fun M h1 h2 h3 C => h M h1 h2 h3 (by rw [h2]; exact C))
set_option maxRecDepth 100000 in
set_option maxHeartbeats 4000000 in
theorem s_X2_readsBoth_r4_0 {M : Mx} {Qk : Int32 → Sg → Prop} (C : Cx M cX2_readsBoth (some .boolean) RX2 wsX2_readsBoth (rmz 7) 0 0 (QI (mV M) Qk)) (hN : mN M = 3) {c0 : Nat} {a1 : Int32} (hc0 : kd c0 = (12, 0)) (lc0 : c0 ∈ ids (mV M)) {σ : Sg} (h : K_X2_readsPart_r4 (mL M) (mV M) c0 a1 σ (fun r2 σ1 => ((¬ r2 = 0 → PS M 12 [(0, .ref c0), (1, .int a1), (2, .int (0 : Int32))] [] σ1 (0, 0)) ∧ (r2 = 0 → Qk (0 : Int32) σ1)))) : PS M 0 [(0, .ref c0), (1, .int a1)] [] σ (0, 0) := by
  refine P_aload_n C dX2_readsBoth_0 0 rfl ?_
  refine P_iload_n C dX2_readsBoth_1 1 rfl ?_
  refine P_ci (R_v (ci := 2) C kv_X2_readsBoth_r4_X2_readsPart_r4 (As := [.int a1]) rfl hc0 rfl lc0 (Nat.le_of_ble_eq_true rfl) dX2_readsBoth_2 ⟨Nat.le_refl _, Nat.le_refl _⟩ h) (fun r2 σ1 h => ?_)
  refine P_if_ne C dX2_readsBoth_5 (tgt := 10) (by decide +kernel) (fun q3 => ?_) (fun q3 => ?_)
  · have h := h.1 q3
    refine P_iconst C dX2_readsBoth_10 (v := (0 : Int32)) rfl ?_
    refine P_istore_n C dX2_readsBoth_11 (by rw [hN]; decide) rfl ?_
    exact P_sub [1, 2, 0] rfl h
  · have h := h.2 q3
    refine P_iconst C dX2_readsBoth_8 (v := (0 : Int32)) rfl ?_
    exact P_zret C (by decide +kernel) dX2_readsBoth_9 h
set_option maxRecDepth 100000 in
set_option maxHeartbeats 4000000 in
theorem s_X2_readsBoth_r4_12 {M : Mx} {Qk : Int32 → Sg → Prop} (C : Cx M cX2_readsBoth (some .boolean) RX2 wsX2_readsBoth (rmz 7) 0 0 (QI (mV M) Qk)) (hN : mN M = 3) {x0 : Nat} {x1 : Int32} {x2 : Int32} (hx0 : kd x0 = (12, 0)) (lx0 : x0 ∈ ids (mV M)) {σ : Sg} (h : (((100 : Int32) ≤ x2 → Qk (1 : Int32) σ) ∧ (¬ (100 : Int32) ≤ x2 → K_X2_takes (mL M) (mV M) x0 (38 : Int32) σ (fun r3 σ2 => ((r3 = 0 → Qk (1 : Int32) σ2) ∧ (¬ r3 = 0 → K_X2_readsPart_r4 (mL M) (mV M) x0 x1 σ2 (fun r6 σ5 => ((¬ r6 = 0 → K_X2_writes (mL M) (mV M) x0 (-2 : Int32) σ5 (fun σ8 => (∀ v9 : Int32, v9 = x2 + 1 → PS M 12 [(0, .ref x0), (1, .int x1), (2, .int v9)] [] σ8 (0, 0)))) ∧ (r6 = 0 → Qk (0 : Int32) σ5))))))))) : PS M 12 [(0, .ref x0), (1, .int x1), (2, .int x2)] [] σ (0, 0) := by
  refine P_iload_n C dX2_readsBoth_12 2 rfl ?_
  refine P_bipush C dX2_readsBoth_13 (v := (100 : Int32)) rfl ?_
  refine P_icmp_ge C dX2_readsBoth_15 (tgt := 49) (by decide +kernel) (fun q1 => ?_) (fun q1 => ?_)
  · have h := h.1 q1
    refine P_iconst C dX2_readsBoth_49 (v := (1 : Int32)) rfl ?_
    exact P_zret C (by decide +kernel) dX2_readsBoth_50 h
  · have h := h.2 q1
    refine P_aload_n C dX2_readsBoth_18 0 rfl ?_
    refine P_bipush C dX2_readsBoth_19 (v := (38 : Int32)) rfl ?_
    refine P_ci (R_v (ci := 2) C kv_X2_readsBoth_r4_X2_takes (As := [.int (38 : Int32)]) rfl hx0 rfl lx0 (Nat.le_of_ble_eq_true rfl) dX2_readsBoth_21 ⟨Nat.le_refl _, Nat.le_refl _⟩ h) (fun r3 σ2 h => ?_)
    refine P_if_eq C dX2_readsBoth_24 (tgt := 49) (by decide +kernel) (fun q4 => ?_) (fun q4 => ?_)
    · have h := h.1 q4
      refine P_iconst C dX2_readsBoth_49 (v := (1 : Int32)) rfl ?_
      exact P_zret C (by decide +kernel) dX2_readsBoth_50 h
    · have h := h.2 q4
      refine P_aload_n C dX2_readsBoth_27 0 rfl ?_
      refine P_iload_n C dX2_readsBoth_28 1 rfl ?_
      refine P_ci (R_v (ci := 2) C kv_X2_readsBoth_r4_X2_readsPart_r4 (As := [.int x1]) rfl hx0 rfl lx0 (Nat.le_of_ble_eq_true rfl) dX2_readsBoth_29 ⟨Nat.le_refl _, Nat.le_refl _⟩ h) (fun r6 σ5 h => ?_)
      refine P_if_ne C dX2_readsBoth_32 (tgt := 37) (by decide +kernel) (fun q7 => ?_) (fun q7 => ?_)
      · have h := h.1 q7
        refine P_aload_n C dX2_readsBoth_37 0 rfl ?_
        refine P_bipush C dX2_readsBoth_38 (v := (-2 : Int32)) rfl ?_
        refine P_cv (R_v (ci := 2) C kv_X2_readsBoth_r4_X2_writes (As := [.int (-2 : Int32)]) rfl hx0 rfl lx0 (Nat.le_of_ble_eq_true rfl) dX2_readsBoth_40 ⟨Nat.le_refl _, Nat.le_refl _⟩ h) (fun σ8 h => ?_)
        obtain ⟨v9, ev9⟩ : ∃ v : Int32, v = x2 + 1 := ⟨_, rfl⟩
        have h := h v9 ev9
        refine P_iinc (v := v9) C dX2_readsBoth_43 2 rfl (by rw [ev9]; rfl) (by rw [hN]; decide) rfl ?_
        refine P_goto C dX2_readsBoth_46 (tgt := 12) (by decide +kernel) ?_
        exact P_sub [1, 2, 0] rfl h
      · have h := h.2 q7
        refine P_iconst C dX2_readsBoth_35 (v := (0 : Int32)) rfl ?_
        exact P_zret C (by decide +kernel) dX2_readsBoth_36 h
theorem kv_X2_readsEither_r4_X2_readsBoth_r4 : KV RX2 wsX2_readsEither (rmz 8) 110 RX2 yX2_readsBoth wsX2_readsBoth (rmz 7) 1 := ⟨_, _, _, _, gX2_readsEither_X2_readsBoth, rfl, by decide +kernel, by decide +kernel⟩
theorem kv_X2_readsEither_r4_X2_takes : KV RX2 wsX2_readsEither (rmz 8) 60 RX2 yX2_takes wsX2_takes (rmz 1) 1 := ⟨_, _, _, _, gX2_readsEither_X2_takes, rfl, by decide +kernel, by decide +kernel⟩
theorem kv_X2_readsEither_r4_X2_writes : KV RX2 wsX2_readsEither (rmz 8) 113 RX2 yX2_writes wsX2_writes (rmz 0) 1 := ⟨_, _, _, _, gX2_readsEither_X2_writes, rfl, by decide +kernel, by decide +kernel⟩
noncomputable def K_X2_readsEither_r4 (l : Launch) (V : Vx) (c0 : Nat) (a1 : Int32) (σ : Sg) (Qk : Int32 → Sg → Prop) : Prop := Ka l V yX2_readsEither wsX2_readsEither (rmz 8) 0 0 [.ref c0, .int a1] σ (QI V Qk)
theorem e_X2_readsEither_r4 {l : Launch} {V : Vx} {c0 : Nat} {a1 : Int32} {σ : Sg} {Qk : Int32 → Sg → Prop} (h : ∀ M : Mx, mL M = l → mV M = V → mN M = 3 → Cx M cX2_readsEither (some .boolean) RX2 wsX2_readsEither (rmz 8) 0 0 (QI (mV M) Qk) → PS M 0 [(0, .ref c0), (1, .int a1)] [] σ (0, 0)) : K_X2_readsEither_r4 l V c0 a1 σ Qk :=
  Ka_of (by decide +kernel) rfl rfl (Nat.le_of_ble_eq_true rfl) (fun M h1 h2 h3 C => h M h1 h2 h3 (by rw [h2]; exact C))
set_option maxRecDepth 100000 in
set_option maxHeartbeats 4000000 in
theorem s_X2_readsEither_r4_0 {M : Mx} {Qk : Int32 → Sg → Prop} (C : Cx M cX2_readsEither (some .boolean) RX2 wsX2_readsEither (rmz 8) 0 0 (QI (mV M) Qk)) (hN : mN M = 3) {c0 : Nat} {a1 : Int32} (hc0 : kd c0 = (12, 0)) (lc0 : c0 ∈ ids (mV M)) {σ : Sg} (h : K_X2_readsBoth_r4 (mL M) (mV M) c0 a1 σ (fun r2 σ1 => ((¬ r2 = 0 → PS M 12 [(0, .ref c0), (1, .int a1), (2, .int (0 : Int32))] [] σ1 (0, 0)) ∧ (r2 = 0 → Qk (0 : Int32) σ1)))) : PS M 0 [(0, .ref c0), (1, .int a1)] [] σ (0, 0) := by
  refine P_aload_n C dX2_readsEither_0 0 rfl ?_
  refine P_iload_n C dX2_readsEither_1 1 rfl ?_
  refine P_ci (R_v (ci := 2) C kv_X2_readsEither_r4_X2_readsBoth_r4 (As := [.int a1]) rfl hc0 rfl lc0 (Nat.le_of_ble_eq_true rfl) dX2_readsEither_2 ⟨Nat.le_refl _, Nat.le_refl _⟩ h) (fun r2 σ1 h => ?_)
  refine P_if_ne C dX2_readsEither_5 (tgt := 10) (by decide +kernel) (fun q3 => ?_) (fun q3 => ?_)
  · have h := h.1 q3
    refine P_iconst C dX2_readsEither_10 (v := (0 : Int32)) rfl ?_
    refine P_istore_n C dX2_readsEither_11 (by rw [hN]; decide) rfl ?_
    exact P_sub [1, 2, 0] rfl h
  · have h := h.2 q3
    refine P_iconst C dX2_readsEither_8 (v := (0 : Int32)) rfl ?_
    exact P_zret C (by decide +kernel) dX2_readsEither_9 h
set_option maxRecDepth 100000 in
set_option maxHeartbeats 4000000 in
theorem s_X2_readsEither_r4_12 {M : Mx} {Qk : Int32 → Sg → Prop} (C : Cx M cX2_readsEither (some .boolean) RX2 wsX2_readsEither (rmz 8) 0 0 (QI (mV M) Qk)) (hN : mN M = 3) {x0 : Nat} {x1 : Int32} {x2 : Int32} (hx0 : kd x0 = (12, 0)) (lx0 : x0 ∈ ids (mV M)) {σ : Sg} (h : (((100 : Int32) ≤ x2 → Qk (1 : Int32) σ) ∧ (¬ (100 : Int32) ≤ x2 → K_X2_takes (mL M) (mV M) x0 (124 : Int32) σ (fun r3 σ2 => ((r3 = 0 → Qk (1 : Int32) σ2) ∧ (¬ r3 = 0 → K_X2_readsBoth_r4 (mL M) (mV M) x0 x1 σ2 (fun r6 σ5 => ((¬ r6 = 0 → K_X2_writes (mL M) (mV M) x0 (-3 : Int32) σ5 (fun σ8 => (∀ v9 : Int32, v9 = x2 + 1 → PS M 12 [(0, .ref x0), (1, .int x1), (2, .int v9)] [] σ8 (0, 0)))) ∧ (r6 = 0 → Qk (0 : Int32) σ5))))))))) : PS M 12 [(0, .ref x0), (1, .int x1), (2, .int x2)] [] σ (0, 0) := by
  refine P_iload_n C dX2_readsEither_12 2 rfl ?_
  refine P_bipush C dX2_readsEither_13 (v := (100 : Int32)) rfl ?_
  refine P_icmp_ge C dX2_readsEither_15 (tgt := 49) (by decide +kernel) (fun q1 => ?_) (fun q1 => ?_)
  · have h := h.1 q1
    refine P_iconst C dX2_readsEither_49 (v := (1 : Int32)) rfl ?_
    exact P_zret C (by decide +kernel) dX2_readsEither_50 h
  · have h := h.2 q1
    refine P_aload_n C dX2_readsEither_18 0 rfl ?_
    refine P_bipush C dX2_readsEither_19 (v := (124 : Int32)) rfl ?_
    refine P_ci (R_v (ci := 2) C kv_X2_readsEither_r4_X2_takes (As := [.int (124 : Int32)]) rfl hx0 rfl lx0 (Nat.le_of_ble_eq_true rfl) dX2_readsEither_21 ⟨Nat.le_refl _, Nat.le_refl _⟩ h) (fun r3 σ2 h => ?_)
    refine P_if_eq C dX2_readsEither_24 (tgt := 49) (by decide +kernel) (fun q4 => ?_) (fun q4 => ?_)
    · have h := h.1 q4
      refine P_iconst C dX2_readsEither_49 (v := (1 : Int32)) rfl ?_
      exact P_zret C (by decide +kernel) dX2_readsEither_50 h
    · have h := h.2 q4
      refine P_aload_n C dX2_readsEither_27 0 rfl ?_
      refine P_iload_n C dX2_readsEither_28 1 rfl ?_
      refine P_ci (R_v (ci := 2) C kv_X2_readsEither_r4_X2_readsBoth_r4 (As := [.int x1]) rfl hx0 rfl lx0 (Nat.le_of_ble_eq_true rfl) dX2_readsEither_29 ⟨Nat.le_refl _, Nat.le_refl _⟩ h) (fun r6 σ5 h => ?_)
      refine P_if_ne C dX2_readsEither_32 (tgt := 37) (by decide +kernel) (fun q7 => ?_) (fun q7 => ?_)
      · have h := h.1 q7
        refine P_aload_n C dX2_readsEither_37 0 rfl ?_
        refine P_bipush C dX2_readsEither_38 (v := (-3 : Int32)) rfl ?_
        refine P_cv (R_v (ci := 2) C kv_X2_readsEither_r4_X2_writes (As := [.int (-3 : Int32)]) rfl hx0 rfl lx0 (Nat.le_of_ble_eq_true rfl) dX2_readsEither_40 ⟨Nat.le_refl _, Nat.le_refl _⟩ h) (fun σ8 h => ?_)
        obtain ⟨v9, ev9⟩ : ∃ v : Int32, v = x2 + 1 := ⟨_, rfl⟩
        have h := h v9 ev9
        refine P_iinc (v := v9) C dX2_readsEither_43 2 rfl (by rw [ev9]; rfl) (by rw [hN]; decide) rfl ?_
        refine P_goto C dX2_readsEither_46 (tgt := 12) (by decide +kernel) ?_
        exact P_sub [1, 2, 0] rfl h
      · have h := h.2 q7
        refine P_iconst C dX2_readsEither_35 (v := (0 : Int32)) rfl ?_
        exact P_zret C (by decide +kernel) dX2_readsEither_36 h
theorem kv_X2_readsPart_r3_X2_takes : KV RX2 wsX2_readsPart (rmz 9) 60 RX2 yX2_takes wsX2_takes (rmz 1) 1 := ⟨_, _, _, _, gX2_readsPart_X2_takes, rfl, by decide +kernel, by decide +kernel⟩
theorem kv_X2_readsPart_r3_X2_readsPart_r4 : KV RX2 wsX2_readsPart (rmz 9) 117 RX2 yX2_readsPart wsX2_readsPart (rmz 6) 1 := ⟨_, _, _, _, gX2_readsPart_X2_readsPart, rfl, by decide +kernel, by decide +kernel⟩
theorem kv_X2_readsPart_r3_X2_writes : KV RX2 wsX2_readsPart (rmz 9) 113 RX2 yX2_writes wsX2_writes (rmz 0) 1 := ⟨_, _, _, _, gX2_readsPart_X2_writes, rfl, by decide +kernel, by decide +kernel⟩
theorem kv_X2_readsPart_r3_X2_readsTest : KV RX2 wsX2_readsPart (rmz 9) 120 RX2 yX2_readsTest wsX2_readsTest (rmz 5) 0 := ⟨_, _, _, _, gX2_readsPart_X2_readsTest, rfl, by decide +kernel, by decide +kernel⟩
theorem kv_X2_readsPart_r3_X2_readsEither_r4 : KV RX2 wsX2_readsPart (rmz 9) 78 RX2 yX2_readsEither wsX2_readsEither (rmz 8) 1 := ⟨_, _, _, _, gX2_readsPart_X2_readsEither, rfl, by decide +kernel, by decide +kernel⟩
noncomputable def K_X2_readsPart_r3 (l : Launch) (V : Vx) (c0 : Nat) (a1 : Int32) (σ : Sg) (Qk : Int32 → Sg → Prop) : Prop := Ka l V yX2_readsPart wsX2_readsPart (rmz 9) 0 0 [.ref c0, .int a1] σ (QI V Qk)
theorem e_X2_readsPart_r3 {l : Launch} {V : Vx} {c0 : Nat} {a1 : Int32} {σ : Sg} {Qk : Int32 → Sg → Prop} (h : ∀ M : Mx, mL M = l → mV M = V → mN M = 2 → Cx M cX2_readsPart (some .boolean) RX2 wsX2_readsPart (rmz 9) 0 0 (QI (mV M) Qk) → PS M 0 [(0, .ref c0), (1, .int a1)] [] σ (0, 0)) : K_X2_readsPart_r3 l V c0 a1 σ Qk :=
  Ka_of (by decide +kernel) rfl rfl (Nat.le_of_ble_eq_true rfl) (fun M h1 h2 h3 C => h M h1 h2 h3 (by rw [h2]; exact C))
set_option maxRecDepth 100000 in
set_option maxHeartbeats 4000000 in
theorem s_X2_readsPart_r3_0 {M : Mx} {Qk : Int32 → Sg → Prop} (C : Cx M cX2_readsPart (some .boolean) RX2 wsX2_readsPart (rmz 9) 0 0 (QI (mV M) Qk)) (hN : mN M = 2) {c0 : Nat} {a1 : Int32} (hc0 : kd c0 = (12, 0)) (lc0 : c0 ∈ ids (mV M)) {σ : Sg} (h : (((4 : Int32) ≤ a1 → PS M 33 [(0, .ref c0), (1, .int a1)] [] σ (0, 0)) ∧ (¬ (4 : Int32) ≤ a1 → K_X2_takes (mL M) (mV M) c0 (33 : Int32) σ (fun r3 σ2 => ((r3 = 0 → PS M 33 [(0, .ref c0), (1, .int a1)] [] σ2 (0, 0)) ∧ (¬ r3 = 0 → K_X2_readsPart_r4 (mL M) (mV M) c0 (a1 + (1 : Int32)) σ2 (fun r6 σ5 => ((¬ r6 = 0 → K_X2_writes (mL M) (mV M) c0 (-1 : Int32) σ5 (fun σ8 => Qk (1 : Int32) σ8)) ∧ (r6 = 0 → Qk (0 : Int32) σ5))))))))) : PS M 0 [(0, .ref c0), (1, .int a1)] [] σ (0, 0) := by
  refine P_iload_n C dX2_readsPart_0 1 rfl ?_
  refine P_iconst C dX2_readsPart_1 (v := (4 : Int32)) rfl ?_
  refine P_icmp_ge C dX2_readsPart_2 (tgt := 33) (by decide +kernel) (fun q1 => ?_) (fun q1 => ?_)
  · have h := h.1 q1
    exact P_sub [0, 1] rfl h
  · have h := h.2 q1
    refine P_aload_n C dX2_readsPart_5 0 rfl ?_
    refine P_bipush C dX2_readsPart_6 (v := (33 : Int32)) rfl ?_
    refine P_ci (R_v (ci := 2) C kv_X2_readsPart_r3_X2_takes (As := [.int (33 : Int32)]) rfl hc0 rfl lc0 (Nat.le_of_ble_eq_true rfl) dX2_readsPart_8 ⟨Nat.le_refl _, Nat.le_refl _⟩ h) (fun r3 σ2 h => ?_)
    refine P_if_eq C dX2_readsPart_11 (tgt := 33) (by decide +kernel) (fun q4 => ?_) (fun q4 => ?_)
    · have h := h.1 q4
      exact P_sub [0, 1] rfl h
    · have h := h.2 q4
      refine P_aload_n C dX2_readsPart_14 0 rfl ?_
      refine P_iload_n C dX2_readsPart_15 1 rfl ?_
      refine P_iconst C dX2_readsPart_16 (v := (1 : Int32)) rfl ?_
      refine P_iadd C dX2_readsPart_17 ?_
      refine P_ci (R_v (ci := 2) C kv_X2_readsPart_r3_X2_readsPart_r4 (As := [.int (a1 + (1 : Int32))]) rfl hc0 rfl lc0 (Nat.le_of_ble_eq_true rfl) dX2_readsPart_18 ⟨Nat.le_refl _, Nat.le_refl _⟩ h) (fun r6 σ5 h => ?_)
      refine P_if_ne C dX2_readsPart_21 (tgt := 26) (by decide +kernel) (fun q7 => ?_) (fun q7 => ?_)
      · have h := h.1 q7
        refine P_aload_n C dX2_readsPart_26 0 rfl ?_
        refine P_iconst C dX2_readsPart_27 (v := (-1 : Int32)) rfl ?_
        refine P_cv (R_v (ci := 2) C kv_X2_readsPart_r3_X2_writes (As := [.int (-1 : Int32)]) rfl hc0 rfl lc0 (Nat.le_of_ble_eq_true rfl) dX2_readsPart_28 ⟨Nat.le_refl _, Nat.le_refl _⟩ h) (fun σ8 h => ?_)
        refine P_iconst C dX2_readsPart_31 (v := (1 : Int32)) rfl ?_
        exact P_zret C (by decide +kernel) dX2_readsPart_32 h
      · have h := h.2 q7
        refine P_iconst C dX2_readsPart_24 (v := (0 : Int32)) rfl ?_
        exact P_zret C (by decide +kernel) dX2_readsPart_25 h
set_option maxRecDepth 100000 in
set_option maxHeartbeats 4000000 in
theorem s_X2_readsPart_r3_33 {M : Mx} {Qk : Int32 → Sg → Prop} (C : Cx M cX2_readsPart (some .boolean) RX2 wsX2_readsPart (rmz 9) 0 0 (QI (mV M) Qk)) (hN : mN M = 2) {x0 : Nat} {x1 : Int32} (hx0 : kd x0 = (12, 0)) (lx0 : x0 ∈ ids (mV M)) {σ : Sg} (h : (((4 : Int32) ≤ x1 → K_X2_readsTest (mL M) (mV M) x0 σ (fun r3 σ2 => (narrow .boolean (.int r3) = .int r3 ∧ Qk r3 σ2))) ∧ (¬ (4 : Int32) ≤ x1 → K_X2_takes (mL M) (mV M) x0 (40 : Int32) σ (fun r5 σ4 => ((r5 = 0 → K_X2_readsTest (mL M) (mV M) x0 σ4 (fun r8 σ7 => (narrow .boolean (.int r8) = .int r8 ∧ Qk r8 σ7))) ∧ (¬ r5 = 0 → K_X2_readsEither_r4 (mL M) (mV M) x0 (x1 + (1 : Int32)) σ4 (fun r10 σ9 => ((r10 = 0 → Qk (0 : Int32) σ9) ∧ (¬ r10 = 0 → K_X2_takes (mL M) (mV M) x0 (41 : Int32) σ9 (fun r13 σ12 => ((r13 = 0 → Qk (0 : Int32) σ12) ∧ (¬ r13 = 0 → Qk (1 : Int32) σ12)))))))))))) : PS M 33 [(0, .ref x0), (1, .int x1)] [] σ (0, 0) := by
  refine P_iload_n C dX2_readsPart_33 1 rfl ?_
  refine P_iconst C dX2_readsPart_34 (v := (4 : Int32)) rfl ?_
  refine P_icmp_ge C dX2_readsPart_35 (tgt := 72) (by decide +kernel) (fun q1 => ?_) (fun q1 => ?_)
  · have h := h.1 q1
    refine P_aload_n C dX2_readsPart_72 0 rfl ?_
    refine P_ci (R_v (ci := 2) C kv_X2_readsPart_r3_X2_readsTest (As := []) rfl hx0 rfl lx0 (Nat.le_of_ble_eq_true rfl) dX2_readsPart_73 ⟨Nat.le_refl _, Nat.le_refl _⟩ h) (fun r3 σ2 h => ?_)
    exact P_zret C h.1 dX2_readsPart_76 h.2
  · have h := h.2 q1
    refine P_aload_n C dX2_readsPart_38 0 rfl ?_
    refine P_bipush C dX2_readsPart_39 (v := (40 : Int32)) rfl ?_
    refine P_ci (R_v (ci := 2) C kv_X2_readsPart_r3_X2_takes (As := [.int (40 : Int32)]) rfl hx0 rfl lx0 (Nat.le_of_ble_eq_true rfl) dX2_readsPart_41 ⟨Nat.le_refl _, Nat.le_refl _⟩ h) (fun r5 σ4 h => ?_)
    refine P_if_eq C dX2_readsPart_44 (tgt := 72) (by decide +kernel) (fun q6 => ?_) (fun q6 => ?_)
    · have h := h.1 q6
      refine P_aload_n C dX2_readsPart_72 0 rfl ?_
      refine P_ci (R_v (ci := 2) C kv_X2_readsPart_r3_X2_readsTest (As := []) rfl hx0 rfl lx0 (Nat.le_of_ble_eq_true rfl) dX2_readsPart_73 ⟨Nat.le_refl _, Nat.le_refl _⟩ h) (fun r8 σ7 h => ?_)
      exact P_zret C h.1 dX2_readsPart_76 h.2
    · have h := h.2 q6
      refine P_aload_n C dX2_readsPart_47 0 rfl ?_
      refine P_iload_n C dX2_readsPart_48 1 rfl ?_
      refine P_iconst C dX2_readsPart_49 (v := (1 : Int32)) rfl ?_
      refine P_iadd C dX2_readsPart_50 ?_
      refine P_ci (R_v (ci := 2) C kv_X2_readsPart_r3_X2_readsEither_r4 (As := [.int (x1 + (1 : Int32))]) rfl hx0 rfl lx0 (Nat.le_of_ble_eq_true rfl) dX2_readsPart_51 ⟨Nat.le_refl _, Nat.le_refl _⟩ h) (fun r10 σ9 h => ?_)
      refine P_if_eq C dX2_readsPart_54 (tgt := 70) (by decide +kernel) (fun q11 => ?_) (fun q11 => ?_)
      · have h := h.1 q11
        refine P_iconst C dX2_readsPart_70 (v := (0 : Int32)) rfl ?_
        exact P_zret C (by decide +kernel) dX2_readsPart_71 h
      · have h := h.2 q11
        refine P_aload_n C dX2_readsPart_57 0 rfl ?_
        refine P_bipush C dX2_readsPart_58 (v := (41 : Int32)) rfl ?_
        refine P_ci (R_v (ci := 2) C kv_X2_readsPart_r3_X2_takes (As := [.int (41 : Int32)]) rfl hx0 rfl lx0 (Nat.le_of_ble_eq_true rfl) dX2_readsPart_60 ⟨Nat.le_refl _, Nat.le_refl _⟩ h) (fun r13 σ12 h => ?_)
        refine P_if_eq C dX2_readsPart_63 (tgt := 70) (by decide +kernel) (fun q14 => ?_) (fun q14 => ?_)
        · have h := h.1 q14
          refine P_iconst C dX2_readsPart_70 (v := (0 : Int32)) rfl ?_
          exact P_zret C (by decide +kernel) dX2_readsPart_71 h
        · have h := h.2 q14
          refine P_iconst C dX2_readsPart_66 (v := (1 : Int32)) rfl ?_
          refine P_goto C dX2_readsPart_67 (tgt := 71) (by decide +kernel) ?_
          exact P_zret C (by decide +kernel) dX2_readsPart_71 h
theorem kv_X2_readsBoth_r3_X2_readsPart_r3 : KV RX2 wsX2_readsBoth (rmz 10) 117 RX2 yX2_readsPart wsX2_readsPart (rmz 9) 1 := ⟨_, _, _, _, gX2_readsBoth_X2_readsPart, rfl, by decide +kernel, by decide +kernel⟩
theorem kv_X2_readsBoth_r3_X2_takes : KV RX2 wsX2_readsBoth (rmz 10) 60 RX2 yX2_takes wsX2_takes (rmz 1) 1 := ⟨_, _, _, _, gX2_readsBoth_X2_takes, rfl, by decide +kernel, by decide +kernel⟩
theorem kv_X2_readsBoth_r3_X2_writes : KV RX2 wsX2_readsBoth (rmz 10) 113 RX2 yX2_writes wsX2_writes (rmz 0) 1 := ⟨_, _, _, _, gX2_readsBoth_X2_writes, rfl, by decide +kernel, by decide +kernel⟩
noncomputable def K_X2_readsBoth_r3 (l : Launch) (V : Vx) (c0 : Nat) (a1 : Int32) (σ : Sg) (Qk : Int32 → Sg → Prop) : Prop := Ka l V yX2_readsBoth wsX2_readsBoth (rmz 10) 0 0 [.ref c0, .int a1] σ (QI V Qk)
theorem e_X2_readsBoth_r3 {l : Launch} {V : Vx} {c0 : Nat} {a1 : Int32} {σ : Sg} {Qk : Int32 → Sg → Prop} (h : ∀ M : Mx, mL M = l → mV M = V → mN M = 3 → Cx M cX2_readsBoth (some .boolean) RX2 wsX2_readsBoth (rmz 10) 0 0 (QI (mV M) Qk) → PS M 0 [(0, .ref c0), (1, .int a1)] [] σ (0, 0)) : K_X2_readsBoth_r3 l V c0 a1 σ Qk :=
  Ka_of (by decide +kernel) rfl rfl (Nat.le_of_ble_eq_true rfl) (fun M h1 h2 h3 C => h M h1 h2 h3 (by rw [h2]; exact C))
set_option maxRecDepth 100000 in
set_option maxHeartbeats 4000000 in
theorem s_X2_readsBoth_r3_0 {M : Mx} {Qk : Int32 → Sg → Prop} (C : Cx M cX2_readsBoth (some .boolean) RX2 wsX2_readsBoth (rmz 10) 0 0 (QI (mV M) Qk)) (hN : mN M = 3) {c0 : Nat} {a1 : Int32} (hc0 : kd c0 = (12, 0)) (lc0 : c0 ∈ ids (mV M)) {σ : Sg} (h : K_X2_readsPart_r3 (mL M) (mV M) c0 a1 σ (fun r2 σ1 => ((¬ r2 = 0 → PS M 12 [(0, .ref c0), (1, .int a1), (2, .int (0 : Int32))] [] σ1 (0, 0)) ∧ (r2 = 0 → Qk (0 : Int32) σ1)))) : PS M 0 [(0, .ref c0), (1, .int a1)] [] σ (0, 0) := by
  refine P_aload_n C dX2_readsBoth_0 0 rfl ?_
  refine P_iload_n C dX2_readsBoth_1 1 rfl ?_
  refine P_ci (R_v (ci := 2) C kv_X2_readsBoth_r3_X2_readsPart_r3 (As := [.int a1]) rfl hc0 rfl lc0 (Nat.le_of_ble_eq_true rfl) dX2_readsBoth_2 ⟨Nat.le_refl _, Nat.le_refl _⟩ h) (fun r2 σ1 h => ?_)
  refine P_if_ne C dX2_readsBoth_5 (tgt := 10) (by decide +kernel) (fun q3 => ?_) (fun q3 => ?_)
  · have h := h.1 q3
    refine P_iconst C dX2_readsBoth_10 (v := (0 : Int32)) rfl ?_
    refine P_istore_n C dX2_readsBoth_11 (by rw [hN]; decide) rfl ?_
    exact P_sub [1, 2, 0] rfl h
  · have h := h.2 q3
    refine P_iconst C dX2_readsBoth_8 (v := (0 : Int32)) rfl ?_
    exact P_zret C (by decide +kernel) dX2_readsBoth_9 h
set_option maxRecDepth 100000 in
set_option maxHeartbeats 4000000 in
theorem s_X2_readsBoth_r3_12 {M : Mx} {Qk : Int32 → Sg → Prop} (C : Cx M cX2_readsBoth (some .boolean) RX2 wsX2_readsBoth (rmz 10) 0 0 (QI (mV M) Qk)) (hN : mN M = 3) {x0 : Nat} {x1 : Int32} {x2 : Int32} (hx0 : kd x0 = (12, 0)) (lx0 : x0 ∈ ids (mV M)) {σ : Sg} (h : (((100 : Int32) ≤ x2 → Qk (1 : Int32) σ) ∧ (¬ (100 : Int32) ≤ x2 → K_X2_takes (mL M) (mV M) x0 (38 : Int32) σ (fun r3 σ2 => ((r3 = 0 → Qk (1 : Int32) σ2) ∧ (¬ r3 = 0 → K_X2_readsPart_r3 (mL M) (mV M) x0 x1 σ2 (fun r6 σ5 => ((¬ r6 = 0 → K_X2_writes (mL M) (mV M) x0 (-2 : Int32) σ5 (fun σ8 => (∀ v9 : Int32, v9 = x2 + 1 → PS M 12 [(0, .ref x0), (1, .int x1), (2, .int v9)] [] σ8 (0, 0)))) ∧ (r6 = 0 → Qk (0 : Int32) σ5))))))))) : PS M 12 [(0, .ref x0), (1, .int x1), (2, .int x2)] [] σ (0, 0) := by
  refine P_iload_n C dX2_readsBoth_12 2 rfl ?_
  refine P_bipush C dX2_readsBoth_13 (v := (100 : Int32)) rfl ?_
  refine P_icmp_ge C dX2_readsBoth_15 (tgt := 49) (by decide +kernel) (fun q1 => ?_) (fun q1 => ?_)
  · have h := h.1 q1
    refine P_iconst C dX2_readsBoth_49 (v := (1 : Int32)) rfl ?_
    exact P_zret C (by decide +kernel) dX2_readsBoth_50 h
  · have h := h.2 q1
    refine P_aload_n C dX2_readsBoth_18 0 rfl ?_
    refine P_bipush C dX2_readsBoth_19 (v := (38 : Int32)) rfl ?_
    refine P_ci (R_v (ci := 2) C kv_X2_readsBoth_r3_X2_takes (As := [.int (38 : Int32)]) rfl hx0 rfl lx0 (Nat.le_of_ble_eq_true rfl) dX2_readsBoth_21 ⟨Nat.le_refl _, Nat.le_refl _⟩ h) (fun r3 σ2 h => ?_)
    refine P_if_eq C dX2_readsBoth_24 (tgt := 49) (by decide +kernel) (fun q4 => ?_) (fun q4 => ?_)
    · have h := h.1 q4
      refine P_iconst C dX2_readsBoth_49 (v := (1 : Int32)) rfl ?_
      exact P_zret C (by decide +kernel) dX2_readsBoth_50 h
    · have h := h.2 q4
      refine P_aload_n C dX2_readsBoth_27 0 rfl ?_
      refine P_iload_n C dX2_readsBoth_28 1 rfl ?_
      refine P_ci (R_v (ci := 2) C kv_X2_readsBoth_r3_X2_readsPart_r3 (As := [.int x1]) rfl hx0 rfl lx0 (Nat.le_of_ble_eq_true rfl) dX2_readsBoth_29 ⟨Nat.le_refl _, Nat.le_refl _⟩ h) (fun r6 σ5 h => ?_)
      refine P_if_ne C dX2_readsBoth_32 (tgt := 37) (by decide +kernel) (fun q7 => ?_) (fun q7 => ?_)
      · have h := h.1 q7
        refine P_aload_n C dX2_readsBoth_37 0 rfl ?_
        refine P_bipush C dX2_readsBoth_38 (v := (-2 : Int32)) rfl ?_
        refine P_cv (R_v (ci := 2) C kv_X2_readsBoth_r3_X2_writes (As := [.int (-2 : Int32)]) rfl hx0 rfl lx0 (Nat.le_of_ble_eq_true rfl) dX2_readsBoth_40 ⟨Nat.le_refl _, Nat.le_refl _⟩ h) (fun σ8 h => ?_)
        obtain ⟨v9, ev9⟩ : ∃ v : Int32, v = x2 + 1 := ⟨_, rfl⟩
        have h := h v9 ev9
        refine P_iinc (v := v9) C dX2_readsBoth_43 2 rfl (by rw [ev9]; rfl) (by rw [hN]; decide) rfl ?_
        refine P_goto C dX2_readsBoth_46 (tgt := 12) (by decide +kernel) ?_
        exact P_sub [1, 2, 0] rfl h
      · have h := h.2 q7
        refine P_iconst C dX2_readsBoth_35 (v := (0 : Int32)) rfl ?_
        exact P_zret C (by decide +kernel) dX2_readsBoth_36 h
theorem kv_X2_readsEither_r3_X2_readsBoth_r3 : KV RX2 wsX2_readsEither (rmz 11) 110 RX2 yX2_readsBoth wsX2_readsBoth (rmz 10) 1 := ⟨_, _, _, _, gX2_readsEither_X2_readsBoth, rfl, by decide +kernel, by decide +kernel⟩
theorem kv_X2_readsEither_r3_X2_takes : KV RX2 wsX2_readsEither (rmz 11) 60 RX2 yX2_takes wsX2_takes (rmz 1) 1 := ⟨_, _, _, _, gX2_readsEither_X2_takes, rfl, by decide +kernel, by decide +kernel⟩
theorem kv_X2_readsEither_r3_X2_writes : KV RX2 wsX2_readsEither (rmz 11) 113 RX2 yX2_writes wsX2_writes (rmz 0) 1 := ⟨_, _, _, _, gX2_readsEither_X2_writes, rfl, by decide +kernel, by decide +kernel⟩
noncomputable def K_X2_readsEither_r3 (l : Launch) (V : Vx) (c0 : Nat) (a1 : Int32) (σ : Sg) (Qk : Int32 → Sg → Prop) : Prop := Ka l V yX2_readsEither wsX2_readsEither (rmz 11) 0 0 [.ref c0, .int a1] σ (QI V Qk)
theorem e_X2_readsEither_r3 {l : Launch} {V : Vx} {c0 : Nat} {a1 : Int32} {σ : Sg} {Qk : Int32 → Sg → Prop} (h : ∀ M : Mx, mL M = l → mV M = V → mN M = 3 → Cx M cX2_readsEither (some .boolean) RX2 wsX2_readsEither (rmz 11) 0 0 (QI (mV M) Qk) → PS M 0 [(0, .ref c0), (1, .int a1)] [] σ (0, 0)) : K_X2_readsEither_r3 l V c0 a1 σ Qk :=
  Ka_of (by decide +kernel) rfl rfl (Nat.le_of_ble_eq_true rfl) (fun M h1 h2 h3 C => h M h1 h2 h3 (by rw [h2]; exact C))
set_option maxRecDepth 100000 in
set_option maxHeartbeats 4000000 in
theorem s_X2_readsEither_r3_0 {M : Mx} {Qk : Int32 → Sg → Prop} (C : Cx M cX2_readsEither (some .boolean) RX2 wsX2_readsEither (rmz 11) 0 0 (QI (mV M) Qk)) (hN : mN M = 3) {c0 : Nat} {a1 : Int32} (hc0 : kd c0 = (12, 0)) (lc0 : c0 ∈ ids (mV M)) {σ : Sg} (h : K_X2_readsBoth_r3 (mL M) (mV M) c0 a1 σ (fun r2 σ1 => ((¬ r2 = 0 → PS M 12 [(0, .ref c0), (1, .int a1), (2, .int (0 : Int32))] [] σ1 (0, 0)) ∧ (r2 = 0 → Qk (0 : Int32) σ1)))) : PS M 0 [(0, .ref c0), (1, .int a1)] [] σ (0, 0) := by
  refine P_aload_n C dX2_readsEither_0 0 rfl ?_
  refine P_iload_n C dX2_readsEither_1 1 rfl ?_
  refine P_ci (R_v (ci := 2) C kv_X2_readsEither_r3_X2_readsBoth_r3 (As := [.int a1]) rfl hc0 rfl lc0 (Nat.le_of_ble_eq_true rfl) dX2_readsEither_2 ⟨Nat.le_refl _, Nat.le_refl _⟩ h) (fun r2 σ1 h => ?_)
  refine P_if_ne C dX2_readsEither_5 (tgt := 10) (by decide +kernel) (fun q3 => ?_) (fun q3 => ?_)
  · have h := h.1 q3
    refine P_iconst C dX2_readsEither_10 (v := (0 : Int32)) rfl ?_
    refine P_istore_n C dX2_readsEither_11 (by rw [hN]; decide) rfl ?_
    exact P_sub [1, 2, 0] rfl h
  · have h := h.2 q3
    refine P_iconst C dX2_readsEither_8 (v := (0 : Int32)) rfl ?_
    exact P_zret C (by decide +kernel) dX2_readsEither_9 h
set_option maxRecDepth 100000 in
set_option maxHeartbeats 4000000 in
theorem s_X2_readsEither_r3_12 {M : Mx} {Qk : Int32 → Sg → Prop} (C : Cx M cX2_readsEither (some .boolean) RX2 wsX2_readsEither (rmz 11) 0 0 (QI (mV M) Qk)) (hN : mN M = 3) {x0 : Nat} {x1 : Int32} {x2 : Int32} (hx0 : kd x0 = (12, 0)) (lx0 : x0 ∈ ids (mV M)) {σ : Sg} (h : (((100 : Int32) ≤ x2 → Qk (1 : Int32) σ) ∧ (¬ (100 : Int32) ≤ x2 → K_X2_takes (mL M) (mV M) x0 (124 : Int32) σ (fun r3 σ2 => ((r3 = 0 → Qk (1 : Int32) σ2) ∧ (¬ r3 = 0 → K_X2_readsBoth_r3 (mL M) (mV M) x0 x1 σ2 (fun r6 σ5 => ((¬ r6 = 0 → K_X2_writes (mL M) (mV M) x0 (-3 : Int32) σ5 (fun σ8 => (∀ v9 : Int32, v9 = x2 + 1 → PS M 12 [(0, .ref x0), (1, .int x1), (2, .int v9)] [] σ8 (0, 0)))) ∧ (r6 = 0 → Qk (0 : Int32) σ5))))))))) : PS M 12 [(0, .ref x0), (1, .int x1), (2, .int x2)] [] σ (0, 0) := by
  refine P_iload_n C dX2_readsEither_12 2 rfl ?_
  refine P_bipush C dX2_readsEither_13 (v := (100 : Int32)) rfl ?_
  refine P_icmp_ge C dX2_readsEither_15 (tgt := 49) (by decide +kernel) (fun q1 => ?_) (fun q1 => ?_)
  · have h := h.1 q1
    refine P_iconst C dX2_readsEither_49 (v := (1 : Int32)) rfl ?_
    exact P_zret C (by decide +kernel) dX2_readsEither_50 h
  · have h := h.2 q1
    refine P_aload_n C dX2_readsEither_18 0 rfl ?_
    refine P_bipush C dX2_readsEither_19 (v := (124 : Int32)) rfl ?_
    refine P_ci (R_v (ci := 2) C kv_X2_readsEither_r3_X2_takes (As := [.int (124 : Int32)]) rfl hx0 rfl lx0 (Nat.le_of_ble_eq_true rfl) dX2_readsEither_21 ⟨Nat.le_refl _, Nat.le_refl _⟩ h) (fun r3 σ2 h => ?_)
    refine P_if_eq C dX2_readsEither_24 (tgt := 49) (by decide +kernel) (fun q4 => ?_) (fun q4 => ?_)
    · have h := h.1 q4
      refine P_iconst C dX2_readsEither_49 (v := (1 : Int32)) rfl ?_
      exact P_zret C (by decide +kernel) dX2_readsEither_50 h
    · have h := h.2 q4
      refine P_aload_n C dX2_readsEither_27 0 rfl ?_
      refine P_iload_n C dX2_readsEither_28 1 rfl ?_
      refine P_ci (R_v (ci := 2) C kv_X2_readsEither_r3_X2_readsBoth_r3 (As := [.int x1]) rfl hx0 rfl lx0 (Nat.le_of_ble_eq_true rfl) dX2_readsEither_29 ⟨Nat.le_refl _, Nat.le_refl _⟩ h) (fun r6 σ5 h => ?_)
      refine P_if_ne C dX2_readsEither_32 (tgt := 37) (by decide +kernel) (fun q7 => ?_) (fun q7 => ?_)
      · have h := h.1 q7
        refine P_aload_n C dX2_readsEither_37 0 rfl ?_
        refine P_bipush C dX2_readsEither_38 (v := (-3 : Int32)) rfl ?_
        refine P_cv (R_v (ci := 2) C kv_X2_readsEither_r3_X2_writes (As := [.int (-3 : Int32)]) rfl hx0 rfl lx0 (Nat.le_of_ble_eq_true rfl) dX2_readsEither_40 ⟨Nat.le_refl _, Nat.le_refl _⟩ h) (fun σ8 h => ?_)
        obtain ⟨v9, ev9⟩ : ∃ v : Int32, v = x2 + 1 := ⟨_, rfl⟩
        have h := h v9 ev9
        refine P_iinc (v := v9) C dX2_readsEither_43 2 rfl (by rw [ev9]; rfl) (by rw [hN]; decide) rfl ?_
        refine P_goto C dX2_readsEither_46 (tgt := 12) (by decide +kernel) ?_
        exact P_sub [1, 2, 0] rfl h
      · have h := h.2 q7
        refine P_iconst C dX2_readsEither_35 (v := (0 : Int32)) rfl ?_
        exact P_zret C (by decide +kernel) dX2_readsEither_36 h
theorem kv_X2_readsPart_r2_X2_takes : KV RX2 wsX2_readsPart (rmz 12) 60 RX2 yX2_takes wsX2_takes (rmz 1) 1 := ⟨_, _, _, _, gX2_readsPart_X2_takes, rfl, by decide +kernel, by decide +kernel⟩
theorem kv_X2_readsPart_r2_X2_readsPart_r3 : KV RX2 wsX2_readsPart (rmz 12) 117 RX2 yX2_readsPart wsX2_readsPart (rmz 9) 1 := ⟨_, _, _, _, gX2_readsPart_X2_readsPart, rfl, by decide +kernel, by decide +kernel⟩
theorem kv_X2_readsPart_r2_X2_writes : KV RX2 wsX2_readsPart (rmz 12) 113 RX2 yX2_writes wsX2_writes (rmz 0) 1 := ⟨_, _, _, _, gX2_readsPart_X2_writes, rfl, by decide +kernel, by decide +kernel⟩
theorem kv_X2_readsPart_r2_X2_readsTest : KV RX2 wsX2_readsPart (rmz 12) 120 RX2 yX2_readsTest wsX2_readsTest (rmz 5) 0 := ⟨_, _, _, _, gX2_readsPart_X2_readsTest, rfl, by decide +kernel, by decide +kernel⟩
theorem kv_X2_readsPart_r2_X2_readsEither_r3 : KV RX2 wsX2_readsPart (rmz 12) 78 RX2 yX2_readsEither wsX2_readsEither (rmz 11) 1 := ⟨_, _, _, _, gX2_readsPart_X2_readsEither, rfl, by decide +kernel, by decide +kernel⟩
noncomputable def K_X2_readsPart_r2 (l : Launch) (V : Vx) (c0 : Nat) (a1 : Int32) (σ : Sg) (Qk : Int32 → Sg → Prop) : Prop := Ka l V yX2_readsPart wsX2_readsPart (rmz 12) 0 0 [.ref c0, .int a1] σ (QI V Qk)
theorem e_X2_readsPart_r2 {l : Launch} {V : Vx} {c0 : Nat} {a1 : Int32} {σ : Sg} {Qk : Int32 → Sg → Prop} (h : ∀ M : Mx, mL M = l → mV M = V → mN M = 2 → Cx M cX2_readsPart (some .boolean) RX2 wsX2_readsPart (rmz 12) 0 0 (QI (mV M) Qk) → PS M 0 [(0, .ref c0), (1, .int a1)] [] σ (0, 0)) : K_X2_readsPart_r2 l V c0 a1 σ Qk :=
  Ka_of (by decide +kernel) rfl rfl (Nat.le_of_ble_eq_true rfl) (fun M h1 h2 h3 C => h M h1 h2 h3 (by rw [h2]; exact C))
set_option maxRecDepth 100000 in
set_option maxHeartbeats 4000000 in
theorem s_X2_readsPart_r2_0 {M : Mx} {Qk : Int32 → Sg → Prop} (C : Cx M cX2_readsPart (some .boolean) RX2 wsX2_readsPart (rmz 12) 0 0 (QI (mV M) Qk)) (hN : mN M = 2) {c0 : Nat} {a1 : Int32} (hc0 : kd c0 = (12, 0)) (lc0 : c0 ∈ ids (mV M)) {σ : Sg} (h : (((4 : Int32) ≤ a1 → PS M 33 [(0, .ref c0), (1, .int a1)] [] σ (0, 0)) ∧ (¬ (4 : Int32) ≤ a1 → K_X2_takes (mL M) (mV M) c0 (33 : Int32) σ (fun r3 σ2 => ((r3 = 0 → PS M 33 [(0, .ref c0), (1, .int a1)] [] σ2 (0, 0)) ∧ (¬ r3 = 0 → K_X2_readsPart_r3 (mL M) (mV M) c0 (a1 + (1 : Int32)) σ2 (fun r6 σ5 => ((¬ r6 = 0 → K_X2_writes (mL M) (mV M) c0 (-1 : Int32) σ5 (fun σ8 => Qk (1 : Int32) σ8)) ∧ (r6 = 0 → Qk (0 : Int32) σ5))))))))) : PS M 0 [(0, .ref c0), (1, .int a1)] [] σ (0, 0) := by
  refine P_iload_n C dX2_readsPart_0 1 rfl ?_
  refine P_iconst C dX2_readsPart_1 (v := (4 : Int32)) rfl ?_
  refine P_icmp_ge C dX2_readsPart_2 (tgt := 33) (by decide +kernel) (fun q1 => ?_) (fun q1 => ?_)
  · have h := h.1 q1
    exact P_sub [0, 1] rfl h
  · have h := h.2 q1
    refine P_aload_n C dX2_readsPart_5 0 rfl ?_
    refine P_bipush C dX2_readsPart_6 (v := (33 : Int32)) rfl ?_
    refine P_ci (R_v (ci := 2) C kv_X2_readsPart_r2_X2_takes (As := [.int (33 : Int32)]) rfl hc0 rfl lc0 (Nat.le_of_ble_eq_true rfl) dX2_readsPart_8 ⟨Nat.le_refl _, Nat.le_refl _⟩ h) (fun r3 σ2 h => ?_)
    refine P_if_eq C dX2_readsPart_11 (tgt := 33) (by decide +kernel) (fun q4 => ?_) (fun q4 => ?_)
    · have h := h.1 q4
      exact P_sub [0, 1] rfl h
    · have h := h.2 q4
      refine P_aload_n C dX2_readsPart_14 0 rfl ?_
      refine P_iload_n C dX2_readsPart_15 1 rfl ?_
      refine P_iconst C dX2_readsPart_16 (v := (1 : Int32)) rfl ?_
      refine P_iadd C dX2_readsPart_17 ?_
      refine P_ci (R_v (ci := 2) C kv_X2_readsPart_r2_X2_readsPart_r3 (As := [.int (a1 + (1 : Int32))]) rfl hc0 rfl lc0 (Nat.le_of_ble_eq_true rfl) dX2_readsPart_18 ⟨Nat.le_refl _, Nat.le_refl _⟩ h) (fun r6 σ5 h => ?_)
      refine P_if_ne C dX2_readsPart_21 (tgt := 26) (by decide +kernel) (fun q7 => ?_) (fun q7 => ?_)
      · have h := h.1 q7
        refine P_aload_n C dX2_readsPart_26 0 rfl ?_
        refine P_iconst C dX2_readsPart_27 (v := (-1 : Int32)) rfl ?_
        refine P_cv (R_v (ci := 2) C kv_X2_readsPart_r2_X2_writes (As := [.int (-1 : Int32)]) rfl hc0 rfl lc0 (Nat.le_of_ble_eq_true rfl) dX2_readsPart_28 ⟨Nat.le_refl _, Nat.le_refl _⟩ h) (fun σ8 h => ?_)
        refine P_iconst C dX2_readsPart_31 (v := (1 : Int32)) rfl ?_
        exact P_zret C (by decide +kernel) dX2_readsPart_32 h
      · have h := h.2 q7
        refine P_iconst C dX2_readsPart_24 (v := (0 : Int32)) rfl ?_
        exact P_zret C (by decide +kernel) dX2_readsPart_25 h
set_option maxRecDepth 100000 in
set_option maxHeartbeats 4000000 in
theorem s_X2_readsPart_r2_33 {M : Mx} {Qk : Int32 → Sg → Prop} (C : Cx M cX2_readsPart (some .boolean) RX2 wsX2_readsPart (rmz 12) 0 0 (QI (mV M) Qk)) (hN : mN M = 2) {x0 : Nat} {x1 : Int32} (hx0 : kd x0 = (12, 0)) (lx0 : x0 ∈ ids (mV M)) {σ : Sg} (h : (((4 : Int32) ≤ x1 → K_X2_readsTest (mL M) (mV M) x0 σ (fun r3 σ2 => (narrow .boolean (.int r3) = .int r3 ∧ Qk r3 σ2))) ∧ (¬ (4 : Int32) ≤ x1 → K_X2_takes (mL M) (mV M) x0 (40 : Int32) σ (fun r5 σ4 => ((r5 = 0 → K_X2_readsTest (mL M) (mV M) x0 σ4 (fun r8 σ7 => (narrow .boolean (.int r8) = .int r8 ∧ Qk r8 σ7))) ∧ (¬ r5 = 0 → K_X2_readsEither_r3 (mL M) (mV M) x0 (x1 + (1 : Int32)) σ4 (fun r10 σ9 => ((r10 = 0 → Qk (0 : Int32) σ9) ∧ (¬ r10 = 0 → K_X2_takes (mL M) (mV M) x0 (41 : Int32) σ9 (fun r13 σ12 => ((r13 = 0 → Qk (0 : Int32) σ12) ∧ (¬ r13 = 0 → Qk (1 : Int32) σ12)))))))))))) : PS M 33 [(0, .ref x0), (1, .int x1)] [] σ (0, 0) := by
  refine P_iload_n C dX2_readsPart_33 1 rfl ?_
  refine P_iconst C dX2_readsPart_34 (v := (4 : Int32)) rfl ?_
  refine P_icmp_ge C dX2_readsPart_35 (tgt := 72) (by decide +kernel) (fun q1 => ?_) (fun q1 => ?_)
  · have h := h.1 q1
    refine P_aload_n C dX2_readsPart_72 0 rfl ?_
    refine P_ci (R_v (ci := 2) C kv_X2_readsPart_r2_X2_readsTest (As := []) rfl hx0 rfl lx0 (Nat.le_of_ble_eq_true rfl) dX2_readsPart_73 ⟨Nat.le_refl _, Nat.le_refl _⟩ h) (fun r3 σ2 h => ?_)
    exact P_zret C h.1 dX2_readsPart_76 h.2
  · have h := h.2 q1
    refine P_aload_n C dX2_readsPart_38 0 rfl ?_
    refine P_bipush C dX2_readsPart_39 (v := (40 : Int32)) rfl ?_
    refine P_ci (R_v (ci := 2) C kv_X2_readsPart_r2_X2_takes (As := [.int (40 : Int32)]) rfl hx0 rfl lx0 (Nat.le_of_ble_eq_true rfl) dX2_readsPart_41 ⟨Nat.le_refl _, Nat.le_refl _⟩ h) (fun r5 σ4 h => ?_)
    refine P_if_eq C dX2_readsPart_44 (tgt := 72) (by decide +kernel) (fun q6 => ?_) (fun q6 => ?_)
    · have h := h.1 q6
      refine P_aload_n C dX2_readsPart_72 0 rfl ?_
      refine P_ci (R_v (ci := 2) C kv_X2_readsPart_r2_X2_readsTest (As := []) rfl hx0 rfl lx0 (Nat.le_of_ble_eq_true rfl) dX2_readsPart_73 ⟨Nat.le_refl _, Nat.le_refl _⟩ h) (fun r8 σ7 h => ?_)
      exact P_zret C h.1 dX2_readsPart_76 h.2
    · have h := h.2 q6
      refine P_aload_n C dX2_readsPart_47 0 rfl ?_
      refine P_iload_n C dX2_readsPart_48 1 rfl ?_
      refine P_iconst C dX2_readsPart_49 (v := (1 : Int32)) rfl ?_
      refine P_iadd C dX2_readsPart_50 ?_
      refine P_ci (R_v (ci := 2) C kv_X2_readsPart_r2_X2_readsEither_r3 (As := [.int (x1 + (1 : Int32))]) rfl hx0 rfl lx0 (Nat.le_of_ble_eq_true rfl) dX2_readsPart_51 ⟨Nat.le_refl _, Nat.le_refl _⟩ h) (fun r10 σ9 h => ?_)
      refine P_if_eq C dX2_readsPart_54 (tgt := 70) (by decide +kernel) (fun q11 => ?_) (fun q11 => ?_)
      · have h := h.1 q11
        refine P_iconst C dX2_readsPart_70 (v := (0 : Int32)) rfl ?_
        exact P_zret C (by decide +kernel) dX2_readsPart_71 h
      · have h := h.2 q11
        refine P_aload_n C dX2_readsPart_57 0 rfl ?_
        refine P_bipush C dX2_readsPart_58 (v := (41 : Int32)) rfl ?_
        refine P_ci (R_v (ci := 2) C kv_X2_readsPart_r2_X2_takes (As := [.int (41 : Int32)]) rfl hx0 rfl lx0 (Nat.le_of_ble_eq_true rfl) dX2_readsPart_60 ⟨Nat.le_refl _, Nat.le_refl _⟩ h) (fun r13 σ12 h => ?_)
        refine P_if_eq C dX2_readsPart_63 (tgt := 70) (by decide +kernel) (fun q14 => ?_) (fun q14 => ?_)
        · have h := h.1 q14
          refine P_iconst C dX2_readsPart_70 (v := (0 : Int32)) rfl ?_
          exact P_zret C (by decide +kernel) dX2_readsPart_71 h
        · have h := h.2 q14
          refine P_iconst C dX2_readsPart_66 (v := (1 : Int32)) rfl ?_
          refine P_goto C dX2_readsPart_67 (tgt := 71) (by decide +kernel) ?_
          exact P_zret C (by decide +kernel) dX2_readsPart_71 h
theorem kv_X2_readsBoth_r2_X2_readsPart_r2 : KV RX2 wsX2_readsBoth (rmz 13) 117 RX2 yX2_readsPart wsX2_readsPart (rmz 12) 1 := ⟨_, _, _, _, gX2_readsBoth_X2_readsPart, rfl, by decide +kernel, by decide +kernel⟩
theorem kv_X2_readsBoth_r2_X2_takes : KV RX2 wsX2_readsBoth (rmz 13) 60 RX2 yX2_takes wsX2_takes (rmz 1) 1 := ⟨_, _, _, _, gX2_readsBoth_X2_takes, rfl, by decide +kernel, by decide +kernel⟩
theorem kv_X2_readsBoth_r2_X2_writes : KV RX2 wsX2_readsBoth (rmz 13) 113 RX2 yX2_writes wsX2_writes (rmz 0) 1 := ⟨_, _, _, _, gX2_readsBoth_X2_writes, rfl, by decide +kernel, by decide +kernel⟩
noncomputable def K_X2_readsBoth_r2 (l : Launch) (V : Vx) (c0 : Nat) (a1 : Int32) (σ : Sg) (Qk : Int32 → Sg → Prop) : Prop := Ka l V yX2_readsBoth wsX2_readsBoth (rmz 13) 0 0 [.ref c0, .int a1] σ (QI V Qk)
theorem e_X2_readsBoth_r2 {l : Launch} {V : Vx} {c0 : Nat} {a1 : Int32} {σ : Sg} {Qk : Int32 → Sg → Prop} (h : ∀ M : Mx, mL M = l → mV M = V → mN M = 3 → Cx M cX2_readsBoth (some .boolean) RX2 wsX2_readsBoth (rmz 13) 0 0 (QI (mV M) Qk) → PS M 0 [(0, .ref c0), (1, .int a1)] [] σ (0, 0)) : K_X2_readsBoth_r2 l V c0 a1 σ Qk :=
  Ka_of (by decide +kernel) rfl rfl (Nat.le_of_ble_eq_true rfl) (fun M h1 h2 h3 C => h M h1 h2 h3 (by rw [h2]; exact C))
set_option maxRecDepth 100000 in
set_option maxHeartbeats 4000000 in
theorem s_X2_readsBoth_r2_0 {M : Mx} {Qk : Int32 → Sg → Prop} (C : Cx M cX2_readsBoth (some .boolean) RX2 wsX2_readsBoth (rmz 13) 0 0 (QI (mV M) Qk)) (hN : mN M = 3) {c0 : Nat} {a1 : Int32} (hc0 : kd c0 = (12, 0)) (lc0 : c0 ∈ ids (mV M)) {σ : Sg} (h : K_X2_readsPart_r2 (mL M) (mV M) c0 a1 σ (fun r2 σ1 => ((¬ r2 = 0 → PS M 12 [(0, .ref c0), (1, .int a1), (2, .int (0 : Int32))] [] σ1 (0, 0)) ∧ (r2 = 0 → Qk (0 : Int32) σ1)))) : PS M 0 [(0, .ref c0), (1, .int a1)] [] σ (0, 0) := by
  refine P_aload_n C dX2_readsBoth_0 0 rfl ?_
  refine P_iload_n C dX2_readsBoth_1 1 rfl ?_
  refine P_ci (R_v (ci := 2) C kv_X2_readsBoth_r2_X2_readsPart_r2 (As := [.int a1]) rfl hc0 rfl lc0 (Nat.le_of_ble_eq_true rfl) dX2_readsBoth_2 ⟨Nat.le_refl _, Nat.le_refl _⟩ h) (fun r2 σ1 h => ?_)
  refine P_if_ne C dX2_readsBoth_5 (tgt := 10) (by decide +kernel) (fun q3 => ?_) (fun q3 => ?_)
  · have h := h.1 q3
    refine P_iconst C dX2_readsBoth_10 (v := (0 : Int32)) rfl ?_
    refine P_istore_n C dX2_readsBoth_11 (by rw [hN]; decide) rfl ?_
    exact P_sub [1, 2, 0] rfl h
  · have h := h.2 q3
    refine P_iconst C dX2_readsBoth_8 (v := (0 : Int32)) rfl ?_
    exact P_zret C (by decide +kernel) dX2_readsBoth_9 h
set_option maxRecDepth 100000 in
set_option maxHeartbeats 4000000 in
theorem s_X2_readsBoth_r2_12 {M : Mx} {Qk : Int32 → Sg → Prop} (C : Cx M cX2_readsBoth (some .boolean) RX2 wsX2_readsBoth (rmz 13) 0 0 (QI (mV M) Qk)) (hN : mN M = 3) {x0 : Nat} {x1 : Int32} {x2 : Int32} (hx0 : kd x0 = (12, 0)) (lx0 : x0 ∈ ids (mV M)) {σ : Sg} (h : (((100 : Int32) ≤ x2 → Qk (1 : Int32) σ) ∧ (¬ (100 : Int32) ≤ x2 → K_X2_takes (mL M) (mV M) x0 (38 : Int32) σ (fun r3 σ2 => ((r3 = 0 → Qk (1 : Int32) σ2) ∧ (¬ r3 = 0 → K_X2_readsPart_r2 (mL M) (mV M) x0 x1 σ2 (fun r6 σ5 => ((¬ r6 = 0 → K_X2_writes (mL M) (mV M) x0 (-2 : Int32) σ5 (fun σ8 => (∀ v9 : Int32, v9 = x2 + 1 → PS M 12 [(0, .ref x0), (1, .int x1), (2, .int v9)] [] σ8 (0, 0)))) ∧ (r6 = 0 → Qk (0 : Int32) σ5))))))))) : PS M 12 [(0, .ref x0), (1, .int x1), (2, .int x2)] [] σ (0, 0) := by
  refine P_iload_n C dX2_readsBoth_12 2 rfl ?_
  refine P_bipush C dX2_readsBoth_13 (v := (100 : Int32)) rfl ?_
  refine P_icmp_ge C dX2_readsBoth_15 (tgt := 49) (by decide +kernel) (fun q1 => ?_) (fun q1 => ?_)
  · have h := h.1 q1
    refine P_iconst C dX2_readsBoth_49 (v := (1 : Int32)) rfl ?_
    exact P_zret C (by decide +kernel) dX2_readsBoth_50 h
  · have h := h.2 q1
    refine P_aload_n C dX2_readsBoth_18 0 rfl ?_
    refine P_bipush C dX2_readsBoth_19 (v := (38 : Int32)) rfl ?_
    refine P_ci (R_v (ci := 2) C kv_X2_readsBoth_r2_X2_takes (As := [.int (38 : Int32)]) rfl hx0 rfl lx0 (Nat.le_of_ble_eq_true rfl) dX2_readsBoth_21 ⟨Nat.le_refl _, Nat.le_refl _⟩ h) (fun r3 σ2 h => ?_)
    refine P_if_eq C dX2_readsBoth_24 (tgt := 49) (by decide +kernel) (fun q4 => ?_) (fun q4 => ?_)
    · have h := h.1 q4
      refine P_iconst C dX2_readsBoth_49 (v := (1 : Int32)) rfl ?_
      exact P_zret C (by decide +kernel) dX2_readsBoth_50 h
    · have h := h.2 q4
      refine P_aload_n C dX2_readsBoth_27 0 rfl ?_
      refine P_iload_n C dX2_readsBoth_28 1 rfl ?_
      refine P_ci (R_v (ci := 2) C kv_X2_readsBoth_r2_X2_readsPart_r2 (As := [.int x1]) rfl hx0 rfl lx0 (Nat.le_of_ble_eq_true rfl) dX2_readsBoth_29 ⟨Nat.le_refl _, Nat.le_refl _⟩ h) (fun r6 σ5 h => ?_)
      refine P_if_ne C dX2_readsBoth_32 (tgt := 37) (by decide +kernel) (fun q7 => ?_) (fun q7 => ?_)
      · have h := h.1 q7
        refine P_aload_n C dX2_readsBoth_37 0 rfl ?_
        refine P_bipush C dX2_readsBoth_38 (v := (-2 : Int32)) rfl ?_
        refine P_cv (R_v (ci := 2) C kv_X2_readsBoth_r2_X2_writes (As := [.int (-2 : Int32)]) rfl hx0 rfl lx0 (Nat.le_of_ble_eq_true rfl) dX2_readsBoth_40 ⟨Nat.le_refl _, Nat.le_refl _⟩ h) (fun σ8 h => ?_)
        obtain ⟨v9, ev9⟩ : ∃ v : Int32, v = x2 + 1 := ⟨_, rfl⟩
        have h := h v9 ev9
        refine P_iinc (v := v9) C dX2_readsBoth_43 2 rfl (by rw [ev9]; rfl) (by rw [hN]; decide) rfl ?_
        refine P_goto C dX2_readsBoth_46 (tgt := 12) (by decide +kernel) ?_
        exact P_sub [1, 2, 0] rfl h
      · have h := h.2 q7
        refine P_iconst C dX2_readsBoth_35 (v := (0 : Int32)) rfl ?_
        exact P_zret C (by decide +kernel) dX2_readsBoth_36 h
theorem kv_X2_readsEither_r2_X2_readsBoth_r2 : KV RX2 wsX2_readsEither (rmz 14) 110 RX2 yX2_readsBoth wsX2_readsBoth (rmz 13) 1 := ⟨_, _, _, _, gX2_readsEither_X2_readsBoth, rfl, by decide +kernel, by decide +kernel⟩
theorem kv_X2_readsEither_r2_X2_takes : KV RX2 wsX2_readsEither (rmz 14) 60 RX2 yX2_takes wsX2_takes (rmz 1) 1 := ⟨_, _, _, _, gX2_readsEither_X2_takes, rfl, by decide +kernel, by decide +kernel⟩
theorem kv_X2_readsEither_r2_X2_writes : KV RX2 wsX2_readsEither (rmz 14) 113 RX2 yX2_writes wsX2_writes (rmz 0) 1 := ⟨_, _, _, _, gX2_readsEither_X2_writes, rfl, by decide +kernel, by decide +kernel⟩
noncomputable def K_X2_readsEither_r2 (l : Launch) (V : Vx) (c0 : Nat) (a1 : Int32) (σ : Sg) (Qk : Int32 → Sg → Prop) : Prop := Ka l V yX2_readsEither wsX2_readsEither (rmz 14) 0 0 [.ref c0, .int a1] σ (QI V Qk)
theorem e_X2_readsEither_r2 {l : Launch} {V : Vx} {c0 : Nat} {a1 : Int32} {σ : Sg} {Qk : Int32 → Sg → Prop} (h : ∀ M : Mx, mL M = l → mV M = V → mN M = 3 → Cx M cX2_readsEither (some .boolean) RX2 wsX2_readsEither (rmz 14) 0 0 (QI (mV M) Qk) → PS M 0 [(0, .ref c0), (1, .int a1)] [] σ (0, 0)) : K_X2_readsEither_r2 l V c0 a1 σ Qk :=
  Ka_of (by decide +kernel) rfl rfl (Nat.le_of_ble_eq_true rfl) (fun M h1 h2 h3 C => h M h1 h2 h3 (by rw [h2]; exact C))
set_option maxRecDepth 100000 in
set_option maxHeartbeats 4000000 in
theorem s_X2_readsEither_r2_0 {M : Mx} {Qk : Int32 → Sg → Prop} (C : Cx M cX2_readsEither (some .boolean) RX2 wsX2_readsEither (rmz 14) 0 0 (QI (mV M) Qk)) (hN : mN M = 3) {c0 : Nat} {a1 : Int32} (hc0 : kd c0 = (12, 0)) (lc0 : c0 ∈ ids (mV M)) {σ : Sg} (h : K_X2_readsBoth_r2 (mL M) (mV M) c0 a1 σ (fun r2 σ1 => ((¬ r2 = 0 → PS M 12 [(0, .ref c0), (1, .int a1), (2, .int (0 : Int32))] [] σ1 (0, 0)) ∧ (r2 = 0 → Qk (0 : Int32) σ1)))) : PS M 0 [(0, .ref c0), (1, .int a1)] [] σ (0, 0) := by
  refine P_aload_n C dX2_readsEither_0 0 rfl ?_
  refine P_iload_n C dX2_readsEither_1 1 rfl ?_
  refine P_ci (R_v (ci := 2) C kv_X2_readsEither_r2_X2_readsBoth_r2 (As := [.int a1]) rfl hc0 rfl lc0 (Nat.le_of_ble_eq_true rfl) dX2_readsEither_2 ⟨Nat.le_refl _, Nat.le_refl _⟩ h) (fun r2 σ1 h => ?_)
  refine P_if_ne C dX2_readsEither_5 (tgt := 10) (by decide +kernel) (fun q3 => ?_) (fun q3 => ?_)
  · have h := h.1 q3
    refine P_iconst C dX2_readsEither_10 (v := (0 : Int32)) rfl ?_
    refine P_istore_n C dX2_readsEither_11 (by rw [hN]; decide) rfl ?_
    exact P_sub [1, 2, 0] rfl h
  · have h := h.2 q3
    refine P_iconst C dX2_readsEither_8 (v := (0 : Int32)) rfl ?_
    exact P_zret C (by decide +kernel) dX2_readsEither_9 h
set_option maxRecDepth 100000 in
set_option maxHeartbeats 4000000 in
theorem s_X2_readsEither_r2_12 {M : Mx} {Qk : Int32 → Sg → Prop} (C : Cx M cX2_readsEither (some .boolean) RX2 wsX2_readsEither (rmz 14) 0 0 (QI (mV M) Qk)) (hN : mN M = 3) {x0 : Nat} {x1 : Int32} {x2 : Int32} (hx0 : kd x0 = (12, 0)) (lx0 : x0 ∈ ids (mV M)) {σ : Sg} (h : (((100 : Int32) ≤ x2 → Qk (1 : Int32) σ) ∧ (¬ (100 : Int32) ≤ x2 → K_X2_takes (mL M) (mV M) x0 (124 : Int32) σ (fun r3 σ2 => ((r3 = 0 → Qk (1 : Int32) σ2) ∧ (¬ r3 = 0 → K_X2_readsBoth_r2 (mL M) (mV M) x0 x1 σ2 (fun r6 σ5 => ((¬ r6 = 0 → K_X2_writes (mL M) (mV M) x0 (-3 : Int32) σ5 (fun σ8 => (∀ v9 : Int32, v9 = x2 + 1 → PS M 12 [(0, .ref x0), (1, .int x1), (2, .int v9)] [] σ8 (0, 0)))) ∧ (r6 = 0 → Qk (0 : Int32) σ5))))))))) : PS M 12 [(0, .ref x0), (1, .int x1), (2, .int x2)] [] σ (0, 0) := by
  refine P_iload_n C dX2_readsEither_12 2 rfl ?_
  refine P_bipush C dX2_readsEither_13 (v := (100 : Int32)) rfl ?_
  refine P_icmp_ge C dX2_readsEither_15 (tgt := 49) (by decide +kernel) (fun q1 => ?_) (fun q1 => ?_)
  · have h := h.1 q1
    refine P_iconst C dX2_readsEither_49 (v := (1 : Int32)) rfl ?_
    exact P_zret C (by decide +kernel) dX2_readsEither_50 h
  · have h := h.2 q1
    refine P_aload_n C dX2_readsEither_18 0 rfl ?_
    refine P_bipush C dX2_readsEither_19 (v := (124 : Int32)) rfl ?_
    refine P_ci (R_v (ci := 2) C kv_X2_readsEither_r2_X2_takes (As := [.int (124 : Int32)]) rfl hx0 rfl lx0 (Nat.le_of_ble_eq_true rfl) dX2_readsEither_21 ⟨Nat.le_refl _, Nat.le_refl _⟩ h) (fun r3 σ2 h => ?_)
    refine P_if_eq C dX2_readsEither_24 (tgt := 49) (by decide +kernel) (fun q4 => ?_) (fun q4 => ?_)
    · have h := h.1 q4
      refine P_iconst C dX2_readsEither_49 (v := (1 : Int32)) rfl ?_
      exact P_zret C (by decide +kernel) dX2_readsEither_50 h
    · have h := h.2 q4
      refine P_aload_n C dX2_readsEither_27 0 rfl ?_
      refine P_iload_n C dX2_readsEither_28 1 rfl ?_
      refine P_ci (R_v (ci := 2) C kv_X2_readsEither_r2_X2_readsBoth_r2 (As := [.int x1]) rfl hx0 rfl lx0 (Nat.le_of_ble_eq_true rfl) dX2_readsEither_29 ⟨Nat.le_refl _, Nat.le_refl _⟩ h) (fun r6 σ5 h => ?_)
      refine P_if_ne C dX2_readsEither_32 (tgt := 37) (by decide +kernel) (fun q7 => ?_) (fun q7 => ?_)
      · have h := h.1 q7
        refine P_aload_n C dX2_readsEither_37 0 rfl ?_
        refine P_bipush C dX2_readsEither_38 (v := (-3 : Int32)) rfl ?_
        refine P_cv (R_v (ci := 2) C kv_X2_readsEither_r2_X2_writes (As := [.int (-3 : Int32)]) rfl hx0 rfl lx0 (Nat.le_of_ble_eq_true rfl) dX2_readsEither_40 ⟨Nat.le_refl _, Nat.le_refl _⟩ h) (fun σ8 h => ?_)
        obtain ⟨v9, ev9⟩ : ∃ v : Int32, v = x2 + 1 := ⟨_, rfl⟩
        have h := h v9 ev9
        refine P_iinc (v := v9) C dX2_readsEither_43 2 rfl (by rw [ev9]; rfl) (by rw [hN]; decide) rfl ?_
        refine P_goto C dX2_readsEither_46 (tgt := 12) (by decide +kernel) ?_
        exact P_sub [1, 2, 0] rfl h
      · have h := h.2 q7
        refine P_iconst C dX2_readsEither_35 (v := (0 : Int32)) rfl ?_
        exact P_zret C (by decide +kernel) dX2_readsEither_36 h
theorem kv_X2_readsPart_r1_X2_takes : KV RX2 wsX2_readsPart (rmz 15) 60 RX2 yX2_takes wsX2_takes (rmz 1) 1 := ⟨_, _, _, _, gX2_readsPart_X2_takes, rfl, by decide +kernel, by decide +kernel⟩
theorem kv_X2_readsPart_r1_X2_readsPart_r2 : KV RX2 wsX2_readsPart (rmz 15) 117 RX2 yX2_readsPart wsX2_readsPart (rmz 12) 1 := ⟨_, _, _, _, gX2_readsPart_X2_readsPart, rfl, by decide +kernel, by decide +kernel⟩
theorem kv_X2_readsPart_r1_X2_writes : KV RX2 wsX2_readsPart (rmz 15) 113 RX2 yX2_writes wsX2_writes (rmz 0) 1 := ⟨_, _, _, _, gX2_readsPart_X2_writes, rfl, by decide +kernel, by decide +kernel⟩
theorem kv_X2_readsPart_r1_X2_readsTest : KV RX2 wsX2_readsPart (rmz 15) 120 RX2 yX2_readsTest wsX2_readsTest (rmz 5) 0 := ⟨_, _, _, _, gX2_readsPart_X2_readsTest, rfl, by decide +kernel, by decide +kernel⟩
theorem kv_X2_readsPart_r1_X2_readsEither_r2 : KV RX2 wsX2_readsPart (rmz 15) 78 RX2 yX2_readsEither wsX2_readsEither (rmz 14) 1 := ⟨_, _, _, _, gX2_readsPart_X2_readsEither, rfl, by decide +kernel, by decide +kernel⟩
noncomputable def K_X2_readsPart_r1 (l : Launch) (V : Vx) (c0 : Nat) (a1 : Int32) (σ : Sg) (Qk : Int32 → Sg → Prop) : Prop := Ka l V yX2_readsPart wsX2_readsPart (rmz 15) 0 0 [.ref c0, .int a1] σ (QI V Qk)
theorem e_X2_readsPart_r1 {l : Launch} {V : Vx} {c0 : Nat} {a1 : Int32} {σ : Sg} {Qk : Int32 → Sg → Prop} (h : ∀ M : Mx, mL M = l → mV M = V → mN M = 2 → Cx M cX2_readsPart (some .boolean) RX2 wsX2_readsPart (rmz 15) 0 0 (QI (mV M) Qk) → PS M 0 [(0, .ref c0), (1, .int a1)] [] σ (0, 0)) : K_X2_readsPart_r1 l V c0 a1 σ Qk :=
  Ka_of (by decide +kernel) rfl rfl (Nat.le_of_ble_eq_true rfl) (fun M h1 h2 h3 C => h M h1 h2 h3 (by rw [h2]; exact C))
set_option maxRecDepth 100000 in
set_option maxHeartbeats 4000000 in
theorem s_X2_readsPart_r1_0 {M : Mx} {Qk : Int32 → Sg → Prop} (C : Cx M cX2_readsPart (some .boolean) RX2 wsX2_readsPart (rmz 15) 0 0 (QI (mV M) Qk)) (hN : mN M = 2) {c0 : Nat} {a1 : Int32} (hc0 : kd c0 = (12, 0)) (lc0 : c0 ∈ ids (mV M)) {σ : Sg} (h : (((4 : Int32) ≤ a1 → PS M 33 [(0, .ref c0), (1, .int a1)] [] σ (0, 0)) ∧ (¬ (4 : Int32) ≤ a1 → K_X2_takes (mL M) (mV M) c0 (33 : Int32) σ (fun r3 σ2 => ((r3 = 0 → PS M 33 [(0, .ref c0), (1, .int a1)] [] σ2 (0, 0)) ∧ (¬ r3 = 0 → K_X2_readsPart_r2 (mL M) (mV M) c0 (a1 + (1 : Int32)) σ2 (fun r6 σ5 => ((¬ r6 = 0 → K_X2_writes (mL M) (mV M) c0 (-1 : Int32) σ5 (fun σ8 => Qk (1 : Int32) σ8)) ∧ (r6 = 0 → Qk (0 : Int32) σ5))))))))) : PS M 0 [(0, .ref c0), (1, .int a1)] [] σ (0, 0) := by
  refine P_iload_n C dX2_readsPart_0 1 rfl ?_
  refine P_iconst C dX2_readsPart_1 (v := (4 : Int32)) rfl ?_
  refine P_icmp_ge C dX2_readsPart_2 (tgt := 33) (by decide +kernel) (fun q1 => ?_) (fun q1 => ?_)
  · have h := h.1 q1
    exact P_sub [0, 1] rfl h
  · have h := h.2 q1
    refine P_aload_n C dX2_readsPart_5 0 rfl ?_
    refine P_bipush C dX2_readsPart_6 (v := (33 : Int32)) rfl ?_
    refine P_ci (R_v (ci := 2) C kv_X2_readsPart_r1_X2_takes (As := [.int (33 : Int32)]) rfl hc0 rfl lc0 (Nat.le_of_ble_eq_true rfl) dX2_readsPart_8 ⟨Nat.le_refl _, Nat.le_refl _⟩ h) (fun r3 σ2 h => ?_)
    refine P_if_eq C dX2_readsPart_11 (tgt := 33) (by decide +kernel) (fun q4 => ?_) (fun q4 => ?_)
    · have h := h.1 q4
      exact P_sub [0, 1] rfl h
    · have h := h.2 q4
      refine P_aload_n C dX2_readsPart_14 0 rfl ?_
      refine P_iload_n C dX2_readsPart_15 1 rfl ?_
      refine P_iconst C dX2_readsPart_16 (v := (1 : Int32)) rfl ?_
      refine P_iadd C dX2_readsPart_17 ?_
      refine P_ci (R_v (ci := 2) C kv_X2_readsPart_r1_X2_readsPart_r2 (As := [.int (a1 + (1 : Int32))]) rfl hc0 rfl lc0 (Nat.le_of_ble_eq_true rfl) dX2_readsPart_18 ⟨Nat.le_refl _, Nat.le_refl _⟩ h) (fun r6 σ5 h => ?_)
      refine P_if_ne C dX2_readsPart_21 (tgt := 26) (by decide +kernel) (fun q7 => ?_) (fun q7 => ?_)
      · have h := h.1 q7
        refine P_aload_n C dX2_readsPart_26 0 rfl ?_
        refine P_iconst C dX2_readsPart_27 (v := (-1 : Int32)) rfl ?_
        refine P_cv (R_v (ci := 2) C kv_X2_readsPart_r1_X2_writes (As := [.int (-1 : Int32)]) rfl hc0 rfl lc0 (Nat.le_of_ble_eq_true rfl) dX2_readsPart_28 ⟨Nat.le_refl _, Nat.le_refl _⟩ h) (fun σ8 h => ?_)
        refine P_iconst C dX2_readsPart_31 (v := (1 : Int32)) rfl ?_
        exact P_zret C (by decide +kernel) dX2_readsPart_32 h
      · have h := h.2 q7
        refine P_iconst C dX2_readsPart_24 (v := (0 : Int32)) rfl ?_
        exact P_zret C (by decide +kernel) dX2_readsPart_25 h
set_option maxRecDepth 100000 in
set_option maxHeartbeats 4000000 in
theorem s_X2_readsPart_r1_33 {M : Mx} {Qk : Int32 → Sg → Prop} (C : Cx M cX2_readsPart (some .boolean) RX2 wsX2_readsPart (rmz 15) 0 0 (QI (mV M) Qk)) (hN : mN M = 2) {x0 : Nat} {x1 : Int32} (hx0 : kd x0 = (12, 0)) (lx0 : x0 ∈ ids (mV M)) {σ : Sg} (h : (((4 : Int32) ≤ x1 → K_X2_readsTest (mL M) (mV M) x0 σ (fun r3 σ2 => (narrow .boolean (.int r3) = .int r3 ∧ Qk r3 σ2))) ∧ (¬ (4 : Int32) ≤ x1 → K_X2_takes (mL M) (mV M) x0 (40 : Int32) σ (fun r5 σ4 => ((r5 = 0 → K_X2_readsTest (mL M) (mV M) x0 σ4 (fun r8 σ7 => (narrow .boolean (.int r8) = .int r8 ∧ Qk r8 σ7))) ∧ (¬ r5 = 0 → K_X2_readsEither_r2 (mL M) (mV M) x0 (x1 + (1 : Int32)) σ4 (fun r10 σ9 => ((r10 = 0 → Qk (0 : Int32) σ9) ∧ (¬ r10 = 0 → K_X2_takes (mL M) (mV M) x0 (41 : Int32) σ9 (fun r13 σ12 => ((r13 = 0 → Qk (0 : Int32) σ12) ∧ (¬ r13 = 0 → Qk (1 : Int32) σ12)))))))))))) : PS M 33 [(0, .ref x0), (1, .int x1)] [] σ (0, 0) := by
  refine P_iload_n C dX2_readsPart_33 1 rfl ?_
  refine P_iconst C dX2_readsPart_34 (v := (4 : Int32)) rfl ?_
  refine P_icmp_ge C dX2_readsPart_35 (tgt := 72) (by decide +kernel) (fun q1 => ?_) (fun q1 => ?_)
  · have h := h.1 q1
    refine P_aload_n C dX2_readsPart_72 0 rfl ?_
    refine P_ci (R_v (ci := 2) C kv_X2_readsPart_r1_X2_readsTest (As := []) rfl hx0 rfl lx0 (Nat.le_of_ble_eq_true rfl) dX2_readsPart_73 ⟨Nat.le_refl _, Nat.le_refl _⟩ h) (fun r3 σ2 h => ?_)
    exact P_zret C h.1 dX2_readsPart_76 h.2
  · have h := h.2 q1
    refine P_aload_n C dX2_readsPart_38 0 rfl ?_
    refine P_bipush C dX2_readsPart_39 (v := (40 : Int32)) rfl ?_
    refine P_ci (R_v (ci := 2) C kv_X2_readsPart_r1_X2_takes (As := [.int (40 : Int32)]) rfl hx0 rfl lx0 (Nat.le_of_ble_eq_true rfl) dX2_readsPart_41 ⟨Nat.le_refl _, Nat.le_refl _⟩ h) (fun r5 σ4 h => ?_)
    refine P_if_eq C dX2_readsPart_44 (tgt := 72) (by decide +kernel) (fun q6 => ?_) (fun q6 => ?_)
    · have h := h.1 q6
      refine P_aload_n C dX2_readsPart_72 0 rfl ?_
      refine P_ci (R_v (ci := 2) C kv_X2_readsPart_r1_X2_readsTest (As := []) rfl hx0 rfl lx0 (Nat.le_of_ble_eq_true rfl) dX2_readsPart_73 ⟨Nat.le_refl _, Nat.le_refl _⟩ h) (fun r8 σ7 h => ?_)
      exact P_zret C h.1 dX2_readsPart_76 h.2
    · have h := h.2 q6
      refine P_aload_n C dX2_readsPart_47 0 rfl ?_
      refine P_iload_n C dX2_readsPart_48 1 rfl ?_
      refine P_iconst C dX2_readsPart_49 (v := (1 : Int32)) rfl ?_
      refine P_iadd C dX2_readsPart_50 ?_
      refine P_ci (R_v (ci := 2) C kv_X2_readsPart_r1_X2_readsEither_r2 (As := [.int (x1 + (1 : Int32))]) rfl hx0 rfl lx0 (Nat.le_of_ble_eq_true rfl) dX2_readsPart_51 ⟨Nat.le_refl _, Nat.le_refl _⟩ h) (fun r10 σ9 h => ?_)
      refine P_if_eq C dX2_readsPart_54 (tgt := 70) (by decide +kernel) (fun q11 => ?_) (fun q11 => ?_)
      · have h := h.1 q11
        refine P_iconst C dX2_readsPart_70 (v := (0 : Int32)) rfl ?_
        exact P_zret C (by decide +kernel) dX2_readsPart_71 h
      · have h := h.2 q11
        refine P_aload_n C dX2_readsPart_57 0 rfl ?_
        refine P_bipush C dX2_readsPart_58 (v := (41 : Int32)) rfl ?_
        refine P_ci (R_v (ci := 2) C kv_X2_readsPart_r1_X2_takes (As := [.int (41 : Int32)]) rfl hx0 rfl lx0 (Nat.le_of_ble_eq_true rfl) dX2_readsPart_60 ⟨Nat.le_refl _, Nat.le_refl _⟩ h) (fun r13 σ12 h => ?_)
        refine P_if_eq C dX2_readsPart_63 (tgt := 70) (by decide +kernel) (fun q14 => ?_) (fun q14 => ?_)
        · have h := h.1 q14
          refine P_iconst C dX2_readsPart_70 (v := (0 : Int32)) rfl ?_
          exact P_zret C (by decide +kernel) dX2_readsPart_71 h
        · have h := h.2 q14
          refine P_iconst C dX2_readsPart_66 (v := (1 : Int32)) rfl ?_
          refine P_goto C dX2_readsPart_67 (tgt := 71) (by decide +kernel) ?_
          exact P_zret C (by decide +kernel) dX2_readsPart_71 h
theorem kv_X2_readsBoth_r1_X2_readsPart_r1 : KV RX2 wsX2_readsBoth (rmz 16) 117 RX2 yX2_readsPart wsX2_readsPart (rmz 15) 1 := ⟨_, _, _, _, gX2_readsBoth_X2_readsPart, rfl, by decide +kernel, by decide +kernel⟩
theorem kv_X2_readsBoth_r1_X2_takes : KV RX2 wsX2_readsBoth (rmz 16) 60 RX2 yX2_takes wsX2_takes (rmz 1) 1 := ⟨_, _, _, _, gX2_readsBoth_X2_takes, rfl, by decide +kernel, by decide +kernel⟩
theorem kv_X2_readsBoth_r1_X2_writes : KV RX2 wsX2_readsBoth (rmz 16) 113 RX2 yX2_writes wsX2_writes (rmz 0) 1 := ⟨_, _, _, _, gX2_readsBoth_X2_writes, rfl, by decide +kernel, by decide +kernel⟩
noncomputable def K_X2_readsBoth_r1 (l : Launch) (V : Vx) (c0 : Nat) (a1 : Int32) (σ : Sg) (Qk : Int32 → Sg → Prop) : Prop := Ka l V yX2_readsBoth wsX2_readsBoth (rmz 16) 0 0 [.ref c0, .int a1] σ (QI V Qk)
theorem e_X2_readsBoth_r1 {l : Launch} {V : Vx} {c0 : Nat} {a1 : Int32} {σ : Sg} {Qk : Int32 → Sg → Prop} (h : ∀ M : Mx, mL M = l → mV M = V → mN M = 3 → Cx M cX2_readsBoth (some .boolean) RX2 wsX2_readsBoth (rmz 16) 0 0 (QI (mV M) Qk) → PS M 0 [(0, .ref c0), (1, .int a1)] [] σ (0, 0)) : K_X2_readsBoth_r1 l V c0 a1 σ Qk :=
  Ka_of (by decide +kernel) rfl rfl (Nat.le_of_ble_eq_true rfl) (fun M h1 h2 h3 C => h M h1 h2 h3 (by rw [h2]; exact C))
set_option maxRecDepth 100000 in
set_option maxHeartbeats 4000000 in
theorem s_X2_readsBoth_r1_0 {M : Mx} {Qk : Int32 → Sg → Prop} (C : Cx M cX2_readsBoth (some .boolean) RX2 wsX2_readsBoth (rmz 16) 0 0 (QI (mV M) Qk)) (hN : mN M = 3) {c0 : Nat} {a1 : Int32} (hc0 : kd c0 = (12, 0)) (lc0 : c0 ∈ ids (mV M)) {σ : Sg} (h : K_X2_readsPart_r1 (mL M) (mV M) c0 a1 σ (fun r2 σ1 => ((¬ r2 = 0 → PS M 12 [(0, .ref c0), (1, .int a1), (2, .int (0 : Int32))] [] σ1 (0, 0)) ∧ (r2 = 0 → Qk (0 : Int32) σ1)))) : PS M 0 [(0, .ref c0), (1, .int a1)] [] σ (0, 0) := by
  refine P_aload_n C dX2_readsBoth_0 0 rfl ?_
  refine P_iload_n C dX2_readsBoth_1 1 rfl ?_
  refine P_ci (R_v (ci := 2) C kv_X2_readsBoth_r1_X2_readsPart_r1 (As := [.int a1]) rfl hc0 rfl lc0 (Nat.le_of_ble_eq_true rfl) dX2_readsBoth_2 ⟨Nat.le_refl _, Nat.le_refl _⟩ h) (fun r2 σ1 h => ?_)
  refine P_if_ne C dX2_readsBoth_5 (tgt := 10) (by decide +kernel) (fun q3 => ?_) (fun q3 => ?_)
  · have h := h.1 q3
    refine P_iconst C dX2_readsBoth_10 (v := (0 : Int32)) rfl ?_
    refine P_istore_n C dX2_readsBoth_11 (by rw [hN]; decide) rfl ?_
    exact P_sub [1, 2, 0] rfl h
  · have h := h.2 q3
    refine P_iconst C dX2_readsBoth_8 (v := (0 : Int32)) rfl ?_
    exact P_zret C (by decide +kernel) dX2_readsBoth_9 h
set_option maxRecDepth 100000 in
set_option maxHeartbeats 4000000 in
theorem s_X2_readsBoth_r1_12 {M : Mx} {Qk : Int32 → Sg → Prop} (C : Cx M cX2_readsBoth (some .boolean) RX2 wsX2_readsBoth (rmz 16) 0 0 (QI (mV M) Qk)) (hN : mN M = 3) {x0 : Nat} {x1 : Int32} {x2 : Int32} (hx0 : kd x0 = (12, 0)) (lx0 : x0 ∈ ids (mV M)) {σ : Sg} (h : (((100 : Int32) ≤ x2 → Qk (1 : Int32) σ) ∧ (¬ (100 : Int32) ≤ x2 → K_X2_takes (mL M) (mV M) x0 (38 : Int32) σ (fun r3 σ2 => ((r3 = 0 → Qk (1 : Int32) σ2) ∧ (¬ r3 = 0 → K_X2_readsPart_r1 (mL M) (mV M) x0 x1 σ2 (fun r6 σ5 => ((¬ r6 = 0 → K_X2_writes (mL M) (mV M) x0 (-2 : Int32) σ5 (fun σ8 => (∀ v9 : Int32, v9 = x2 + 1 → PS M 12 [(0, .ref x0), (1, .int x1), (2, .int v9)] [] σ8 (0, 0)))) ∧ (r6 = 0 → Qk (0 : Int32) σ5))))))))) : PS M 12 [(0, .ref x0), (1, .int x1), (2, .int x2)] [] σ (0, 0) := by
  refine P_iload_n C dX2_readsBoth_12 2 rfl ?_
  refine P_bipush C dX2_readsBoth_13 (v := (100 : Int32)) rfl ?_
  refine P_icmp_ge C dX2_readsBoth_15 (tgt := 49) (by decide +kernel) (fun q1 => ?_) (fun q1 => ?_)
  · have h := h.1 q1
    refine P_iconst C dX2_readsBoth_49 (v := (1 : Int32)) rfl ?_
    exact P_zret C (by decide +kernel) dX2_readsBoth_50 h
  · have h := h.2 q1
    refine P_aload_n C dX2_readsBoth_18 0 rfl ?_
    refine P_bipush C dX2_readsBoth_19 (v := (38 : Int32)) rfl ?_
    refine P_ci (R_v (ci := 2) C kv_X2_readsBoth_r1_X2_takes (As := [.int (38 : Int32)]) rfl hx0 rfl lx0 (Nat.le_of_ble_eq_true rfl) dX2_readsBoth_21 ⟨Nat.le_refl _, Nat.le_refl _⟩ h) (fun r3 σ2 h => ?_)
    refine P_if_eq C dX2_readsBoth_24 (tgt := 49) (by decide +kernel) (fun q4 => ?_) (fun q4 => ?_)
    · have h := h.1 q4
      refine P_iconst C dX2_readsBoth_49 (v := (1 : Int32)) rfl ?_
      exact P_zret C (by decide +kernel) dX2_readsBoth_50 h
    · have h := h.2 q4
      refine P_aload_n C dX2_readsBoth_27 0 rfl ?_
      refine P_iload_n C dX2_readsBoth_28 1 rfl ?_
      refine P_ci (R_v (ci := 2) C kv_X2_readsBoth_r1_X2_readsPart_r1 (As := [.int x1]) rfl hx0 rfl lx0 (Nat.le_of_ble_eq_true rfl) dX2_readsBoth_29 ⟨Nat.le_refl _, Nat.le_refl _⟩ h) (fun r6 σ5 h => ?_)
      refine P_if_ne C dX2_readsBoth_32 (tgt := 37) (by decide +kernel) (fun q7 => ?_) (fun q7 => ?_)
      · have h := h.1 q7
        refine P_aload_n C dX2_readsBoth_37 0 rfl ?_
        refine P_bipush C dX2_readsBoth_38 (v := (-2 : Int32)) rfl ?_
        refine P_cv (R_v (ci := 2) C kv_X2_readsBoth_r1_X2_writes (As := [.int (-2 : Int32)]) rfl hx0 rfl lx0 (Nat.le_of_ble_eq_true rfl) dX2_readsBoth_40 ⟨Nat.le_refl _, Nat.le_refl _⟩ h) (fun σ8 h => ?_)
        obtain ⟨v9, ev9⟩ : ∃ v : Int32, v = x2 + 1 := ⟨_, rfl⟩
        have h := h v9 ev9
        refine P_iinc (v := v9) C dX2_readsBoth_43 2 rfl (by rw [ev9]; rfl) (by rw [hN]; decide) rfl ?_
        refine P_goto C dX2_readsBoth_46 (tgt := 12) (by decide +kernel) ?_
        exact P_sub [1, 2, 0] rfl h
      · have h := h.2 q7
        refine P_iconst C dX2_readsBoth_35 (v := (0 : Int32)) rfl ?_
        exact P_zret C (by decide +kernel) dX2_readsBoth_36 h
theorem kv_X2_readsEither_r1_X2_readsBoth_r1 : KV RX2 wsX2_readsEither (rmz 17) 110 RX2 yX2_readsBoth wsX2_readsBoth (rmz 16) 1 := ⟨_, _, _, _, gX2_readsEither_X2_readsBoth, rfl, by decide +kernel, by decide +kernel⟩
theorem kv_X2_readsEither_r1_X2_takes : KV RX2 wsX2_readsEither (rmz 17) 60 RX2 yX2_takes wsX2_takes (rmz 1) 1 := ⟨_, _, _, _, gX2_readsEither_X2_takes, rfl, by decide +kernel, by decide +kernel⟩
theorem kv_X2_readsEither_r1_X2_writes : KV RX2 wsX2_readsEither (rmz 17) 113 RX2 yX2_writes wsX2_writes (rmz 0) 1 := ⟨_, _, _, _, gX2_readsEither_X2_writes, rfl, by decide +kernel, by decide +kernel⟩
noncomputable def K_X2_readsEither_r1 (l : Launch) (V : Vx) (c0 : Nat) (a1 : Int32) (σ : Sg) (Qk : Int32 → Sg → Prop) : Prop := Ka l V yX2_readsEither wsX2_readsEither (rmz 17) 0 0 [.ref c0, .int a1] σ (QI V Qk)
theorem e_X2_readsEither_r1 {l : Launch} {V : Vx} {c0 : Nat} {a1 : Int32} {σ : Sg} {Qk : Int32 → Sg → Prop} (h : ∀ M : Mx, mL M = l → mV M = V → mN M = 3 → Cx M cX2_readsEither (some .boolean) RX2 wsX2_readsEither (rmz 17) 0 0 (QI (mV M) Qk) → PS M 0 [(0, .ref c0), (1, .int a1)] [] σ (0, 0)) : K_X2_readsEither_r1 l V c0 a1 σ Qk :=
  Ka_of (by decide +kernel) rfl rfl (Nat.le_of_ble_eq_true rfl) (fun M h1 h2 h3 C => h M h1 h2 h3 (by rw [h2]; exact C))
set_option maxRecDepth 100000 in
set_option maxHeartbeats 4000000 in
theorem s_X2_readsEither_r1_0 {M : Mx} {Qk : Int32 → Sg → Prop} (C : Cx M cX2_readsEither (some .boolean) RX2 wsX2_readsEither (rmz 17) 0 0 (QI (mV M) Qk)) (hN : mN M = 3) {c0 : Nat} {a1 : Int32} (hc0 : kd c0 = (12, 0)) (lc0 : c0 ∈ ids (mV M)) {σ : Sg} (h : K_X2_readsBoth_r1 (mL M) (mV M) c0 a1 σ (fun r2 σ1 => ((¬ r2 = 0 → PS M 12 [(0, .ref c0), (1, .int a1), (2, .int (0 : Int32))] [] σ1 (0, 0)) ∧ (r2 = 0 → Qk (0 : Int32) σ1)))) : PS M 0 [(0, .ref c0), (1, .int a1)] [] σ (0, 0) := by
  refine P_aload_n C dX2_readsEither_0 0 rfl ?_
  refine P_iload_n C dX2_readsEither_1 1 rfl ?_
  refine P_ci (R_v (ci := 2) C kv_X2_readsEither_r1_X2_readsBoth_r1 (As := [.int a1]) rfl hc0 rfl lc0 (Nat.le_of_ble_eq_true rfl) dX2_readsEither_2 ⟨Nat.le_refl _, Nat.le_refl _⟩ h) (fun r2 σ1 h => ?_)
  refine P_if_ne C dX2_readsEither_5 (tgt := 10) (by decide +kernel) (fun q3 => ?_) (fun q3 => ?_)
  · have h := h.1 q3
    refine P_iconst C dX2_readsEither_10 (v := (0 : Int32)) rfl ?_
    refine P_istore_n C dX2_readsEither_11 (by rw [hN]; decide) rfl ?_
    exact P_sub [1, 2, 0] rfl h
  · have h := h.2 q3
    refine P_iconst C dX2_readsEither_8 (v := (0 : Int32)) rfl ?_
    exact P_zret C (by decide +kernel) dX2_readsEither_9 h
set_option maxRecDepth 100000 in
set_option maxHeartbeats 4000000 in
theorem s_X2_readsEither_r1_12 {M : Mx} {Qk : Int32 → Sg → Prop} (C : Cx M cX2_readsEither (some .boolean) RX2 wsX2_readsEither (rmz 17) 0 0 (QI (mV M) Qk)) (hN : mN M = 3) {x0 : Nat} {x1 : Int32} {x2 : Int32} (hx0 : kd x0 = (12, 0)) (lx0 : x0 ∈ ids (mV M)) {σ : Sg} (h : (((100 : Int32) ≤ x2 → Qk (1 : Int32) σ) ∧ (¬ (100 : Int32) ≤ x2 → K_X2_takes (mL M) (mV M) x0 (124 : Int32) σ (fun r3 σ2 => ((r3 = 0 → Qk (1 : Int32) σ2) ∧ (¬ r3 = 0 → K_X2_readsBoth_r1 (mL M) (mV M) x0 x1 σ2 (fun r6 σ5 => ((¬ r6 = 0 → K_X2_writes (mL M) (mV M) x0 (-3 : Int32) σ5 (fun σ8 => (∀ v9 : Int32, v9 = x2 + 1 → PS M 12 [(0, .ref x0), (1, .int x1), (2, .int v9)] [] σ8 (0, 0)))) ∧ (r6 = 0 → Qk (0 : Int32) σ5))))))))) : PS M 12 [(0, .ref x0), (1, .int x1), (2, .int x2)] [] σ (0, 0) := by
  refine P_iload_n C dX2_readsEither_12 2 rfl ?_
  refine P_bipush C dX2_readsEither_13 (v := (100 : Int32)) rfl ?_
  refine P_icmp_ge C dX2_readsEither_15 (tgt := 49) (by decide +kernel) (fun q1 => ?_) (fun q1 => ?_)
  · have h := h.1 q1
    refine P_iconst C dX2_readsEither_49 (v := (1 : Int32)) rfl ?_
    exact P_zret C (by decide +kernel) dX2_readsEither_50 h
  · have h := h.2 q1
    refine P_aload_n C dX2_readsEither_18 0 rfl ?_
    refine P_bipush C dX2_readsEither_19 (v := (124 : Int32)) rfl ?_
    refine P_ci (R_v (ci := 2) C kv_X2_readsEither_r1_X2_takes (As := [.int (124 : Int32)]) rfl hx0 rfl lx0 (Nat.le_of_ble_eq_true rfl) dX2_readsEither_21 ⟨Nat.le_refl _, Nat.le_refl _⟩ h) (fun r3 σ2 h => ?_)
    refine P_if_eq C dX2_readsEither_24 (tgt := 49) (by decide +kernel) (fun q4 => ?_) (fun q4 => ?_)
    · have h := h.1 q4
      refine P_iconst C dX2_readsEither_49 (v := (1 : Int32)) rfl ?_
      exact P_zret C (by decide +kernel) dX2_readsEither_50 h
    · have h := h.2 q4
      refine P_aload_n C dX2_readsEither_27 0 rfl ?_
      refine P_iload_n C dX2_readsEither_28 1 rfl ?_
      refine P_ci (R_v (ci := 2) C kv_X2_readsEither_r1_X2_readsBoth_r1 (As := [.int x1]) rfl hx0 rfl lx0 (Nat.le_of_ble_eq_true rfl) dX2_readsEither_29 ⟨Nat.le_refl _, Nat.le_refl _⟩ h) (fun r6 σ5 h => ?_)
      refine P_if_ne C dX2_readsEither_32 (tgt := 37) (by decide +kernel) (fun q7 => ?_) (fun q7 => ?_)
      · have h := h.1 q7
        refine P_aload_n C dX2_readsEither_37 0 rfl ?_
        refine P_bipush C dX2_readsEither_38 (v := (-3 : Int32)) rfl ?_
        refine P_cv (R_v (ci := 2) C kv_X2_readsEither_r1_X2_writes (As := [.int (-3 : Int32)]) rfl hx0 rfl lx0 (Nat.le_of_ble_eq_true rfl) dX2_readsEither_40 ⟨Nat.le_refl _, Nat.le_refl _⟩ h) (fun σ8 h => ?_)
        obtain ⟨v9, ev9⟩ : ∃ v : Int32, v = x2 + 1 := ⟨_, rfl⟩
        have h := h v9 ev9
        refine P_iinc (v := v9) C dX2_readsEither_43 2 rfl (by rw [ev9]; rfl) (by rw [hN]; decide) rfl ?_
        refine P_goto C dX2_readsEither_46 (tgt := 12) (by decide +kernel) ?_
        exact P_sub [1, 2, 0] rfl h
      · have h := h.2 q7
        refine P_iconst C dX2_readsEither_35 (v := (0 : Int32)) rfl ?_
        exact P_zret C (by decide +kernel) dX2_readsEither_36 h
theorem kv_X2_readsPart_r0_X2_takes : KV RX2 wsX2_readsPart (rmz 18) 60 RX2 yX2_takes wsX2_takes (rmz 1) 1 := ⟨_, _, _, _, gX2_readsPart_X2_takes, rfl, by decide +kernel, by decide +kernel⟩
theorem kv_X2_readsPart_r0_X2_readsPart_r1 : KV RX2 wsX2_readsPart (rmz 18) 117 RX2 yX2_readsPart wsX2_readsPart (rmz 15) 1 := ⟨_, _, _, _, gX2_readsPart_X2_readsPart, rfl, by decide +kernel, by decide +kernel⟩
theorem kv_X2_readsPart_r0_X2_writes : KV RX2 wsX2_readsPart (rmz 18) 113 RX2 yX2_writes wsX2_writes (rmz 0) 1 := ⟨_, _, _, _, gX2_readsPart_X2_writes, rfl, by decide +kernel, by decide +kernel⟩
theorem kv_X2_readsPart_r0_X2_readsTest : KV RX2 wsX2_readsPart (rmz 18) 120 RX2 yX2_readsTest wsX2_readsTest (rmz 5) 0 := ⟨_, _, _, _, gX2_readsPart_X2_readsTest, rfl, by decide +kernel, by decide +kernel⟩
theorem kv_X2_readsPart_r0_X2_readsEither_r1 : KV RX2 wsX2_readsPart (rmz 18) 78 RX2 yX2_readsEither wsX2_readsEither (rmz 17) 1 := ⟨_, _, _, _, gX2_readsPart_X2_readsEither, rfl, by decide +kernel, by decide +kernel⟩
noncomputable def K_X2_readsPart_r0 (l : Launch) (V : Vx) (c0 : Nat) (a1 : Int32) (σ : Sg) (Qk : Int32 → Sg → Prop) : Prop := Ka l V yX2_readsPart wsX2_readsPart (rmz 18) 0 0 [.ref c0, .int a1] σ (QI V Qk)
theorem e_X2_readsPart_r0 {l : Launch} {V : Vx} {c0 : Nat} {a1 : Int32} {σ : Sg} {Qk : Int32 → Sg → Prop} (h : ∀ M : Mx, mL M = l → mV M = V → mN M = 2 → Cx M cX2_readsPart (some .boolean) RX2 wsX2_readsPart (rmz 18) 0 0 (QI (mV M) Qk) → PS M 0 [(0, .ref c0), (1, .int a1)] [] σ (0, 0)) : K_X2_readsPart_r0 l V c0 a1 σ Qk :=
  Ka_of (by decide +kernel) rfl rfl (Nat.le_of_ble_eq_true rfl) (fun M h1 h2 h3 C => h M h1 h2 h3 (by rw [h2]; exact C))
set_option maxRecDepth 100000 in
set_option maxHeartbeats 4000000 in
theorem s_X2_readsPart_r0_0 {M : Mx} {Qk : Int32 → Sg → Prop} (C : Cx M cX2_readsPart (some .boolean) RX2 wsX2_readsPart (rmz 18) 0 0 (QI (mV M) Qk)) (hN : mN M = 2) {c0 : Nat} {a1 : Int32} (hc0 : kd c0 = (12, 0)) (lc0 : c0 ∈ ids (mV M)) {σ : Sg} (h : (((4 : Int32) ≤ a1 → PS M 33 [(0, .ref c0), (1, .int a1)] [] σ (0, 0)) ∧ (¬ (4 : Int32) ≤ a1 → K_X2_takes (mL M) (mV M) c0 (33 : Int32) σ (fun r3 σ2 => ((r3 = 0 → PS M 33 [(0, .ref c0), (1, .int a1)] [] σ2 (0, 0)) ∧ (¬ r3 = 0 → K_X2_readsPart_r1 (mL M) (mV M) c0 (a1 + (1 : Int32)) σ2 (fun r6 σ5 => ((¬ r6 = 0 → K_X2_writes (mL M) (mV M) c0 (-1 : Int32) σ5 (fun σ8 => Qk (1 : Int32) σ8)) ∧ (r6 = 0 → Qk (0 : Int32) σ5))))))))) : PS M 0 [(0, .ref c0), (1, .int a1)] [] σ (0, 0) := by
  refine P_iload_n C dX2_readsPart_0 1 rfl ?_
  refine P_iconst C dX2_readsPart_1 (v := (4 : Int32)) rfl ?_
  refine P_icmp_ge C dX2_readsPart_2 (tgt := 33) (by decide +kernel) (fun q1 => ?_) (fun q1 => ?_)
  · have h := h.1 q1
    exact P_sub [0, 1] rfl h
  · have h := h.2 q1
    refine P_aload_n C dX2_readsPart_5 0 rfl ?_
    refine P_bipush C dX2_readsPart_6 (v := (33 : Int32)) rfl ?_
    refine P_ci (R_v (ci := 2) C kv_X2_readsPart_r0_X2_takes (As := [.int (33 : Int32)]) rfl hc0 rfl lc0 (Nat.le_of_ble_eq_true rfl) dX2_readsPart_8 ⟨Nat.le_refl _, Nat.le_refl _⟩ h) (fun r3 σ2 h => ?_)
    refine P_if_eq C dX2_readsPart_11 (tgt := 33) (by decide +kernel) (fun q4 => ?_) (fun q4 => ?_)
    · have h := h.1 q4
      exact P_sub [0, 1] rfl h
    · have h := h.2 q4
      refine P_aload_n C dX2_readsPart_14 0 rfl ?_
      refine P_iload_n C dX2_readsPart_15 1 rfl ?_
      refine P_iconst C dX2_readsPart_16 (v := (1 : Int32)) rfl ?_
      refine P_iadd C dX2_readsPart_17 ?_
      refine P_ci (R_v (ci := 2) C kv_X2_readsPart_r0_X2_readsPart_r1 (As := [.int (a1 + (1 : Int32))]) rfl hc0 rfl lc0 (Nat.le_of_ble_eq_true rfl) dX2_readsPart_18 ⟨Nat.le_refl _, Nat.le_refl _⟩ h) (fun r6 σ5 h => ?_)
      refine P_if_ne C dX2_readsPart_21 (tgt := 26) (by decide +kernel) (fun q7 => ?_) (fun q7 => ?_)
      · have h := h.1 q7
        refine P_aload_n C dX2_readsPart_26 0 rfl ?_
        refine P_iconst C dX2_readsPart_27 (v := (-1 : Int32)) rfl ?_
        refine P_cv (R_v (ci := 2) C kv_X2_readsPart_r0_X2_writes (As := [.int (-1 : Int32)]) rfl hc0 rfl lc0 (Nat.le_of_ble_eq_true rfl) dX2_readsPart_28 ⟨Nat.le_refl _, Nat.le_refl _⟩ h) (fun σ8 h => ?_)
        refine P_iconst C dX2_readsPart_31 (v := (1 : Int32)) rfl ?_
        exact P_zret C (by decide +kernel) dX2_readsPart_32 h
      · have h := h.2 q7
        refine P_iconst C dX2_readsPart_24 (v := (0 : Int32)) rfl ?_
        exact P_zret C (by decide +kernel) dX2_readsPart_25 h
set_option maxRecDepth 100000 in
set_option maxHeartbeats 4000000 in
theorem s_X2_readsPart_r0_33 {M : Mx} {Qk : Int32 → Sg → Prop} (C : Cx M cX2_readsPart (some .boolean) RX2 wsX2_readsPart (rmz 18) 0 0 (QI (mV M) Qk)) (hN : mN M = 2) {x0 : Nat} {x1 : Int32} (hx0 : kd x0 = (12, 0)) (lx0 : x0 ∈ ids (mV M)) {σ : Sg} (h : (((4 : Int32) ≤ x1 → K_X2_readsTest (mL M) (mV M) x0 σ (fun r3 σ2 => (narrow .boolean (.int r3) = .int r3 ∧ Qk r3 σ2))) ∧ (¬ (4 : Int32) ≤ x1 → K_X2_takes (mL M) (mV M) x0 (40 : Int32) σ (fun r5 σ4 => ((r5 = 0 → K_X2_readsTest (mL M) (mV M) x0 σ4 (fun r8 σ7 => (narrow .boolean (.int r8) = .int r8 ∧ Qk r8 σ7))) ∧ (¬ r5 = 0 → K_X2_readsEither_r1 (mL M) (mV M) x0 (x1 + (1 : Int32)) σ4 (fun r10 σ9 => ((r10 = 0 → Qk (0 : Int32) σ9) ∧ (¬ r10 = 0 → K_X2_takes (mL M) (mV M) x0 (41 : Int32) σ9 (fun r13 σ12 => ((r13 = 0 → Qk (0 : Int32) σ12) ∧ (¬ r13 = 0 → Qk (1 : Int32) σ12)))))))))))) : PS M 33 [(0, .ref x0), (1, .int x1)] [] σ (0, 0) := by
  refine P_iload_n C dX2_readsPart_33 1 rfl ?_
  refine P_iconst C dX2_readsPart_34 (v := (4 : Int32)) rfl ?_
  refine P_icmp_ge C dX2_readsPart_35 (tgt := 72) (by decide +kernel) (fun q1 => ?_) (fun q1 => ?_)
  · have h := h.1 q1
    refine P_aload_n C dX2_readsPart_72 0 rfl ?_
    refine P_ci (R_v (ci := 2) C kv_X2_readsPart_r0_X2_readsTest (As := []) rfl hx0 rfl lx0 (Nat.le_of_ble_eq_true rfl) dX2_readsPart_73 ⟨Nat.le_refl _, Nat.le_refl _⟩ h) (fun r3 σ2 h => ?_)
    exact P_zret C h.1 dX2_readsPart_76 h.2
  · have h := h.2 q1
    refine P_aload_n C dX2_readsPart_38 0 rfl ?_
    refine P_bipush C dX2_readsPart_39 (v := (40 : Int32)) rfl ?_
    refine P_ci (R_v (ci := 2) C kv_X2_readsPart_r0_X2_takes (As := [.int (40 : Int32)]) rfl hx0 rfl lx0 (Nat.le_of_ble_eq_true rfl) dX2_readsPart_41 ⟨Nat.le_refl _, Nat.le_refl _⟩ h) (fun r5 σ4 h => ?_)
    refine P_if_eq C dX2_readsPart_44 (tgt := 72) (by decide +kernel) (fun q6 => ?_) (fun q6 => ?_)
    · have h := h.1 q6
      refine P_aload_n C dX2_readsPart_72 0 rfl ?_
      refine P_ci (R_v (ci := 2) C kv_X2_readsPart_r0_X2_readsTest (As := []) rfl hx0 rfl lx0 (Nat.le_of_ble_eq_true rfl) dX2_readsPart_73 ⟨Nat.le_refl _, Nat.le_refl _⟩ h) (fun r8 σ7 h => ?_)
      exact P_zret C h.1 dX2_readsPart_76 h.2
    · have h := h.2 q6
      refine P_aload_n C dX2_readsPart_47 0 rfl ?_
      refine P_iload_n C dX2_readsPart_48 1 rfl ?_
      refine P_iconst C dX2_readsPart_49 (v := (1 : Int32)) rfl ?_
      refine P_iadd C dX2_readsPart_50 ?_
      refine P_ci (R_v (ci := 2) C kv_X2_readsPart_r0_X2_readsEither_r1 (As := [.int (x1 + (1 : Int32))]) rfl hx0 rfl lx0 (Nat.le_of_ble_eq_true rfl) dX2_readsPart_51 ⟨Nat.le_refl _, Nat.le_refl _⟩ h) (fun r10 σ9 h => ?_)
      refine P_if_eq C dX2_readsPart_54 (tgt := 70) (by decide +kernel) (fun q11 => ?_) (fun q11 => ?_)
      · have h := h.1 q11
        refine P_iconst C dX2_readsPart_70 (v := (0 : Int32)) rfl ?_
        exact P_zret C (by decide +kernel) dX2_readsPart_71 h
      · have h := h.2 q11
        refine P_aload_n C dX2_readsPart_57 0 rfl ?_
        refine P_bipush C dX2_readsPart_58 (v := (41 : Int32)) rfl ?_
        refine P_ci (R_v (ci := 2) C kv_X2_readsPart_r0_X2_takes (As := [.int (41 : Int32)]) rfl hx0 rfl lx0 (Nat.le_of_ble_eq_true rfl) dX2_readsPart_60 ⟨Nat.le_refl _, Nat.le_refl _⟩ h) (fun r13 σ12 h => ?_)
        refine P_if_eq C dX2_readsPart_63 (tgt := 70) (by decide +kernel) (fun q14 => ?_) (fun q14 => ?_)
        · have h := h.1 q14
          refine P_iconst C dX2_readsPart_70 (v := (0 : Int32)) rfl ?_
          exact P_zret C (by decide +kernel) dX2_readsPart_71 h
        · have h := h.2 q14
          refine P_iconst C dX2_readsPart_66 (v := (1 : Int32)) rfl ?_
          refine P_goto C dX2_readsPart_67 (tgt := 71) (by decide +kernel) ?_
          exact P_zret C (by decide +kernel) dX2_readsPart_71 h
theorem kv_X2_readsBoth_r0_X2_readsPart_r0 : KV RX2 wsX2_readsBoth (rmz 19) 117 RX2 yX2_readsPart wsX2_readsPart (rmz 18) 1 := ⟨_, _, _, _, gX2_readsBoth_X2_readsPart, rfl, by decide +kernel, by decide +kernel⟩
theorem kv_X2_readsBoth_r0_X2_takes : KV RX2 wsX2_readsBoth (rmz 19) 60 RX2 yX2_takes wsX2_takes (rmz 1) 1 := ⟨_, _, _, _, gX2_readsBoth_X2_takes, rfl, by decide +kernel, by decide +kernel⟩
theorem kv_X2_readsBoth_r0_X2_writes : KV RX2 wsX2_readsBoth (rmz 19) 113 RX2 yX2_writes wsX2_writes (rmz 0) 1 := ⟨_, _, _, _, gX2_readsBoth_X2_writes, rfl, by decide +kernel, by decide +kernel⟩
noncomputable def K_X2_readsBoth_r0 (l : Launch) (V : Vx) (c0 : Nat) (a1 : Int32) (σ : Sg) (Qk : Int32 → Sg → Prop) : Prop := Ka l V yX2_readsBoth wsX2_readsBoth (rmz 19) 0 0 [.ref c0, .int a1] σ (QI V Qk)
theorem e_X2_readsBoth_r0 {l : Launch} {V : Vx} {c0 : Nat} {a1 : Int32} {σ : Sg} {Qk : Int32 → Sg → Prop} (h : ∀ M : Mx, mL M = l → mV M = V → mN M = 3 → Cx M cX2_readsBoth (some .boolean) RX2 wsX2_readsBoth (rmz 19) 0 0 (QI (mV M) Qk) → PS M 0 [(0, .ref c0), (1, .int a1)] [] σ (0, 0)) : K_X2_readsBoth_r0 l V c0 a1 σ Qk :=
  Ka_of (by decide +kernel) rfl rfl (Nat.le_of_ble_eq_true rfl) (fun M h1 h2 h3 C => h M h1 h2 h3 (by rw [h2]; exact C))
set_option maxRecDepth 100000 in
set_option maxHeartbeats 4000000 in
theorem s_X2_readsBoth_r0_0 {M : Mx} {Qk : Int32 → Sg → Prop} (C : Cx M cX2_readsBoth (some .boolean) RX2 wsX2_readsBoth (rmz 19) 0 0 (QI (mV M) Qk)) (hN : mN M = 3) {c0 : Nat} {a1 : Int32} (hc0 : kd c0 = (12, 0)) (lc0 : c0 ∈ ids (mV M)) {σ : Sg} (h : K_X2_readsPart_r0 (mL M) (mV M) c0 a1 σ (fun r2 σ1 => ((¬ r2 = 0 → PS M 12 [(0, .ref c0), (1, .int a1), (2, .int (0 : Int32))] [] σ1 (0, 0)) ∧ (r2 = 0 → Qk (0 : Int32) σ1)))) : PS M 0 [(0, .ref c0), (1, .int a1)] [] σ (0, 0) := by
  refine P_aload_n C dX2_readsBoth_0 0 rfl ?_
  refine P_iload_n C dX2_readsBoth_1 1 rfl ?_
  refine P_ci (R_v (ci := 2) C kv_X2_readsBoth_r0_X2_readsPart_r0 (As := [.int a1]) rfl hc0 rfl lc0 (Nat.le_of_ble_eq_true rfl) dX2_readsBoth_2 ⟨Nat.le_refl _, Nat.le_refl _⟩ h) (fun r2 σ1 h => ?_)
  refine P_if_ne C dX2_readsBoth_5 (tgt := 10) (by decide +kernel) (fun q3 => ?_) (fun q3 => ?_)
  · have h := h.1 q3
    refine P_iconst C dX2_readsBoth_10 (v := (0 : Int32)) rfl ?_
    refine P_istore_n C dX2_readsBoth_11 (by rw [hN]; decide) rfl ?_
    exact P_sub [1, 2, 0] rfl h
  · have h := h.2 q3
    refine P_iconst C dX2_readsBoth_8 (v := (0 : Int32)) rfl ?_
    exact P_zret C (by decide +kernel) dX2_readsBoth_9 h
set_option maxRecDepth 100000 in
set_option maxHeartbeats 4000000 in
theorem s_X2_readsBoth_r0_12 {M : Mx} {Qk : Int32 → Sg → Prop} (C : Cx M cX2_readsBoth (some .boolean) RX2 wsX2_readsBoth (rmz 19) 0 0 (QI (mV M) Qk)) (hN : mN M = 3) {x0 : Nat} {x1 : Int32} {x2 : Int32} (hx0 : kd x0 = (12, 0)) (lx0 : x0 ∈ ids (mV M)) {σ : Sg} (h : (((100 : Int32) ≤ x2 → Qk (1 : Int32) σ) ∧ (¬ (100 : Int32) ≤ x2 → K_X2_takes (mL M) (mV M) x0 (38 : Int32) σ (fun r3 σ2 => ((r3 = 0 → Qk (1 : Int32) σ2) ∧ (¬ r3 = 0 → K_X2_readsPart_r0 (mL M) (mV M) x0 x1 σ2 (fun r6 σ5 => ((¬ r6 = 0 → K_X2_writes (mL M) (mV M) x0 (-2 : Int32) σ5 (fun σ8 => (∀ v9 : Int32, v9 = x2 + 1 → PS M 12 [(0, .ref x0), (1, .int x1), (2, .int v9)] [] σ8 (0, 0)))) ∧ (r6 = 0 → Qk (0 : Int32) σ5))))))))) : PS M 12 [(0, .ref x0), (1, .int x1), (2, .int x2)] [] σ (0, 0) := by
  refine P_iload_n C dX2_readsBoth_12 2 rfl ?_
  refine P_bipush C dX2_readsBoth_13 (v := (100 : Int32)) rfl ?_
  refine P_icmp_ge C dX2_readsBoth_15 (tgt := 49) (by decide +kernel) (fun q1 => ?_) (fun q1 => ?_)
  · have h := h.1 q1
    refine P_iconst C dX2_readsBoth_49 (v := (1 : Int32)) rfl ?_
    exact P_zret C (by decide +kernel) dX2_readsBoth_50 h
  · have h := h.2 q1
    refine P_aload_n C dX2_readsBoth_18 0 rfl ?_
    refine P_bipush C dX2_readsBoth_19 (v := (38 : Int32)) rfl ?_
    refine P_ci (R_v (ci := 2) C kv_X2_readsBoth_r0_X2_takes (As := [.int (38 : Int32)]) rfl hx0 rfl lx0 (Nat.le_of_ble_eq_true rfl) dX2_readsBoth_21 ⟨Nat.le_refl _, Nat.le_refl _⟩ h) (fun r3 σ2 h => ?_)
    refine P_if_eq C dX2_readsBoth_24 (tgt := 49) (by decide +kernel) (fun q4 => ?_) (fun q4 => ?_)
    · have h := h.1 q4
      refine P_iconst C dX2_readsBoth_49 (v := (1 : Int32)) rfl ?_
      exact P_zret C (by decide +kernel) dX2_readsBoth_50 h
    · have h := h.2 q4
      refine P_aload_n C dX2_readsBoth_27 0 rfl ?_
      refine P_iload_n C dX2_readsBoth_28 1 rfl ?_
      refine P_ci (R_v (ci := 2) C kv_X2_readsBoth_r0_X2_readsPart_r0 (As := [.int x1]) rfl hx0 rfl lx0 (Nat.le_of_ble_eq_true rfl) dX2_readsBoth_29 ⟨Nat.le_refl _, Nat.le_refl _⟩ h) (fun r6 σ5 h => ?_)
      refine P_if_ne C dX2_readsBoth_32 (tgt := 37) (by decide +kernel) (fun q7 => ?_) (fun q7 => ?_)
      · have h := h.1 q7
        refine P_aload_n C dX2_readsBoth_37 0 rfl ?_
        refine P_bipush C dX2_readsBoth_38 (v := (-2 : Int32)) rfl ?_
        refine P_cv (R_v (ci := 2) C kv_X2_readsBoth_r0_X2_writes (As := [.int (-2 : Int32)]) rfl hx0 rfl lx0 (Nat.le_of_ble_eq_true rfl) dX2_readsBoth_40 ⟨Nat.le_refl _, Nat.le_refl _⟩ h) (fun σ8 h => ?_)
        obtain ⟨v9, ev9⟩ : ∃ v : Int32, v = x2 + 1 := ⟨_, rfl⟩
        have h := h v9 ev9
        refine P_iinc (v := v9) C dX2_readsBoth_43 2 rfl (by rw [ev9]; rfl) (by rw [hN]; decide) rfl ?_
        refine P_goto C dX2_readsBoth_46 (tgt := 12) (by decide +kernel) ?_
        exact P_sub [1, 2, 0] rfl h
      · have h := h.2 q7
        refine P_iconst C dX2_readsBoth_35 (v := (0 : Int32)) rfl ?_
        exact P_zret C (by decide +kernel) dX2_readsBoth_36 h
theorem kv_X2_readsEither_r0_X2_readsBoth_r0 : KV RX2 wsX2_readsEither (rmz 20) 110 RX2 yX2_readsBoth wsX2_readsBoth (rmz 19) 1 := ⟨_, _, _, _, gX2_readsEither_X2_readsBoth, rfl, by decide +kernel, by decide +kernel⟩
theorem kv_X2_readsEither_r0_X2_takes : KV RX2 wsX2_readsEither (rmz 20) 60 RX2 yX2_takes wsX2_takes (rmz 1) 1 := ⟨_, _, _, _, gX2_readsEither_X2_takes, rfl, by decide +kernel, by decide +kernel⟩
theorem kv_X2_readsEither_r0_X2_writes : KV RX2 wsX2_readsEither (rmz 20) 113 RX2 yX2_writes wsX2_writes (rmz 0) 1 := ⟨_, _, _, _, gX2_readsEither_X2_writes, rfl, by decide +kernel, by decide +kernel⟩
noncomputable def K_X2_readsEither_r0 (l : Launch) (V : Vx) (c0 : Nat) (a1 : Int32) (σ : Sg) (Qk : Int32 → Sg → Prop) : Prop := Ka l V yX2_readsEither wsX2_readsEither (rmz 20) 0 0 [.ref c0, .int a1] σ (QI V Qk)
theorem e_X2_readsEither_r0 {l : Launch} {V : Vx} {c0 : Nat} {a1 : Int32} {σ : Sg} {Qk : Int32 → Sg → Prop} (h : ∀ M : Mx, mL M = l → mV M = V → mN M = 3 → Cx M cX2_readsEither (some .boolean) RX2 wsX2_readsEither (rmz 20) 0 0 (QI (mV M) Qk) → PS M 0 [(0, .ref c0), (1, .int a1)] [] σ (0, 0)) : K_X2_readsEither_r0 l V c0 a1 σ Qk :=
  Ka_of (by decide +kernel) rfl rfl (Nat.le_of_ble_eq_true rfl) (fun M h1 h2 h3 C => h M h1 h2 h3 (by rw [h2]; exact C))
set_option maxRecDepth 100000 in
set_option maxHeartbeats 4000000 in
theorem s_X2_readsEither_r0_0 {M : Mx} {Qk : Int32 → Sg → Prop} (C : Cx M cX2_readsEither (some .boolean) RX2 wsX2_readsEither (rmz 20) 0 0 (QI (mV M) Qk)) (hN : mN M = 3) {c0 : Nat} {a1 : Int32} (hc0 : kd c0 = (12, 0)) (lc0 : c0 ∈ ids (mV M)) {σ : Sg} (h : K_X2_readsBoth_r0 (mL M) (mV M) c0 a1 σ (fun r2 σ1 => ((¬ r2 = 0 → PS M 12 [(0, .ref c0), (1, .int a1), (2, .int (0 : Int32))] [] σ1 (0, 0)) ∧ (r2 = 0 → Qk (0 : Int32) σ1)))) : PS M 0 [(0, .ref c0), (1, .int a1)] [] σ (0, 0) := by
  refine P_aload_n C dX2_readsEither_0 0 rfl ?_
  refine P_iload_n C dX2_readsEither_1 1 rfl ?_
  refine P_ci (R_v (ci := 2) C kv_X2_readsEither_r0_X2_readsBoth_r0 (As := [.int a1]) rfl hc0 rfl lc0 (Nat.le_of_ble_eq_true rfl) dX2_readsEither_2 ⟨Nat.le_refl _, Nat.le_refl _⟩ h) (fun r2 σ1 h => ?_)
  refine P_if_ne C dX2_readsEither_5 (tgt := 10) (by decide +kernel) (fun q3 => ?_) (fun q3 => ?_)
  · have h := h.1 q3
    refine P_iconst C dX2_readsEither_10 (v := (0 : Int32)) rfl ?_
    refine P_istore_n C dX2_readsEither_11 (by rw [hN]; decide) rfl ?_
    exact P_sub [1, 2, 0] rfl h
  · have h := h.2 q3
    refine P_iconst C dX2_readsEither_8 (v := (0 : Int32)) rfl ?_
    exact P_zret C (by decide +kernel) dX2_readsEither_9 h
set_option maxRecDepth 100000 in
set_option maxHeartbeats 4000000 in
theorem s_X2_readsEither_r0_12 {M : Mx} {Qk : Int32 → Sg → Prop} (C : Cx M cX2_readsEither (some .boolean) RX2 wsX2_readsEither (rmz 20) 0 0 (QI (mV M) Qk)) (hN : mN M = 3) {x0 : Nat} {x1 : Int32} {x2 : Int32} (hx0 : kd x0 = (12, 0)) (lx0 : x0 ∈ ids (mV M)) {σ : Sg} (h : (((100 : Int32) ≤ x2 → Qk (1 : Int32) σ) ∧ (¬ (100 : Int32) ≤ x2 → K_X2_takes (mL M) (mV M) x0 (124 : Int32) σ (fun r3 σ2 => ((r3 = 0 → Qk (1 : Int32) σ2) ∧ (¬ r3 = 0 → K_X2_readsBoth_r0 (mL M) (mV M) x0 x1 σ2 (fun r6 σ5 => ((¬ r6 = 0 → K_X2_writes (mL M) (mV M) x0 (-3 : Int32) σ5 (fun σ8 => (∀ v9 : Int32, v9 = x2 + 1 → PS M 12 [(0, .ref x0), (1, .int x1), (2, .int v9)] [] σ8 (0, 0)))) ∧ (r6 = 0 → Qk (0 : Int32) σ5))))))))) : PS M 12 [(0, .ref x0), (1, .int x1), (2, .int x2)] [] σ (0, 0) := by
  refine P_iload_n C dX2_readsEither_12 2 rfl ?_
  refine P_bipush C dX2_readsEither_13 (v := (100 : Int32)) rfl ?_
  refine P_icmp_ge C dX2_readsEither_15 (tgt := 49) (by decide +kernel) (fun q1 => ?_) (fun q1 => ?_)
  · have h := h.1 q1
    refine P_iconst C dX2_readsEither_49 (v := (1 : Int32)) rfl ?_
    exact P_zret C (by decide +kernel) dX2_readsEither_50 h
  · have h := h.2 q1
    refine P_aload_n C dX2_readsEither_18 0 rfl ?_
    refine P_bipush C dX2_readsEither_19 (v := (124 : Int32)) rfl ?_
    refine P_ci (R_v (ci := 2) C kv_X2_readsEither_r0_X2_takes (As := [.int (124 : Int32)]) rfl hx0 rfl lx0 (Nat.le_of_ble_eq_true rfl) dX2_readsEither_21 ⟨Nat.le_refl _, Nat.le_refl _⟩ h) (fun r3 σ2 h => ?_)
    refine P_if_eq C dX2_readsEither_24 (tgt := 49) (by decide +kernel) (fun q4 => ?_) (fun q4 => ?_)
    · have h := h.1 q4
      refine P_iconst C dX2_readsEither_49 (v := (1 : Int32)) rfl ?_
      exact P_zret C (by decide +kernel) dX2_readsEither_50 h
    · have h := h.2 q4
      refine P_aload_n C dX2_readsEither_27 0 rfl ?_
      refine P_iload_n C dX2_readsEither_28 1 rfl ?_
      refine P_ci (R_v (ci := 2) C kv_X2_readsEither_r0_X2_readsBoth_r0 (As := [.int x1]) rfl hx0 rfl lx0 (Nat.le_of_ble_eq_true rfl) dX2_readsEither_29 ⟨Nat.le_refl _, Nat.le_refl _⟩ h) (fun r6 σ5 h => ?_)
      refine P_if_ne C dX2_readsEither_32 (tgt := 37) (by decide +kernel) (fun q7 => ?_) (fun q7 => ?_)
      · have h := h.1 q7
        refine P_aload_n C dX2_readsEither_37 0 rfl ?_
        refine P_bipush C dX2_readsEither_38 (v := (-3 : Int32)) rfl ?_
        refine P_cv (R_v (ci := 2) C kv_X2_readsEither_r0_X2_writes (As := [.int (-3 : Int32)]) rfl hx0 rfl lx0 (Nat.le_of_ble_eq_true rfl) dX2_readsEither_40 ⟨Nat.le_refl _, Nat.le_refl _⟩ h) (fun σ8 h => ?_)
        obtain ⟨v9, ev9⟩ : ∃ v : Int32, v = x2 + 1 := ⟨_, rfl⟩
        have h := h v9 ev9
        refine P_iinc (v := v9) C dX2_readsEither_43 2 rfl (by rw [ev9]; rfl) (by rw [hN]; decide) rfl ?_
        refine P_goto C dX2_readsEither_46 (tgt := 12) (by decide +kernel) ?_
        exact P_sub [1, 2, 0] rfl h
      · have h := h.2 q7
        refine P_iconst C dX2_readsEither_35 (v := (0 : Int32)) rfl ?_
        exact P_zret C (by decide +kernel) dX2_readsEither_36 h
theorem kv_X2_readsClause_X2_signAmong : KV RX2 wsX2_readsClause (rmz 21) 66 RX2 yX2_signAmong wsX2_signAmong (rmz 4) 1 := ⟨_, _, _, _, gX2_readsClause_X2_signAmong, rfl, by decide +kernel, by decide +kernel⟩
theorem kv_X2_readsClause_X2_readsWord : KV RX2 wsX2_readsClause (rmz 21) 70 RX2 yX2_readsWord wsX2_readsWord (rmz 4) 1 := ⟨_, _, _, _, gX2_readsClause_X2_readsWord, rfl, by decide +kernel, by decide +kernel⟩
theorem kv_X2_readsClause_X2_readsNumber : KV RX2 wsX2_readsClause (rmz 21) 74 RX2 yX2_readsNumber wsX2_readsNumber (rmz 2) 0 := ⟨_, _, _, _, gX2_readsClause_X2_readsNumber, rfl, by decide +kernel, by decide +kernel⟩
theorem kv_X2_readsClause_X2_keeps : KV RX2 wsX2_readsClause (rmz 21) 81 RX2 yX2_keeps wsX2_keeps (rmz 1) 2 := ⟨_, _, _, _, gX2_readsClause_X2_keeps, rfl, by decide +kernel, by decide +kernel⟩
theorem kv_X2_readsClause_X2_takes : KV RX2 wsX2_readsClause (rmz 21) 60 RX2 yX2_takes wsX2_takes (rmz 1) 1 := ⟨_, _, _, _, gX2_readsClause_X2_takes, rfl, by decide +kernel, by decide +kernel⟩
theorem kv_X2_readsClause_X2_readsEither_r0 : KV RX2 wsX2_readsClause (rmz 21) 78 RX2 yX2_readsEither wsX2_readsEither (rmz 20) 1 := ⟨_, _, _, _, gX2_readsClause_X2_readsEither, rfl, by decide +kernel, by decide +kernel⟩
noncomputable def K_X2_readsClause (l : Launch) (V : Vx) (c0 : Nat) (σ : Sg) (Qk : Int32 → Sg → Prop) : Prop := Ka l V yX2_readsClause wsX2_readsClause (rmz 21) 0 0 [.ref c0] σ (QI V Qk)
theorem e_X2_readsClause {l : Launch} {V : Vx} {c0 : Nat} {σ : Sg} {Qk : Int32 → Sg → Prop} (h : ∀ M : Mx, mL M = l → mV M = V → mN M = 3 → Cx M cX2_readsClause (some .boolean) RX2 wsX2_readsClause (rmz 21) 0 0 (QI (mV M) Qk) → PS M 0 [(0, .ref c0)] [] σ (0, 0)) : K_X2_readsClause l V c0 σ Qk :=
  Ka_of (by decide +kernel) rfl rfl (Nat.le_of_ble_eq_true rfl) (fun M h1 h2 h3 C => h M h1 h2 h3 (by rw [h2]; exact C))
set_option maxRecDepth 100000 in
set_option maxHeartbeats 4000000 in
theorem s_X2_readsClause_0 {M : Mx} {Qk : Int32 → Sg → Prop} (C : Cx M cX2_readsClause (some .boolean) RX2 wsX2_readsClause (rmz 21) 0 0 (QI (mV M) Qk)) (hN : mN M = 3) {c0 : Nat} (hc0 : kd c0 = (12, 0)) (lc0 : c0 ∈ ids (mV M)) {σ : Sg} (h : K_X2_signAmong (mL M) (mV M) c0 0 σ (fun r2 σ1 => ((r2 < 0 → Qk (0 : Int32) σ1) ∧ (¬ r2 < 0 → K_X2_readsWord (mL M) (mV M) c0 r2 σ1 (fun r5 σ4 => ((¬ r5 = 0 → K_X2_readsNumber (mL M) (mV M) c0 σ4 (fun r8 σ7 => ((0 ≤ r8 → (((1 : Int32) < r2 → K_X2_keeps (mL M) (mV M) c0 r2 r8 σ7 (fun σ11 => Qk (1 : Int32) σ11)) ∧ (¬ (1 : Int32) < r2 → K_X2_takes (mL M) (mV M) c0 (32 : Int32) σ7 (fun r13 σ12 => ((r13 = 0 → Qk (0 : Int32) σ12) ∧ (¬ r13 = 0 → K_X2_readsEither_r0 (mL M) (mV M) c0 (0 : Int32) σ12 (fun r16 σ15 => ((¬ r16 = 0 → K_X2_keeps (mL M) (mV M) c0 r2 r8 σ15 (fun σ18 => Qk (1 : Int32) σ18)) ∧ (r16 = 0 → Qk (0 : Int32) σ15))))))))) ∧ (¬ 0 ≤ r8 → Qk (0 : Int32) σ7)))) ∧ (r5 = 0 → Qk (0 : Int32) σ4))))))) : PS M 0 [(0, .ref c0)] [] σ (0, 0) := by
  refine P_aload_n C dX2_readsClause_0 0 rfl ?_
  refine P_ldcS C (i := 0) (by decide +kernel) rfl dX2_readsClause_1 ?_
  refine P_ci (R_v (ci := 2) C kv_X2_readsClause_X2_signAmong (As := [.ref (200 + 0)]) rfl hc0 rfl lc0 (Nat.le_of_ble_eq_true rfl) dX2_readsClause_3 ⟨Nat.le_refl _, Nat.le_refl _⟩ h) (fun r2 σ1 h => ?_)
  refine P_istore_n C dX2_readsClause_6 (by rw [hN]; decide) rfl ?_
  refine P_iload_n C dX2_readsClause_7 0 rfl ?_
  refine P_if_lt C dX2_readsClause_8 (tgt := 19) (by decide +kernel) (fun q3 => ?_) (fun q3 => ?_)
  · have h := h.1 q3
    refine P_iconst C dX2_readsClause_19 (v := (0 : Int32)) rfl ?_
    exact P_zret C (by decide +kernel) dX2_readsClause_20 h
  · have h := h.2 q3
    refine P_aload_n C dX2_readsClause_11 1 rfl ?_
    refine P_iload_n C dX2_readsClause_12 0 rfl ?_
    refine P_ci (R_v (ci := 2) C kv_X2_readsClause_X2_readsWord (As := [.int r2]) rfl hc0 rfl lc0 (Nat.le_of_ble_eq_true rfl) dX2_readsClause_13 ⟨Nat.le_refl _, Nat.le_refl _⟩ h) (fun r5 σ4 h => ?_)
    refine P_if_ne C dX2_readsClause_16 (tgt := 21) (by decide +kernel) (fun q6 => ?_) (fun q6 => ?_)
    · have h := h.1 q6
      refine P_aload_n C dX2_readsClause_21 1 rfl ?_
      refine P_ci (R_v (ci := 2) C kv_X2_readsClause_X2_readsNumber (As := []) rfl hc0 rfl lc0 (Nat.le_of_ble_eq_true rfl) dX2_readsClause_22 ⟨Nat.le_refl _, Nat.le_refl _⟩ h) (fun r8 σ7 h => ?_)
      refine P_istore_n C dX2_readsClause_25 (by rw [hN]; decide) rfl ?_
      refine P_iload_n C dX2_readsClause_26 0 rfl ?_
      refine P_if_ge C dX2_readsClause_27 (tgt := 32) (by decide +kernel) (fun q9 => ?_) (fun q9 => ?_)
      · have h := h.1 q9
        refine P_iload_n C dX2_readsClause_32 1 rfl ?_
        refine P_iconst C dX2_readsClause_33 (v := (1 : Int32)) rfl ?_
        refine P_icmp_gt C dX2_readsClause_34 (tgt := 56) (by decide +kernel) (fun q10 => ?_) (fun q10 => ?_)
        · have h := h.1 q10
          refine P_aload_n C dX2_readsClause_56 2 rfl ?_
          refine P_iload_n C dX2_readsClause_57 1 rfl ?_
          refine P_iload_n C dX2_readsClause_58 0 rfl ?_
          refine P_cv (R_v (ci := 2) C kv_X2_readsClause_X2_keeps (As := [.int r2, .int r8]) rfl hc0 rfl lc0 (Nat.le_of_ble_eq_true rfl) dX2_readsClause_59 ⟨Nat.le_refl _, Nat.le_refl _⟩ h) (fun σ11 h => ?_)
          refine P_iconst C dX2_readsClause_62 (v := (1 : Int32)) rfl ?_
          exact P_zret C (by decide +kernel) dX2_readsClause_63 h
        · have h := h.2 q10
          refine P_aload_n C dX2_readsClause_37 2 rfl ?_
          refine P_bipush C dX2_readsClause_38 (v := (32 : Int32)) rfl ?_
          refine P_ci (R_v (ci := 2) C kv_X2_readsClause_X2_takes (As := [.int (32 : Int32)]) rfl hc0 rfl lc0 (Nat.le_of_ble_eq_true rfl) dX2_readsClause_40 ⟨Nat.le_refl _, Nat.le_refl _⟩ h) (fun r13 σ12 h => ?_)
          refine P_if_eq C dX2_readsClause_43 (tgt := 54) (by decide +kernel) (fun q14 => ?_) (fun q14 => ?_)
          · have h := h.1 q14
            refine P_iconst C dX2_readsClause_54 (v := (0 : Int32)) rfl ?_
            exact P_zret C (by decide +kernel) dX2_readsClause_55 h
          · have h := h.2 q14
            refine P_aload_n C dX2_readsClause_46 2 rfl ?_
            refine P_iconst C dX2_readsClause_47 (v := (0 : Int32)) rfl ?_
            refine P_ci (R_v (ci := 2) C kv_X2_readsClause_X2_readsEither_r0 (As := [.int (0 : Int32)]) rfl hc0 rfl lc0 (Nat.le_of_ble_eq_true rfl) dX2_readsClause_48 ⟨Nat.le_refl _, Nat.le_refl _⟩ h) (fun r16 σ15 h => ?_)
            refine P_if_ne C dX2_readsClause_51 (tgt := 56) (by decide +kernel) (fun q17 => ?_) (fun q17 => ?_)
            · have h := h.1 q17
              refine P_aload_n C dX2_readsClause_56 2 rfl ?_
              refine P_iload_n C dX2_readsClause_57 1 rfl ?_
              refine P_iload_n C dX2_readsClause_58 0 rfl ?_
              refine P_cv (R_v (ci := 2) C kv_X2_readsClause_X2_keeps (As := [.int r2, .int r8]) rfl hc0 rfl lc0 (Nat.le_of_ble_eq_true rfl) dX2_readsClause_59 ⟨Nat.le_refl _, Nat.le_refl _⟩ h) (fun σ18 h => ?_)
              refine P_iconst C dX2_readsClause_62 (v := (1 : Int32)) rfl ?_
              exact P_zret C (by decide +kernel) dX2_readsClause_63 h
            · have h := h.2 q17
              refine P_iconst C dX2_readsClause_54 (v := (0 : Int32)) rfl ?_
              exact P_zret C (by decide +kernel) dX2_readsClause_55 h
      · have h := h.2 q9
        refine P_iconst C dX2_readsClause_30 (v := (0 : Int32)) rfl ?_
        exact P_zret C (by decide +kernel) dX2_readsClause_31 h
    · have h := h.2 q6
      refine P_iconst C dX2_readsClause_19 (v := (0 : Int32)) rfl ?_
      exact P_zret C (by decide +kernel) dX2_readsClause_20 h
theorem pa_X2_reads_9 : PA RX2 wsX2_reads 9 2 0 "NineMowers$Field" .int := by
  show _ ∧ _ ∧ _ ∧ _ ∧ _ ∧ _ ∧ _ ∧ _
  exact ⟨by decide +kernel, fun _ h => List.mem_cons_of_mem _ (List.mem_append_right _ h), List.mem_of_getElem? (i := 1) rfl, rfl, rfl, by decide +kernel, ⟨tyX2, tyX2_ok⟩, nmX2⟩
theorem pa_X2_reads_15 : PA RX2 wsX2_reads 15 2 1 "NineMowers$Field" .int := by
  show _ ∧ _ ∧ _ ∧ _ ∧ _ ∧ _ ∧ _ ∧ _
  exact ⟨by decide +kernel, fun _ h => List.mem_cons_of_mem _ (List.mem_append_right _ h), List.mem_of_getElem? (i := 2) rfl, rfl, rfl, by decide +kernel, ⟨tyX2, tyX2_ok⟩, nmX2⟩
theorem pa_X2_reads_18 : PA RX2 wsX2_reads 18 2 2 "NineMowers$Field" .int := by
  show _ ∧ _ ∧ _ ∧ _ ∧ _ ∧ _ ∧ _ ∧ _
  exact ⟨by decide +kernel, fun _ h => List.mem_cons_of_mem _ (List.mem_append_right _ h), List.mem_of_getElem? (i := 3) rfl, rfl, rfl, by decide +kernel, ⟨tyX2, tyX2_ok⟩, nmX2⟩
theorem pa_X2_reads_25 : PA RX2 wsX2_reads 25 2 4 "NineMowers$Field" .int := by
  show _ ∧ _ ∧ _ ∧ _ ∧ _ ∧ _ ∧ _ ∧ _
  exact ⟨by decide +kernel, fun _ h => List.mem_cons_of_mem _ (List.mem_append_right _ h), List.mem_of_getElem? (i := 4) rfl, rfl, rfl, by decide +kernel, ⟨tyX2, tyX2_ok⟩, nmX2⟩
theorem pa_X2_reads_37 : PA RX2 wsX2_reads 37 2 8 "NineMowers$Field" .int := by
  show _ ∧ _ ∧ _ ∧ _ ∧ _ ∧ _ ∧ _ ∧ _
  exact ⟨by decide +kernel, fun _ h => List.mem_cons_of_mem _ (List.mem_append_right _ h), List.mem_of_getElem? (i := 5) rfl, rfl, rfl, by decide +kernel, ⟨tyX2, tyX2_ok⟩, nmX2⟩
theorem pa_X2_reads_40 : PA RX2 wsX2_reads 40 2 9 "NineMowers$Field" (.array .byte) := by
  show _ ∧ _ ∧ _ ∧ _ ∧ _ ∧ _ ∧ _ ∧ _
  exact ⟨by decide +kernel, fun _ h => List.mem_cons_of_mem _ (List.mem_append_right _ h), List.mem_of_getElem? (i := 6) rfl, rfl, rfl, by decide +kernel, ⟨tyX2, tyX2_ok⟩, nmX2⟩
theorem km_X2_reads_min : KM RX2 wsX2_reads 50 Lib.Math.min.name Lib.Math.min.code := ⟨List.mem_of_getElem? (i := 7) rfl, List.mem_of_getElem? (i := 8) rfl, List.mem_of_getElem? (i := 9) rfl, List.mem_of_getElem? (i := 10) rfl⟩
theorem pa_X2_reads_44 : PA RX2 wsX2_reads 44 2 10 "NineMowers$Field" .int := by
  show _ ∧ _ ∧ _ ∧ _ ∧ _ ∧ _ ∧ _ ∧ _
  exact ⟨by decide +kernel, fun _ h => List.mem_cons_of_mem _ (List.mem_append_right _ h), List.mem_of_getElem? (i := 11) rfl, rfl, rfl, by decide +kernel, ⟨tyX2, tyX2_ok⟩, nmX2⟩
theorem pa_X2_reads_47 : PA RX2 wsX2_reads 47 2 11 "NineMowers$Field" .int := by
  show _ ∧ _ ∧ _ ∧ _ ∧ _ ∧ _ ∧ _ ∧ _
  exact ⟨by decide +kernel, fun _ h => List.mem_cons_of_mem _ (List.mem_append_right _ h), List.mem_of_getElem? (i := 12) rfl, rfl, rfl, by decide +kernel, ⟨tyX2, tyX2_ok⟩, nmX2⟩
theorem kv_X2_reads_X2_readsClause : KV RX2 wsX2_reads (rmz 22) 56 RX2 yX2_readsClause wsX2_readsClause (rmz 21) 0 := ⟨_, _, _, _, gX2_reads_X2_readsClause, rfl, by decide +kernel, by decide +kernel⟩
theorem fa_X2_reads_47 : FA RX2 wsX2_reads 47 2 11 "NineMowers$Field" := by
  show _ ∧ _ ∧ _ ∧ _
  exact ⟨by decide +kernel, fun _ h => List.mem_cons_of_mem _ (List.mem_append_right _ h), List.mem_of_getElem? (i := 12) rfl, Or.inl rfl⟩
theorem fa_X2_reads_44 : FA RX2 wsX2_reads 44 2 10 "NineMowers$Field" := by
  show _ ∧ _ ∧ _ ∧ _
  exact ⟨by decide +kernel, fun _ h => List.mem_cons_of_mem _ (List.mem_append_right _ h), List.mem_of_getElem? (i := 11) rfl, Or.inl rfl⟩
theorem kv_X2_reads_X2_takes : KV RX2 wsX2_reads (rmz 22) 60 RX2 yX2_takes wsX2_takes (rmz 1) 1 := ⟨_, _, _, _, gX2_reads_X2_takes, rfl, by decide +kernel, by decide +kernel⟩
noncomputable def K_X2_reads (l : Launch) (V : Vx) (c0 : Nat) (a1 : Nat) (a2 : Int32) (σ : Sg) (Qk : Int32 → Sg → Prop) : Prop := Ka l V yX2_reads wsX2_reads (rmz 22) 0 0 [.ref c0, .ref a1, .int a2] σ (QI V Qk)
theorem e_X2_reads {l : Launch} {V : Vx} {c0 : Nat} {a1 : Nat} {a2 : Int32} {σ : Sg} {Qk : Int32 → Sg → Prop} (h : ∀ M : Mx, mL M = l → mV M = V → mN M = 4 → Cx M cX2_reads (some .boolean) RX2 wsX2_reads (rmz 22) 0 0 (QI (mV M) Qk) → PS M 0 [(0, .ref c0), (1, .ref a1), (2, .int a2)] [] σ (0, 0)) : K_X2_reads l V c0 a1 a2 σ Qk :=
  Ka_of (by decide +kernel) rfl rfl (Nat.le_of_ble_eq_true rfl) (fun M h1 h2 h3 C => h M h1 h2 h3 (by rw [h2]; exact C))
set_option maxRecDepth 100000 in
set_option maxHeartbeats 4000000 in
theorem s_X2_reads_0 {M : Mx} {Qk : Int32 → Sg → Prop} (C : Cx M cX2_reads (some .boolean) RX2 wsX2_reads (rmz 22) 0 0 (QI (mV M) Qk)) (hN : mN M = 4) {c0 : Nat} {a1 : Nat} {a2 : Int32} (hc0 : kd c0 = (12, 0)) (lc0 : c0 ∈ ids (mV M)) {na1 : Nat} (ha1 : kd a1 = (1, na1)) (la1 : a1 ∈ ids (mV M)) {σ : Sg} (h : (∀ σ1 : Sg, σ1 = si σ c0 0 (2 : Int32) → (∀ σ2 : Sg, σ2 = si σ1 c0 1 (1 : Int32) → (∀ σ3 : Sg, σ3 = si σ2 c0 2 (60 : Int32) → (∀ σ4 : Sg, σ4 = si σ3 c0 4 (0 : Int32) → (∀ σ5 : Sg, σ5 = si σ4 c0 8 (0 : Int32) → (∀ σ6 : Sg, σ6 = sr σ5 c0 9 (some a1) → (∀ v7 : Int32, v7 = jmin a2 (Int32.ofNat na1) → (∀ σ8 : Sg, σ8 = si σ6 c0 10 v7 → (∀ σ9 : Sg, σ9 = si σ8 c0 11 (0 : Int32) → PS M 48 [(0, .ref c0), (3, .int (1 : Int32))] [] σ9 (0, 0))))))))))) : PS M 0 [(0, .ref c0), (1, .ref a1), (2, .int a2)] [] σ (0, 0) := by
  refine P_aload_n C dX2_reads_0 0 rfl ?_
  refine P_iconst C dX2_reads_1 (v := (2 : Int32)) rfl ?_
  refine P_putI C pa_X2_reads_9 hc0 rfl lc0 dX2_reads_2 ?_
  refine P_nm (fun σ1 eσ1 => ?_)
  have h := h σ1 eσ1
  refine P_aload_n C dX2_reads_5 0 rfl ?_
  refine P_iconst C dX2_reads_6 (v := (1 : Int32)) rfl ?_
  refine P_putI C pa_X2_reads_15 hc0 rfl lc0 dX2_reads_7 ?_
  refine P_nm (fun σ2 eσ2 => ?_)
  have h := h σ2 eσ2
  refine P_aload_n C dX2_reads_10 0 rfl ?_
  refine P_bipush C dX2_reads_11 (v := (60 : Int32)) rfl ?_
  refine P_putI C pa_X2_reads_18 hc0 rfl lc0 dX2_reads_13 ?_
  refine P_nm (fun σ3 eσ3 => ?_)
  have h := h σ3 eσ3
  refine P_aload_n C dX2_reads_16 0 rfl ?_
  refine P_iconst C dX2_reads_17 (v := (0 : Int32)) rfl ?_
  refine P_putI C pa_X2_reads_25 hc0 rfl lc0 dX2_reads_18 ?_
  refine P_nm (fun σ4 eσ4 => ?_)
  have h := h σ4 eσ4
  refine P_aload_n C dX2_reads_21 0 rfl ?_
  refine P_iconst C dX2_reads_22 (v := (0 : Int32)) rfl ?_
  refine P_putI C pa_X2_reads_37 hc0 rfl lc0 dX2_reads_23 ?_
  refine P_nm (fun σ5 eσ5 => ?_)
  have h := h σ5 eσ5
  refine P_aload_n C dX2_reads_26 0 rfl ?_
  refine P_aload_n C dX2_reads_27 1 rfl ?_
  refine P_putD C pa_X2_reads_40 hc0 rfl lc0 (fun _ => rfl) (fun _ => rfl) dX2_reads_28 ?_
  refine P_nm (fun σ6 eσ6 => ?_)
  have h := h σ6 eσ6
  refine P_aload_n C dX2_reads_31 0 rfl ?_
  refine P_iload_n C dX2_reads_32 2 rfl ?_
  refine P_aload_n C dX2_reads_33 1 rfl ?_
  refine P_alen C ha1 (by decide +kernel) la1 (v := Int32.ofNat na1) rfl dX2_reads_34 ?_
  refine P_min C km_X2_reads_min (by decide +kernel) (Nat.le_of_ble_eq_true rfl) ⟨Nat.le_refl _, Nat.le_refl _⟩ dX2_reads_35 ?_
  refine P_nmi (fun v7 ev7 => ?_)
  have h := h v7 ev7
  refine P_putI C pa_X2_reads_44 hc0 rfl lc0 dX2_reads_38 ?_
  refine P_nm (fun σ8 eσ8 => ?_)
  have h := h σ8 eσ8
  refine P_aload_n C dX2_reads_41 0 rfl ?_
  refine P_iconst C dX2_reads_42 (v := (0 : Int32)) rfl ?_
  refine P_putI C pa_X2_reads_47 hc0 rfl lc0 dX2_reads_43 ?_
  refine P_nm (fun σ9 eσ9 => ?_)
  have h := h σ9 eσ9
  refine P_iconst C dX2_reads_46 (v := (1 : Int32)) rfl ?_
  refine P_istore_n C dX2_reads_47 (by rw [hN]; decide) rfl ?_
  exact P_sub [1, 0] rfl h
set_option maxRecDepth 100000 in
set_option maxHeartbeats 4000000 in
theorem s_X2_reads_48 {M : Mx} {Qk : Int32 → Sg → Prop} (C : Cx M cX2_reads (some .boolean) RX2 wsX2_reads (rmz 22) 0 0 (QI (mV M) Qk)) (hN : mN M = 4) {x0 : Nat} {x3 : Int32} (hx0 : kd x0 = (12, 0)) (lx0 : x0 ∈ ids (mV M)) {σ : Sg} (h : (((10 : Int32) ≤ x3 → K_X2_readsClause (mL M) (mV M) x0 σ (fun r3 σ2 => ((r3 = 0 → Qk (0 : Int32) σ2) ∧ (¬ r3 = 0 → ((¬ (gi σ2 x0 11) = (gi σ2 x0 10) → Qk (0 : Int32) σ2) ∧ ((gi σ2 x0 11) = (gi σ2 x0 10) → Qk (1 : Int32) σ2)))))) ∧ (¬ (10 : Int32) ≤ x3 → K_X2_readsClause (mL M) (mV M) x0 σ (fun r7 σ6 => ((¬ r7 = 0 → K_X2_takes (mL M) (mV M) x0 (59 : Int32) σ6 (fun r10 σ9 => ((¬ r10 = 0 → (∀ v12 : Int32, v12 = x3 + 1 → PS M 48 [(0, .ref x0), (3, .int v12)] [] σ9 (0, 0))) ∧ (r10 = 0 → ((¬ (gi σ9 x0 11) = (gi σ9 x0 10) → Qk (0 : Int32) σ9) ∧ ((gi σ9 x0 11) = (gi σ9 x0 10) → Qk (1 : Int32) σ9)))))) ∧ (r7 = 0 → Qk (0 : Int32) σ6)))))) : PS M 48 [(0, .ref x0), (3, .int x3)] [] σ (0, 0) := by
  refine P_iload_n C dX2_reads_48 1 rfl ?_
  refine P_bipush C dX2_reads_49 (v := (10 : Int32)) rfl ?_
  refine P_icmp_ge C dX2_reads_51 (tgt := 95) (by decide +kernel) (fun q1 => ?_) (fun q1 => ?_)
  · have h := h.1 q1
    refine P_aload_n C dX2_reads_95 0 rfl ?_
    refine P_ci (R_v (ci := 2) C kv_X2_reads_X2_readsClause (As := []) rfl hx0 rfl lx0 (Nat.le_of_ble_eq_true rfl) dX2_reads_96 ⟨Nat.le_refl _, Nat.le_refl _⟩ h) (fun r3 σ2 h => ?_)
    refine P_if_eq C dX2_reads_99 (tgt := 117) (by decide +kernel) (fun q4 => ?_) (fun q4 => ?_)
    · have h := h.1 q4
      refine P_iconst C dX2_reads_117 (v := (0 : Int32)) rfl ?_
      exact P_zret C (by decide +kernel) dX2_reads_118 h
    · have h := h.2 q4
      refine P_aload_n C dX2_reads_102 0 rfl ?_
      refine P_getI C fa_X2_reads_47 hx0 rfl lx0 dX2_reads_103 ?_
      refine P_aload_n C dX2_reads_106 0 rfl ?_
      refine P_getI C fa_X2_reads_44 hx0 rfl lx0 dX2_reads_107 ?_
      refine P_icmp_ne C dX2_reads_110 (tgt := 117) (by decide +kernel) (fun q5 => ?_) (fun q5 => ?_)
      · have h := h.1 q5
        refine P_iconst C dX2_reads_117 (v := (0 : Int32)) rfl ?_
        exact P_zret C (by decide +kernel) dX2_reads_118 h
      · have h := h.2 q5
        refine P_iconst C dX2_reads_113 (v := (1 : Int32)) rfl ?_
        refine P_goto C dX2_reads_114 (tgt := 118) (by decide +kernel) ?_
        exact P_zret C (by decide +kernel) dX2_reads_118 h
  · have h := h.2 q1
    refine P_aload_n C dX2_reads_54 0 rfl ?_
    refine P_ci (R_v (ci := 2) C kv_X2_reads_X2_readsClause (As := []) rfl hx0 rfl lx0 (Nat.le_of_ble_eq_true rfl) dX2_reads_55 ⟨Nat.le_refl _, Nat.le_refl _⟩ h) (fun r7 σ6 h => ?_)
    refine P_if_ne C dX2_reads_58 (tgt := 63) (by decide +kernel) (fun q8 => ?_) (fun q8 => ?_)
    · have h := h.1 q8
      refine P_aload_n C dX2_reads_63 0 rfl ?_
      refine P_bipush C dX2_reads_64 (v := (59 : Int32)) rfl ?_
      refine P_ci (R_v (ci := 2) C kv_X2_reads_X2_takes (As := [.int (59 : Int32)]) rfl hx0 rfl lx0 (Nat.le_of_ble_eq_true rfl) dX2_reads_66 ⟨Nat.le_refl _, Nat.le_refl _⟩ h) (fun r10 σ9 h => ?_)
      refine P_if_ne C dX2_reads_69 (tgt := 89) (by decide +kernel) (fun q11 => ?_) (fun q11 => ?_)
      · have h := h.1 q11
        obtain ⟨v12, ev12⟩ : ∃ v : Int32, v = x3 + 1 := ⟨_, rfl⟩
        have h := h v12 ev12
        refine P_iinc (v := v12) C dX2_reads_89 1 rfl (by rw [ev12]; rfl) (by rw [hN]; decide) rfl ?_
        refine P_goto C dX2_reads_92 (tgt := 48) (by decide +kernel) ?_
        exact P_sub [1, 0] rfl h
      · have h := h.2 q11
        refine P_aload_n C dX2_reads_72 0 rfl ?_
        refine P_getI C fa_X2_reads_47 hx0 rfl lx0 dX2_reads_73 ?_
        refine P_aload_n C dX2_reads_76 0 rfl ?_
        refine P_getI C fa_X2_reads_44 hx0 rfl lx0 dX2_reads_77 ?_
        refine P_icmp_ne C dX2_reads_80 (tgt := 87) (by decide +kernel) (fun q13 => ?_) (fun q13 => ?_)
        · have h := h.1 q13
          refine P_iconst C dX2_reads_87 (v := (0 : Int32)) rfl ?_
          exact P_zret C (by decide +kernel) dX2_reads_88 h
        · have h := h.2 q13
          refine P_iconst C dX2_reads_83 (v := (1 : Int32)) rfl ?_
          refine P_goto C dX2_reads_84 (tgt := 88) (by decide +kernel) ?_
          exact P_zret C (by decide +kernel) dX2_reads_88 h
    · have h := h.2 q8
      refine P_iconst C dX2_reads_61 (v := (0 : Int32)) rfl ?_
      exact P_zret C (by decide +kernel) dX2_reads_62 h
theorem fa_X4_strides_19 : FA RX4 wsX4_strides 19 1 6 "NineMowers$Course" := by
  show _ ∧ _ ∧ _ ∧ _
  exact ⟨by decide +kernel, fun _ h => List.mem_cons_of_mem _ (List.mem_append_left _ (List.mem_append_left _ (List.mem_append_left _ (List.mem_append_left _ (List.mem_append_left _ (List.mem_append_left _ (List.mem_append_left _ (List.mem_append_right _ h)))))))), List.mem_of_getElem? (i := 1) rfl, Or.inl rfl⟩
theorem fa_X4_strides_13 : FA RX4 wsX4_strides 13 4 1 "NineMowers$Mower" := by
  show _ ∧ _ ∧ _ ∧ _
  exact ⟨by decide +kernel, fun _ h => List.mem_cons_of_mem _ (List.mem_append_left _ (List.mem_append_left _ (List.mem_append_left _ (List.mem_append_left _ (List.mem_append_right _ h))))), List.mem_of_getElem? (i := 2) rfl, Or.inl rfl⟩
noncomputable def K_X4_strides (l : Launch) (V : Vx) (c0 : Nat) (a1 : Int32) (a2 : Nat) (a3 : Int32) (σ : Sg) (Qk : Int32 → Sg → Prop) : Prop := Ka l V yX4_strides wsX4_strides (rmz 0) 0 0 [.ref c0, .int a1, .ref a2, .int a3] σ (QI V Qk)
theorem e_X4_strides {l : Launch} {V : Vx} {c0 : Nat} {a1 : Int32} {a2 : Nat} {a3 : Int32} {σ : Sg} {Qk : Int32 → Sg → Prop} (h : ∀ M : Mx, mL M = l → mV M = V → mN M = 5 → Cx M cX4_strides (some .int) RX4 wsX4_strides (rmz 0) 0 0 (QI (mV M) Qk) → PS M 0 [(0, .ref c0), (1, .int a1), (2, .ref a2), (3, .int a3)] [] σ (0, 0)) : K_X4_strides l V c0 a1 a2 a3 σ Qk :=
  Ka_of (by decide +kernel) rfl rfl (Nat.le_of_ble_eq_true rfl) (fun M h1 h2 h3 C => h M h1 h2 h3 (by rw [h2]; exact C))
set_option maxRecDepth 100000 in
set_option maxHeartbeats 4000000 in
theorem s_X4_strides_0 {M : Mx} {Qk : Int32 → Sg → Prop} (C : Cx M cX4_strides (some .int) RX4 wsX4_strides (rmz 0) 0 0 (QI (mV M) Qk)) (hN : mN M = 5) {c0 : Nat} {a1 : Int32} {a2 : Nat} {a3 : Int32} {ci0 : Nat} (sc0 : ci0 = 0 ∨ ci0 = 3 ∨ ci0 = 4 ∨ ci0 = 6 ∨ ci0 = 7 ∨ ci0 = 8 ∨ ci0 = 10) (hc0 : kd c0 = (10 + ci0, 0)) (lc0 : c0 ∈ ids (mV M)) (ha2 : isC a2) {σ : Sg} (h : (vp_in (gi σ c0 1) 6 ∧ (∀ v2 : Int32, v2 = (gi σ (a2 + 5) (gi σ c0 1).toNatClampNeg) / (20 : Int32) → ((a1 ≤ v2 → Qk (0 : Int32) σ) ∧ (¬ a1 ≤ v2 → Qk (a1 - v2) σ))))) : PS M 0 [(0, .ref c0), (1, .int a1), (2, .ref a2), (3, .int a3)] [] σ (0, 0) := by
  refine P_aload_n C dX4_strides_0 2 rfl ?_
  refine P_getS C (e := (a2 + 5)) fa_X4_strides_19 (kdC_0 ha2) (d := 5) rfl (fxl (fxC_0 ha2)) rfl dX4_strides_1 ?_
  refine P_aload_n C dX4_strides_4 0 rfl ?_
  refine P_getM C fa_X4_strides_13 (by decide +kernel) sc0 hc0 lc0 dX4_strides_5 ?_
  obtain ⟨hv1, h⟩ := h
  refine P_iald C (kdC_5 ha2) (fxl (fxC_5 ha2)) hv1 dX4_strides_8 ?_
  refine P_bipush C dX4_strides_9 (v := (20 : Int32)) rfl ?_
  refine P_idiv C dX4_strides_11 (by decide +kernel) ?_
  refine P_nmi (fun v2 ev2 => ?_)
  have h := h v2 ev2
  refine P_istore C dX4_strides_12 (by rw [hN]; decide) rfl ?_
  refine P_iload_n C dX4_strides_14 2 rfl ?_
  refine P_iload C dX4_strides_15 0 rfl ?_
  refine P_icmp_le C dX4_strides_17 (tgt := 27) (by decide +kernel) (fun q3 => ?_) (fun q3 => ?_)
  · have h := h.1 q3
    refine P_iconst C dX4_strides_27 (v := (0 : Int32)) rfl ?_
    exact P_iret C dX4_strides_28 h
  · have h := h.2 q3
    refine P_iload_n C dX4_strides_20 2 rfl ?_
    refine P_iload C dX4_strides_21 0 rfl ?_
    refine P_isub C dX4_strides_23 ?_
    refine P_goto C dX4_strides_24 (tgt := 28) (by decide +kernel) ?_
    exact P_iret C dX4_strides_28 h
noncomputable def K_X8_strides (l : Launch) (V : Vx) (c0 : Nat) (a1 : Int32) (a2 : Nat) (a3 : Int32) (σ : Sg) (Qk : Int32 → Sg → Prop) : Prop := Ka l V yX8_strides wsX8_strides (rmz 0) 0 0 [.ref c0, .int a1, .ref a2, .int a3] σ (QI V Qk)
theorem e_X8_strides {l : Launch} {V : Vx} {c0 : Nat} {a1 : Int32} {a2 : Nat} {a3 : Int32} {σ : Sg} {Qk : Int32 → Sg → Prop} (h : ∀ M : Mx, mL M = l → mV M = V → mN M = 4 → Cx M cX8_strides (some .int) RX8 wsX8_strides (rmz 0) 0 0 (QI (mV M) Qk) → PS M 0 [(0, .ref c0), (1, .int a1), (2, .ref a2), (3, .int a3)] [] σ (0, 0)) : K_X8_strides l V c0 a1 a2 a3 σ Qk :=
  Ka_of (by decide +kernel) rfl rfl (Nat.le_of_ble_eq_true rfl) (fun M h1 h2 h3 C => h M h1 h2 h3 (by rw [h2]; exact C))
set_option maxRecDepth 100000 in
set_option maxHeartbeats 4000000 in
theorem s_X8_strides_0 {M : Mx} {Qk : Int32 → Sg → Prop} (C : Cx M cX8_strides (some .int) RX8 wsX8_strides (rmz 0) 0 0 (QI (mV M) Qk)) (hN : mN M = 4) {c0 : Nat} {a1 : Int32} {a2 : Nat} {a3 : Int32} {ci0 : Nat} (sc0 : ci0 = 6 ∨ ci0 = 8) (hc0 : kd c0 = (10 + ci0, 0)) (lc0 : c0 ∈ ids (mV M)) (ha2 : isC a2) {σ : Sg} (h : Qk a1 σ) : PS M 0 [(0, .ref c0), (1, .int a1), (2, .ref a2), (3, .int a3)] [] σ (0, 0) := by
  refine P_iload_n C dX8_strides_0 1 rfl ?_
  exact P_iret C dX8_strides_1 h
theorem ks_X3_strides_X4_strides : KSU RX3 wsX3_strides (rmz 1) 7 yX4_strides wsX4_strides (rmz 0) 3 := ⟨_, _, _, _, gX3_strides_X4_strides_s7, rfl, by decide +kernel, by decide +kernel⟩
theorem fa_X3_strides_11 : FA RX3 wsX3_strides 11 1 5 "NineMowers$Course" := by
  show _ ∧ _ ∧ _ ∧ _
  exact ⟨by decide +kernel, fun _ h => List.mem_cons_of_mem _ (List.mem_append_left _ (List.mem_append_left _ (List.mem_append_left _ (List.mem_append_left _ (List.mem_append_left _ (List.mem_append_left _ (List.mem_append_left _ (List.mem_append_right _ h)))))))), List.mem_of_getElem? (i := 1) rfl, Or.inl rfl⟩
theorem fa_X3_strides_17 : FA RX3 wsX3_strides 17 3 1 "NineMowers$Hasty" := by
  show _ ∧ _ ∧ _ ∧ _
  exact ⟨by decide +kernel, fun _ h => List.mem_cons_of_mem _ (List.mem_append_left _ (List.mem_append_left _ (List.mem_append_left _ (List.mem_append_left _ (List.mem_append_left _ (List.mem_append_right _ h)))))), List.mem_of_getElem? (i := 2) rfl, Or.inr (List.mem_of_getElem? (i := 3) rfl)⟩
theorem fa_X3_strides_23 : FA RX3 wsX3_strides 23 3 2 "NineMowers$Hasty" := by
  show _ ∧ _ ∧ _ ∧ _
  exact ⟨by decide +kernel, fun _ h => List.mem_cons_of_mem _ (List.mem_append_left _ (List.mem_append_left _ (List.mem_append_left _ (List.mem_append_left _ (List.mem_append_left _ (List.mem_append_right _ h)))))), List.mem_of_getElem? (i := 4) rfl, Or.inr (List.mem_of_getElem? (i := 5) rfl)⟩
noncomputable def K_X3_strides (l : Launch) (V : Vx) (c0 : Nat) (a1 : Int32) (a2 : Nat) (a3 : Int32) (σ : Sg) (Qk : Int32 → Sg → Prop) : Prop := Ka l V yX3_strides wsX3_strides (rmz 1) 0 0 [.ref c0, .int a1, .ref a2, .int a3] σ (QI V Qk)
theorem e_X3_strides {l : Launch} {V : Vx} {c0 : Nat} {a1 : Int32} {a2 : Nat} {a3 : Int32} {σ : Sg} {Qk : Int32 → Sg → Prop} (h : ∀ M : Mx, mL M = l → mV M = V → mN M = 4 → Cx M cX3_strides (some .int) RX3 wsX3_strides (rmz 1) 0 0 (QI (mV M) Qk) → PS M 0 [(0, .ref c0), (1, .int a1), (2, .ref a2), (3, .int a3)] [] σ (0, 0)) : K_X3_strides l V c0 a1 a2 a3 σ Qk :=
  Ka_of (by decide +kernel) rfl rfl (Nat.le_of_ble_eq_true rfl) (fun M h1 h2 h3 C => h M h1 h2 h3 (by rw [h2]; exact C))
set_option maxRecDepth 100000 in
set_option maxHeartbeats 4000000 in
theorem s_X3_strides_0 {M : Mx} {Qk : Int32 → Sg → Prop} (C : Cx M cX3_strides (some .int) RX3 wsX3_strides (rmz 1) 0 0 (QI (mV M) Qk)) (hN : mN M = 4) {c0 : Nat} {a1 : Int32} {a2 : Nat} {a3 : Int32} {ci0 : Nat} (sc0 : ci0 = 3 ∨ ci0 = 7) (hc0 : kd c0 = (10 + ci0, 0)) (lc0 : c0 ∈ ids (mV M)) (ha2 : isC a2) {σ : Sg} (h : K_X4_strides (mL M) (mV M) c0 a1 a2 a3 σ (fun r3 σ2 => (vp_in (gi σ2 c0 1) 6 ∧ (((gi σ2 (a2 + 4) (gi σ2 c0 1).toNatClampNeg) ≤ (5 : Int32) → Qk (r3 + (0 : Int32)) σ2) ∧ (¬ (gi σ2 (a2 + 4) (gi σ2 c0 1).toNatClampNeg) ≤ (5 : Int32) → Qk (r3 + (gi σ2 c0 2)) σ2))))) : PS M 0 [(0, .ref c0), (1, .int a1), (2, .ref a2), (3, .int a3)] [] σ (0, 0) := by
  refine P_aload_n C dX3_strides_0 0 rfl ?_
  refine P_iload_n C dX3_strides_1 1 rfl ?_
  refine P_aload_n C dX3_strides_2 2 rfl ?_
  refine P_iload_n C dX3_strides_3 3 rfl ?_
  have key1 : ∀ Qz, K_X4_strides (mL M) (mV M) c0 a1 a2 a3 σ Qz → RS M 4 [(0, .ref c0), (1, .int a1), (2, .ref a2), (3, .int a3)] [.int a3, .ref a2, .int a1, .ref c0] [] σ (0, 0) 0 0 (QI (mV M) Qz (([.ref c0, .int a1, .ref a2, .int a3] : List Value).map (cv (mV M))).toArray) := by
    intro Qz h8
    rcases sc0 with rfl | rfl
    · exact R_su (ci := 3) C ks_X3_strides_X4_strides (As := [.int a1, .ref a2, .int a3]) rfl hc0 rfl lc0 (Nat.le_of_ble_eq_true rfl) dX3_strides_4 ⟨Nat.le_refl _, Nat.le_refl _⟩ h8
    · exact R_su (ci := 7) C ks_X3_strides_X4_strides (As := [.int a1, .ref a2, .int a3]) rfl hc0 rfl lc0 (Nat.le_of_ble_eq_true rfl) dX3_strides_4 ⟨Nat.le_refl _, Nat.le_refl _⟩ h8
  refine P_ci (key1 _ h) (fun r3 σ2 h => ?_)
  refine P_aload_n C dX3_strides_7 2 rfl ?_
  refine P_getS C (e := (a2 + 4)) fa_X3_strides_11 (kdC_0 ha2) (d := 4) rfl (fxl (fxC_0 ha2)) rfl dX3_strides_8 ?_
  refine P_aload_n C dX3_strides_11 0 rfl ?_
  refine P_getM C fa_X3_strides_17 (by decide +kernel) (by rcases sc0 with rfl | rfl <;> decide) hc0 lc0 dX3_strides_12 ?_
  obtain ⟨hv4, h⟩ := h
  refine P_iald C (kdC_4 ha2) (fxl (fxC_4 ha2)) hv4 dX3_strides_15 ?_
  refine P_iconst C dX3_strides_16 (v := (5 : Int32)) rfl ?_
  refine P_icmp_le C dX3_strides_17 (tgt := 27) (by decide +kernel) (fun q5 => ?_) (fun q5 => ?_)
  · have h := h.1 q5
    refine P_iconst C dX3_strides_27 (v := (0 : Int32)) rfl ?_
    refine P_iadd C dX3_strides_28 ?_
    exact P_iret C dX3_strides_29 h
  · have h := h.2 q5
    refine P_aload_n C dX3_strides_20 0 rfl ?_
    refine P_getM C fa_X3_strides_23 (by decide +kernel) (by rcases sc0 with rfl | rfl <;> decide) hc0 lc0 dX3_strides_21 ?_
    refine P_goto C dX3_strides_24 (tgt := 28) (by decide +kernel) ?_
    refine P_iadd C dX3_strides_28 ?_
    exact P_iret C dX3_strides_29 h
theorem ks_X0_strides_X4_strides : KSU RX0 wsX0_strides (rmz 1) 7 yX4_strides wsX4_strides (rmz 0) 3 := ⟨_, _, _, _, gX0_strides_X4_strides_s7, rfl, by decide +kernel, by decide +kernel⟩
noncomputable def K_X0_strides (l : Launch) (V : Vx) (c0 : Nat) (a1 : Int32) (a2 : Nat) (a3 : Int32) (σ : Sg) (Qk : Int32 → Sg → Prop) : Prop := Ka l V yX0_strides wsX0_strides (rmz 1) 0 0 [.ref c0, .int a1, .ref a2, .int a3] σ (QI V Qk)
theorem e_X0_strides {l : Launch} {V : Vx} {c0 : Nat} {a1 : Int32} {a2 : Nat} {a3 : Int32} {σ : Sg} {Qk : Int32 → Sg → Prop} (h : ∀ M : Mx, mL M = l → mV M = V → mN M = 4 → Cx M cX0_strides (some .int) RX0 wsX0_strides (rmz 1) 0 0 (QI (mV M) Qk) → PS M 0 [(0, .ref c0), (1, .int a1), (2, .ref a2), (3, .int a3)] [] σ (0, 0)) : K_X0_strides l V c0 a1 a2 a3 σ Qk :=
  Ka_of (by decide +kernel) rfl rfl (Nat.le_of_ble_eq_true rfl) (fun M h1 h2 h3 C => h M h1 h2 h3 (by rw [h2]; exact C))
set_option maxRecDepth 100000 in
set_option maxHeartbeats 4000000 in
theorem s_X0_strides_0 {M : Mx} {Qk : Int32 → Sg → Prop} (C : Cx M cX0_strides (some .int) RX0 wsX0_strides (rmz 1) 0 0 (QI (mV M) Qk)) (hN : mN M = 4) {c0 : Nat} {a1 : Int32} {a2 : Nat} {a3 : Int32} {ci0 : Nat} (sc0 : ci0 = 0 ∨ ci0 = 10) (hc0 : kd c0 = (10 + ci0, 0)) (lc0 : c0 ∈ ids (mV M)) (ha2 : isC a2) {σ : Sg} (h : K_X4_strides (mL M) (mV M) c0 a1 a2 a3 σ (fun r3 σ2 => Qk (r3 / (2 : Int32)) σ2)) : PS M 0 [(0, .ref c0), (1, .int a1), (2, .ref a2), (3, .int a3)] [] σ (0, 0) := by
  refine P_aload_n C dX0_strides_0 0 rfl ?_
  refine P_iload_n C dX0_strides_1 1 rfl ?_
  refine P_aload_n C dX0_strides_2 2 rfl ?_
  refine P_iload_n C dX0_strides_3 3 rfl ?_
  have key1 : ∀ Qz, K_X4_strides (mL M) (mV M) c0 a1 a2 a3 σ Qz → RS M 4 [(0, .ref c0), (1, .int a1), (2, .ref a2), (3, .int a3)] [.int a3, .ref a2, .int a1, .ref c0] [] σ (0, 0) 0 0 (QI (mV M) Qz (([.ref c0, .int a1, .ref a2, .int a3] : List Value).map (cv (mV M))).toArray) := by
    intro Qz h8
    rcases sc0 with rfl | rfl
    · exact R_su (ci := 0) C ks_X0_strides_X4_strides (As := [.int a1, .ref a2, .int a3]) rfl hc0 rfl lc0 (Nat.le_of_ble_eq_true rfl) dX0_strides_4 ⟨Nat.le_refl _, Nat.le_refl _⟩ h8
    · exact R_su (ci := 10) C ks_X0_strides_X4_strides (As := [.int a1, .ref a2, .int a3]) rfl hc0 rfl lc0 (Nat.le_of_ble_eq_true rfl) dX0_strides_4 ⟨Nat.le_refl _, Nat.le_refl _⟩ h8
  refine P_ci (key1 _ h) (fun r3 σ2 h => ?_)
  refine P_iconst C dX0_strides_7 (v := (2 : Int32)) rfl ?_
  refine P_idiv C dX0_strides_8 (by decide +kernel) ?_
  exact P_iret C dX0_strides_9 h
theorem ks_X6_strides_X8_strides : KSU RX6 wsX6_strides (rmz 1) 7 yX8_strides wsX8_strides (rmz 0) 3 := ⟨_, _, _, _, gX6_strides_X8_strides_s7, rfl, by decide +kernel, by decide +kernel⟩
theorem fa_X6_strides_11 : FA RX6 wsX6_strides 11 6 2 "NineMowers$Old" := by
  show _ ∧ _ ∧ _ ∧ _
  exact ⟨by decide +kernel, fun _ h => List.mem_cons_of_mem _ (List.mem_append_left _ (List.mem_append_left _ (List.mem_append_left _ (List.mem_append_right _ h)))), List.mem_of_getElem? (i := 1) rfl, Or.inr (List.mem_of_getElem? (i := 2) rfl)⟩
noncomputable def K_X6_strides (l : Launch) (V : Vx) (c0 : Nat) (a1 : Int32) (a2 : Nat) (a3 : Int32) (σ : Sg) (Qk : Int32 → Sg → Prop) : Prop := Ka l V yX6_strides wsX6_strides (rmz 1) 0 0 [.ref c0, .int a1, .ref a2, .int a3] σ (QI V Qk)
theorem e_X6_strides {l : Launch} {V : Vx} {c0 : Nat} {a1 : Int32} {a2 : Nat} {a3 : Int32} {σ : Sg} {Qk : Int32 → Sg → Prop} (h : ∀ M : Mx, mL M = l → mV M = V → mN M = 5 → Cx M cX6_strides (some .int) RX6 wsX6_strides (rmz 1) 0 0 (QI (mV M) Qk) → PS M 0 [(0, .ref c0), (1, .int a1), (2, .ref a2), (3, .int a3)] [] σ (0, 0)) : K_X6_strides l V c0 a1 a2 a3 σ Qk :=
  Ka_of (by decide +kernel) rfl rfl (Nat.le_of_ble_eq_true rfl) (fun M h1 h2 h3 C => h M h1 h2 h3 (by rw [h2]; exact C))
set_option maxRecDepth 100000 in
set_option maxHeartbeats 4000000 in
theorem s_X6_strides_0 {M : Mx} {Qk : Int32 → Sg → Prop} (C : Cx M cX6_strides (some .int) RX6 wsX6_strides (rmz 1) 0 0 (QI (mV M) Qk)) (hN : mN M = 5) {c0 : Nat} {a1 : Int32} {a2 : Nat} {a3 : Int32} {ci0 : Nat} (sc0 : ci0 = 6) (hc0 : kd c0 = (10 + ci0, 0)) (lc0 : c0 ∈ ids (mV M)) (ha2 : isC a2) {σ : Sg} (h : K_X8_strides (mL M) (mV M) c0 a1 a2 a3 σ (fun r3 σ2 => (∀ v4 : Int32, v4 = r3 - ((gi σ2 c0 2) / (3 : Int32)) → ((v4 ≤ 0 → Qk (0 : Int32) σ2) ∧ (¬ v4 ≤ 0 → Qk v4 σ2))))) : PS M 0 [(0, .ref c0), (1, .int a1), (2, .ref a2), (3, .int a3)] [] σ (0, 0) := by
  refine P_aload_n C dX6_strides_0 0 rfl ?_
  refine P_iload_n C dX6_strides_1 1 rfl ?_
  refine P_aload_n C dX6_strides_2 2 rfl ?_
  refine P_iload_n C dX6_strides_3 3 rfl ?_
  have key1 : ∀ Qz, K_X8_strides (mL M) (mV M) c0 a1 a2 a3 σ Qz → RS M 4 [(0, .ref c0), (1, .int a1), (2, .ref a2), (3, .int a3)] [.int a3, .ref a2, .int a1, .ref c0] [] σ (0, 0) 0 0 (QI (mV M) Qz (([.ref c0, .int a1, .ref a2, .int a3] : List Value).map (cv (mV M))).toArray) := by
    intro Qz h8
    subst sc0
    · exact R_su (ci := 6) C ks_X6_strides_X8_strides (As := [.int a1, .ref a2, .int a3]) rfl hc0 rfl lc0 (Nat.le_of_ble_eq_true rfl) dX6_strides_4 ⟨Nat.le_refl _, Nat.le_refl _⟩ h8
  refine P_ci (key1 _ h) (fun r3 σ2 h => ?_)
  refine P_aload_n C dX6_strides_7 0 rfl ?_
  refine P_getM C fa_X6_strides_11 (by decide +kernel) (by subst sc0; decide) hc0 lc0 dX6_strides_8 ?_
  refine P_iconst C dX6_strides_11 (v := (3 : Int32)) rfl ?_
  refine P_idiv C dX6_strides_12 (by decide +kernel) ?_
  refine P_isub C dX6_strides_13 ?_
  refine P_nmi (fun v4 ev4 => ?_)
  have h := h v4 ev4
  refine P_istore C dX6_strides_14 (by rw [hN]; decide) rfl ?_
  refine P_iload C dX6_strides_16 0 rfl ?_
  refine P_if_le C dX6_strides_18 (tgt := 26) (by decide +kernel) (fun q5 => ?_) (fun q5 => ?_)
  · have h := h.1 q5
    refine P_iconst C dX6_strides_26 (v := (0 : Int32)) rfl ?_
    exact P_iret C dX6_strides_27 h
  · have h := h.2 q5
    refine P_iload C dX6_strides_21 0 rfl ?_
    refine P_goto C dX6_strides_23 (tgt := 27) (by decide +kernel) ?_
    exact P_iret C dX6_strides_27 h
theorem ks_X7_strides_X3_strides : KSU RX7 wsX7_strides (rmz 2) 7 yX3_strides wsX3_strides (rmz 1) 3 := ⟨_, _, _, _, gX7_strides_X3_strides_s7, rfl, by decide +kernel, by decide +kernel⟩
theorem kv_X7_strides_X1_isPressedAt : KV RX7 wsX7_strides (rmz 2) 11 RX1 yX1_isPressedAt wsX1_isPressedAt (rmz 1) 1 := ⟨_, _, _, _, gX7_strides_X1_isPressedAt, rfl, by decide +kernel, by decide +kernel⟩
noncomputable def K_X7_strides (l : Launch) (V : Vx) (c0 : Nat) (a1 : Int32) (a2 : Nat) (a3 : Int32) (σ : Sg) (Qk : Int32 → Sg → Prop) : Prop := Ka l V yX7_strides wsX7_strides (rmz 2) 0 0 [.ref c0, .int a1, .ref a2, .int a3] σ (QI V Qk)
theorem e_X7_strides {l : Launch} {V : Vx} {c0 : Nat} {a1 : Int32} {a2 : Nat} {a3 : Int32} {σ : Sg} {Qk : Int32 → Sg → Prop} (h : ∀ M : Mx, mL M = l → mV M = V → mN M = 4 → Cx M cX7_strides (some .int) RX7 wsX7_strides (rmz 2) 0 0 (QI (mV M) Qk) → PS M 0 [(0, .ref c0), (1, .int a1), (2, .ref a2), (3, .int a3)] [] σ (0, 0)) : K_X7_strides l V c0 a1 a2 a3 σ Qk :=
  Ka_of (by decide +kernel) rfl rfl (Nat.le_of_ble_eq_true rfl) (fun M h1 h2 h3 C => h M h1 h2 h3 (by rw [h2]; exact C))
set_option maxRecDepth 100000 in
set_option maxHeartbeats 4000000 in
theorem s_X7_strides_0 {M : Mx} {Qk : Int32 → Sg → Prop} (C : Cx M cX7_strides (some .int) RX7 wsX7_strides (rmz 2) 0 0 (QI (mV M) Qk)) (hN : mN M = 4) {c0 : Nat} {a1 : Int32} {a2 : Nat} {a3 : Int32} {ci0 : Nat} (sc0 : ci0 = 7) (hc0 : kd c0 = (10 + ci0, 0)) (lc0 : c0 ∈ ids (mV M)) (ha2 : isC a2) {σ : Sg} (h : K_X3_strides (mL M) (mV M) c0 a1 a2 a3 σ (fun r3 σ2 => K_X1_isPressedAt (mL M) (mV M) a2 a3 σ2 (fun r5 σ4 => ((r5 = 0 → Qk (r3 + (0 : Int32)) σ4) ∧ (¬ r5 = 0 → Qk (r3 + (2 : Int32)) σ4))))) : PS M 0 [(0, .ref c0), (1, .int a1), (2, .ref a2), (3, .int a3)] [] σ (0, 0) := by
  refine P_aload_n C dX7_strides_0 0 rfl ?_
  refine P_iload_n C dX7_strides_1 1 rfl ?_
  refine P_aload_n C dX7_strides_2 2 rfl ?_
  refine P_iload_n C dX7_strides_3 3 rfl ?_
  have key1 : ∀ Qz, K_X3_strides (mL M) (mV M) c0 a1 a2 a3 σ Qz → RS M 4 [(0, .ref c0), (1, .int a1), (2, .ref a2), (3, .int a3)] [.int a3, .ref a2, .int a1, .ref c0] [] σ (0, 0) 0 0 (QI (mV M) Qz (([.ref c0, .int a1, .ref a2, .int a3] : List Value).map (cv (mV M))).toArray) := by
    intro Qz h8
    subst sc0
    · exact R_su (ci := 7) C ks_X7_strides_X3_strides (As := [.int a1, .ref a2, .int a3]) rfl hc0 rfl lc0 (Nat.le_of_ble_eq_true rfl) dX7_strides_4 ⟨Nat.le_refl _, Nat.le_refl _⟩ h8
  refine P_ci (key1 _ h) (fun r3 σ2 h => ?_)
  refine P_aload_n C dX7_strides_7 2 rfl ?_
  refine P_iload_n C dX7_strides_8 3 rfl ?_
  refine P_ci (R_v (ci := 1) C kv_X7_strides_X1_isPressedAt (As := [.int a3]) rfl (kdC_0 ha2) rfl (fxl (fxC_0 ha2)) (Nat.le_of_ble_eq_true rfl) dX7_strides_9 ⟨Nat.le_refl _, Nat.le_refl _⟩ h) (fun r5 σ4 h => ?_)
  refine P_if_eq C dX7_strides_12 (tgt := 19) (by decide +kernel) (fun q6 => ?_) (fun q6 => ?_)
  · have h := h.1 q6
    refine P_iconst C dX7_strides_19 (v := (0 : Int32)) rfl ?_
    refine P_iadd C dX7_strides_20 ?_
    exact P_iret C dX7_strides_21 h
  · have h := h.2 q6
    refine P_iconst C dX7_strides_15 (v := (2 : Int32)) rfl ?_
    refine P_goto C dX7_strides_16 (tgt := 20) (by decide +kernel) ?_
    refine P_iadd C dX7_strides_20 ?_
    exact P_iret C dX7_strides_21 h
theorem ks_X10_strides_X0_strides : KSU RX10 wsX10_strides (rmz 2) 7 yX0_strides wsX0_strides (rmz 1) 3 := ⟨_, _, _, _, gX10_strides_X0_strides_s7, rfl, by decide +kernel, by decide +kernel⟩
theorem fa_X10_strides_11 : FA RX10 wsX10_strides 11 1 8 "NineMowers$Course" := by
  show _ ∧ _ ∧ _ ∧ _
  exact ⟨by decide +kernel, fun _ h => List.mem_cons_of_mem _ (List.mem_append_left _ (List.mem_append_left _ (List.mem_append_left _ (List.mem_append_left _ (List.mem_append_left _ (List.mem_append_left _ (List.mem_append_left _ (List.mem_append_right _ h)))))))), List.mem_of_getElem? (i := 1) rfl, Or.inl rfl⟩
theorem fa_X10_strides_17 : FA RX10 wsX10_strides 17 10 1 "NineMowers$Told" := by
  show _ ∧ _ ∧ _ ∧ _
  exact ⟨by decide +kernel, fun _ h => List.mem_cons_of_mem _ (List.mem_append_right _ h), List.mem_of_getElem? (i := 2) rfl, Or.inr (List.mem_of_getElem? (i := 3) rfl)⟩
theorem fa_X10_strides_23 : FA RX10 wsX10_strides 23 1 9 "NineMowers$Course" := by
  show _ ∧ _ ∧ _ ∧ _
  exact ⟨by decide +kernel, fun _ h => List.mem_cons_of_mem _ (List.mem_append_left _ (List.mem_append_left _ (List.mem_append_left _ (List.mem_append_left _ (List.mem_append_left _ (List.mem_append_left _ (List.mem_append_left _ (List.mem_append_right _ h)))))))), List.mem_of_getElem? (i := 4) rfl, Or.inl rfl⟩
noncomputable def K_X10_strides (l : Launch) (V : Vx) (c0 : Nat) (a1 : Int32) (a2 : Nat) (a3 : Int32) (σ : Sg) (Qk : Int32 → Sg → Prop) : Prop := Ka l V yX10_strides wsX10_strides (rmz 2) 0 0 [.ref c0, .int a1, .ref a2, .int a3] σ (QI V Qk)
theorem e_X10_strides {l : Launch} {V : Vx} {c0 : Nat} {a1 : Int32} {a2 : Nat} {a3 : Int32} {σ : Sg} {Qk : Int32 → Sg → Prop} (h : ∀ M : Mx, mL M = l → mV M = V → mN M = 4 → Cx M cX10_strides (some .int) RX10 wsX10_strides (rmz 2) 0 0 (QI (mV M) Qk) → PS M 0 [(0, .ref c0), (1, .int a1), (2, .ref a2), (3, .int a3)] [] σ (0, 0)) : K_X10_strides l V c0 a1 a2 a3 σ Qk :=
  Ka_of (by decide +kernel) rfl rfl (Nat.le_of_ble_eq_true rfl) (fun M h1 h2 h3 C => h M h1 h2 h3 (by rw [h2]; exact C))
set_option maxRecDepth 100000 in
set_option maxHeartbeats 4000000 in
theorem s_X10_strides_0 {M : Mx} {Qk : Int32 → Sg → Prop} (C : Cx M cX10_strides (some .int) RX10 wsX10_strides (rmz 2) 0 0 (QI (mV M) Qk)) (hN : mN M = 4) {c0 : Nat} {a1 : Int32} {a2 : Nat} {a3 : Int32} {ci0 : Nat} (sc0 : ci0 = 10) (hc0 : kd c0 = (10 + ci0, 0)) (lc0 : c0 ∈ ids (mV M)) (ha2 : isC a2) {σ : Sg} (h : K_X0_strides (mL M) (mV M) c0 a1 a2 a3 σ (fun r3 σ2 => (vp_in (((4 : Int32) * (gi σ2 c0 1)) + ((gi σ2 a2 9) - (gi σ2 a2 9) / (4 : Int32) * (4 : Int32))) 24 ∧ Qk (r3 + (gi σ2 (a2 + 7) (((4 : Int32) * (gi σ2 c0 1)) + ((gi σ2 a2 9) - (gi σ2 a2 9) / (4 : Int32) * (4 : Int32))).toNatClampNeg)) σ2))) : PS M 0 [(0, .ref c0), (1, .int a1), (2, .ref a2), (3, .int a3)] [] σ (0, 0) := by
  refine P_aload_n C dX10_strides_0 0 rfl ?_
  refine P_iload_n C dX10_strides_1 1 rfl ?_
  refine P_aload_n C dX10_strides_2 2 rfl ?_
  refine P_iload_n C dX10_strides_3 3 rfl ?_
  have key1 : ∀ Qz, K_X0_strides (mL M) (mV M) c0 a1 a2 a3 σ Qz → RS M 4 [(0, .ref c0), (1, .int a1), (2, .ref a2), (3, .int a3)] [.int a3, .ref a2, .int a1, .ref c0] [] σ (0, 0) 0 0 (QI (mV M) Qz (([.ref c0, .int a1, .ref a2, .int a3] : List Value).map (cv (mV M))).toArray) := by
    intro Qz h8
    subst sc0
    · exact R_su (ci := 10) C ks_X10_strides_X0_strides (As := [.int a1, .ref a2, .int a3]) rfl hc0 rfl lc0 (Nat.le_of_ble_eq_true rfl) dX10_strides_4 ⟨Nat.le_refl _, Nat.le_refl _⟩ h8
  refine P_ci (key1 _ h) (fun r3 σ2 h => ?_)
  refine P_aload_n C dX10_strides_7 2 rfl ?_
  refine P_getS C (e := (a2 + 7)) fa_X10_strides_11 (kdC_0 ha2) (d := 7) rfl (fxl (fxC_0 ha2)) rfl dX10_strides_8 ?_
  refine P_iconst C dX10_strides_11 (v := (4 : Int32)) rfl ?_
  refine P_aload_n C dX10_strides_12 0 rfl ?_
  refine P_getM C fa_X10_strides_17 (by decide +kernel) (by subst sc0; decide) hc0 lc0 dX10_strides_13 ?_
  refine P_imul C dX10_strides_16 ?_
  refine P_aload_n C dX10_strides_17 2 rfl ?_
  refine P_getI C fa_X10_strides_23 (kdC_0 ha2) rfl (fxl (fxC_0 ha2)) dX10_strides_18 ?_
  refine P_iconst C dX10_strides_21 (v := (4 : Int32)) rfl ?_
  refine P_irem C dX10_strides_22 (by decide +kernel) ?_
  refine P_iadd C dX10_strides_23 ?_
  obtain ⟨hv4, h⟩ := h
  refine P_iald C (kdC_7 ha2) (fxl (fxC_7 ha2)) hv4 dX10_strides_24 ?_
  refine P_iadd C dX10_strides_25 ?_
  exact P_iret C dX10_strides_26 h
noncomputable def KD_strides (l : Launch) (V : Vx) (ci : Nat) (c0 : Nat) (a1 : Int32) (a2 : Nat) (a3 : Int32) (σ : Sg) (Qk : Int32 → Sg → Prop) : Prop := (ci = 0 → K_X0_strides l V c0 a1 a2 a3 σ Qk) ∧ (ci = 3 → K_X3_strides l V c0 a1 a2 a3 σ Qk) ∧ (ci = 4 → K_X4_strides l V c0 a1 a2 a3 σ Qk) ∧ (ci = 6 → K_X6_strides l V c0 a1 a2 a3 σ Qk) ∧ (ci = 7 → K_X7_strides l V c0 a1 a2 a3 σ Qk) ∧ (ci = 8 → K_X8_strides l V c0 a1 a2 a3 σ Qk) ∧ (ci = 10 → K_X10_strides l V c0 a1 a2 a3 σ Qk)
theorem kv_X4_mowing_X5_comes_b : KV RX4 wsX4_mowing (rmz 1) 25 RX5 yX5_comes wsX5_comes (rmz 0) 1 := ⟨_, _, _, _, gX4_mowing_X5_comes, rfl, by decide +kernel, by decide +kernel⟩
theorem kv_X4_mowing_X5_comes : KV RX4 wsX4_mowinge (rmz 1) 25 RX5 yX5_comes wsX5_comes (rmz 0) 1 := KV_ml kv_X4_mowing_X5_comes_b
theorem fa_X4_mowing_13_b : FA RX4 wsX4_mowing 13 4 1 "NineMowers$Mower" := by
  show _ ∧ _ ∧ _ ∧ _
  exact ⟨by decide +kernel, fun _ h => List.mem_cons_of_mem _ (List.mem_append_left _ (List.mem_append_left _ (List.mem_append_left _ (List.mem_append_left _ (List.mem_append_left _ (List.mem_append_right _ h)))))), List.mem_of_getElem? (i := 1) rfl, Or.inl rfl⟩
theorem fa_X4_mowing_13 : FA RX4 wsX4_mowinge 13 4 1 "NineMowers$Mower" := FA_ml fa_X4_mowing_13_b
noncomputable def K_X4_mowing (l : Launch) (V : Vx) (c0 : Nat) (a1 : Int32) (a2 : Nat) (σ : Sg) (Qk : Int32 → Sg → Prop) : Prop := Ka l V yX4_mowing wsX4_mowinge (rmz 1) 0 0 [.ref c0, .int a1, .ref a2] σ (QI V Qk)
theorem e_X4_mowing {l : Launch} {V : Vx} {c0 : Nat} {a1 : Int32} {a2 : Nat} {σ : Sg} {Qk : Int32 → Sg → Prop} (h : ∀ M : Mx, mL M = l → mV M = V → mN M = 3 → Cx M cX4_mowing (some .int) RX4 wsX4_mowinge (rmz 1) 0 0 (QI (mV M) Qk) → PS M 0 [(0, .ref c0), (1, .int a1), (2, .ref a2)] [] σ (0, 0)) : K_X4_mowing l V c0 a1 a2 σ Qk :=
  Ka_of (by decide +kernel) rfl rfl (Nat.le_of_ble_eq_true rfl) (fun M h1 h2 h3 C => h M h1 h2 h3 (by rw [h2]; exact C))
set_option maxRecDepth 100000 in
set_option maxHeartbeats 4000000 in
theorem s_X4_mowing_0 {M : Mx} {Qk : Int32 → Sg → Prop} (C : Cx M cX4_mowing (some .int) RX4 wsX4_mowinge (rmz 1) 0 0 (QI (mV M) Qk)) (hN : mN M = 3) {c0 : Nat} {a1 : Int32} {a2 : Nat} {ci0 : Nat} (sc0 : ci0 = 0 ∨ ci0 = 3 ∨ ci0 = 4 ∨ ci0 = 6 ∨ ci0 = 7 ∨ ci0 = 8 ∨ ci0 = 10) (hc0 : kd c0 = (10 + ci0, 0)) (lc0 : c0 ∈ ids (mV M)) (ha2 : isN a2) {σ : Sg} (h : K_X5_comes (mL M) (mV M) a2 (10 : Int32) σ (fun σ1 => Qk (a1 + (gi σ1 c0 1)) σ1)) : PS M 0 [(0, .ref c0), (1, .int a1), (2, .ref a2)] [] σ (0, 0) := by
  refine P_aload_n C dX4_mowing_0 2 rfl ?_
  refine P_bipush C dX4_mowing_1 (v := (10 : Int32)) rfl ?_
  refine P_cv (R_v (ci := 5) C kv_X4_mowing_X5_comes (As := [.int (10 : Int32)]) rfl (kdN_0 ha2) rfl (fxl (fxN_0 ha2)) (Nat.le_of_ble_eq_true rfl) dX4_mowing_3 ⟨Nat.le_refl _, Nat.le_refl _⟩ h) (fun σ1 h => ?_)
  refine P_iload_n C dX4_mowing_6 1 rfl ?_
  refine P_aload_n C dX4_mowing_7 0 rfl ?_
  refine P_getM C fa_X4_mowing_13 (by decide +kernel) sc0 hc0 lc0 dX4_mowing_8 ?_
  refine P_iadd C dX4_mowing_11 ?_
  exact P_iret C dX4_mowing_12 h
theorem kv_X3_mowing_X5_comes_b : KV RX3 wsX3_mowing (rmz 2) 26 RX5 yX5_comes wsX5_comes (rmz 0) 1 := ⟨_, _, _, _, gX3_mowing_X5_comes, rfl, by decide +kernel, by decide +kernel⟩
theorem kv_X3_mowing_X5_comes : KV RX3 wsX3_mowinge (rmz 2) 26 RX5 yX5_comes wsX5_comes (rmz 0) 1 := KV_ml kv_X3_mowing_X5_comes_b
theorem ks_X3_mowing_X4_mowing_b : KSU RX3 wsX3_mowing (rmz 2) 32 yX4_mowing wsX4_mowing (rmz 1) 2 := ⟨_, _, _, _, gX3_mowing_X4_mowing_s32, rfl, by decide +kernel, by decide +kernel⟩
theorem ks_X3_mowing_X4_mowing : KSU RX3 wsX3_mowinge (rmz 2) 32 yX4_mowing wsX4_mowinge (rmz 1) 2 := KSU_mb ks_X3_mowing_X4_mowing_b
noncomputable def K_X3_mowing (l : Launch) (V : Vx) (c0 : Nat) (a1 : Int32) (a2 : Nat) (σ : Sg) (Qk : Int32 → Sg → Prop) : Prop := Ka l V yX3_mowing wsX3_mowinge (rmz 2) 0 0 [.ref c0, .int a1, .ref a2] σ (QI V Qk)
theorem e_X3_mowing {l : Launch} {V : Vx} {c0 : Nat} {a1 : Int32} {a2 : Nat} {σ : Sg} {Qk : Int32 → Sg → Prop} (h : ∀ M : Mx, mL M = l → mV M = V → mN M = 3 → Cx M cX3_mowing (some .int) RX3 wsX3_mowinge (rmz 2) 0 0 (QI (mV M) Qk) → PS M 0 [(0, .ref c0), (1, .int a1), (2, .ref a2)] [] σ (0, 0)) : K_X3_mowing l V c0 a1 a2 σ Qk :=
  Ka_of (by decide +kernel) rfl rfl (Nat.le_of_ble_eq_true rfl) (fun M h1 h2 h3 C => h M h1 h2 h3 (by rw [h2]; exact C))
set_option maxRecDepth 100000 in
set_option maxHeartbeats 4000000 in
theorem s_X3_mowing_0 {M : Mx} {Qk : Int32 → Sg → Prop} (C : Cx M cX3_mowing (some .int) RX3 wsX3_mowinge (rmz 2) 0 0 (QI (mV M) Qk)) (hN : mN M = 3) {c0 : Nat} {a1 : Int32} {a2 : Nat} {ci0 : Nat} (sc0 : ci0 = 3 ∨ ci0 = 7) (hc0 : kd c0 = (10 + ci0, 0)) (lc0 : c0 ∈ ids (mV M)) (ha2 : isN a2) {σ : Sg} (h : K_X5_comes (mL M) (mV M) a2 (30 : Int32) σ (fun σ1 => K_X4_mowing (mL M) (mV M) c0 (a1 * (3 : Int32)) a2 σ1 (fun r4 σ3 => Qk r4 σ3))) : PS M 0 [(0, .ref c0), (1, .int a1), (2, .ref a2)] [] σ (0, 0) := by
  refine P_aload_n C dX3_mowing_0 2 rfl ?_
  refine P_bipush C dX3_mowing_1 (v := (30 : Int32)) rfl ?_
  refine P_cv (R_v (ci := 5) C kv_X3_mowing_X5_comes (As := [.int (30 : Int32)]) rfl (kdN_0 ha2) rfl (fxl (fxN_0 ha2)) (Nat.le_of_ble_eq_true rfl) dX3_mowing_3 ⟨Nat.le_refl _, Nat.le_refl _⟩ h) (fun σ1 h => ?_)
  refine P_aload_n C dX3_mowing_6 0 rfl ?_
  refine P_iload_n C dX3_mowing_7 1 rfl ?_
  refine P_iconst C dX3_mowing_8 (v := (3 : Int32)) rfl ?_
  refine P_imul C dX3_mowing_9 ?_
  refine P_aload_n C dX3_mowing_10 2 rfl ?_
  have key2 : ∀ Qz, K_X4_mowing (mL M) (mV M) c0 (a1 * (3 : Int32)) a2 σ1 Qz → RS M 11 [(0, .ref c0), (1, .int a1), (2, .ref a2)] [.ref a2, .int (a1 * (3 : Int32)), .ref c0] [] σ1 (0, 0) 0 0 (QI (mV M) Qz (([.ref c0, .int (a1 * (3 : Int32)), .ref a2] : List Value).map (cv (mV M))).toArray) := by
    intro Qz h8
    rcases sc0 with rfl | rfl
    · exact R_su (ci := 3) C ks_X3_mowing_X4_mowing (As := [.int (a1 * (3 : Int32)), .ref a2]) rfl hc0 rfl lc0 (Nat.le_of_ble_eq_true rfl) dX3_mowing_11 ⟨Nat.le_refl _, Nat.le_refl _⟩ h8
    · exact R_su (ci := 7) C ks_X3_mowing_X4_mowing (As := [.int (a1 * (3 : Int32)), .ref a2]) rfl hc0 rfl lc0 (Nat.le_of_ble_eq_true rfl) dX3_mowing_11 ⟨Nat.le_refl _, Nat.le_refl _⟩ h8
  refine P_ci (key2 _ h) (fun r4 σ3 h => ?_)
  exact P_iret C dX3_mowing_14 h
theorem kv_X6_mowing_X5_comes_b : KV RX6 wsX6_mowing (rmz 2) 17 RX5 yX5_comes wsX5_comes (rmz 0) 1 := ⟨_, _, _, _, gX6_mowing_X5_comes, rfl, by decide +kernel, by decide +kernel⟩
theorem kv_X6_mowing_X5_comes : KV RX6 wsX6_mowinge (rmz 2) 17 RX5 yX5_comes wsX5_comes (rmz 0) 1 := KV_ml kv_X6_mowing_X5_comes_b
theorem ks_X6_mowing_X4_mowing : KSI RX6 wsX6_mowinge (rmz 2) 23 ⟨RX8, "mowing", "(ILNineMowers$Numbers;)I"⟩ RX4 yX4_mowing wsX4_mowinge (rmz 1) 2 := ⟨_, _, _, _, gsi_X6_mowing_23, rfl, by decide +kernel, by decide +kernel⟩
noncomputable def K_X6_mowing (l : Launch) (V : Vx) (c0 : Nat) (a1 : Int32) (a2 : Nat) (σ : Sg) (Qk : Int32 → Sg → Prop) : Prop := Ka l V yX6_mowing wsX6_mowinge (rmz 2) 0 0 [.ref c0, .int a1, .ref a2] σ (QI V Qk)
theorem e_X6_mowing {l : Launch} {V : Vx} {c0 : Nat} {a1 : Int32} {a2 : Nat} {σ : Sg} {Qk : Int32 → Sg → Prop} (h : ∀ M : Mx, mL M = l → mV M = V → mN M = 3 → Cx M cX6_mowing (some .int) RX6 wsX6_mowinge (rmz 2) 0 0 (QI (mV M) Qk) → PS M 0 [(0, .ref c0), (1, .int a1), (2, .ref a2)] [] σ (0, 0)) : K_X6_mowing l V c0 a1 a2 σ Qk :=
  Ka_of (by decide +kernel) rfl rfl (Nat.le_of_ble_eq_true rfl) (fun M h1 h2 h3 C => h M h1 h2 h3 (by rw [h2]; exact C))
set_option maxRecDepth 100000 in
set_option maxHeartbeats 4000000 in
theorem s_X6_mowing_0 {M : Mx} {Qk : Int32 → Sg → Prop} (C : Cx M cX6_mowing (some .int) RX6 wsX6_mowinge (rmz 2) 0 0 (QI (mV M) Qk)) (hN : mN M = 3) {c0 : Nat} {a1 : Int32} {a2 : Nat} {ci0 : Nat} (sc0 : ci0 = 6) (hc0 : kd c0 = (10 + ci0, 0)) (lc0 : c0 ∈ ids (mV M)) (ha2 : isN a2) {σ : Sg} (h : K_X5_comes (mL M) (mV M) a2 (50 : Int32) σ (fun σ1 => K_X4_mowing (mL M) (mV M) c0 a1 a2 σ1 (fun r4 σ3 => Qk (-r4) σ3))) : PS M 0 [(0, .ref c0), (1, .int a1), (2, .ref a2)] [] σ (0, 0) := by
  refine P_aload_n C dX6_mowing_0 2 rfl ?_
  refine P_bipush C dX6_mowing_1 (v := (50 : Int32)) rfl ?_
  refine P_cv (R_v (ci := 5) C kv_X6_mowing_X5_comes (As := [.int (50 : Int32)]) rfl (kdN_0 ha2) rfl (fxl (fxN_0 ha2)) (Nat.le_of_ble_eq_true rfl) dX6_mowing_3 ⟨Nat.le_refl _, Nat.le_refl _⟩ h) (fun σ1 h => ?_)
  refine P_aload_n C dX6_mowing_6 0 rfl ?_
  refine P_iload_n C dX6_mowing_7 1 rfl ?_
  refine P_aload_n C dX6_mowing_8 2 rfl ?_
  have key2 : ∀ Qz, K_X4_mowing (mL M) (mV M) c0 a1 a2 σ1 Qz → RS M 9 [(0, .ref c0), (1, .int a1), (2, .ref a2)] [.ref a2, .int a1, .ref c0] [] σ1 (0, 0) 0 0 (QI (mV M) Qz (([.ref c0, .int a1, .ref a2] : List Value).map (cv (mV M))).toArray) := by
    intro Qz h8
    subst sc0
    · exact R_si (ci := 6) C ks_X6_mowing_X4_mowing (As := [.int a1, .ref a2]) rfl hc0 rfl lc0 (Nat.le_of_ble_eq_true rfl) dX6_mowing_9 ⟨Nat.le_refl _, Nat.le_refl _⟩ h8
  refine P_ci (key2 _ h) (fun r4 σ3 h => ?_)
  refine P_ineg C dX6_mowing_12 ?_
  exact P_iret C dX6_mowing_13 h
theorem kv_X10_mowing_X5_comes_b : KV RX10 wsX10_mowing (rmz 2) 26 RX5 yX5_comes wsX5_comes (rmz 0) 1 := ⟨_, _, _, _, gX10_mowing_X5_comes, rfl, by decide +kernel, by decide +kernel⟩
theorem kv_X10_mowing_X5_comes : KV RX10 wsX10_mowinge (rmz 2) 26 RX5 yX5_comes wsX5_comes (rmz 0) 1 := KV_ml kv_X10_mowing_X5_comes_b
theorem ks_X10_mowing_X4_mowing : KSI RX10 wsX10_mowinge (rmz 2) 36 ⟨RX0, "mowing", "(ILNineMowers$Numbers;)I"⟩ RX4 yX4_mowing wsX4_mowinge (rmz 1) 2 := ⟨_, _, _, _, gsi_X10_mowing_36, rfl, by decide +kernel, by decide +kernel⟩
theorem fa_X10_mowing_39_b : FA RX10 wsX10_mowing 39 10 2 "NineMowers$Told" := by
  show _ ∧ _ ∧ _ ∧ _
  exact ⟨by decide +kernel, fun _ h => List.mem_cons_of_mem _ (List.mem_append_left _ (List.mem_append_right _ h)), List.mem_of_getElem? (i := 1) rfl, Or.inr (List.mem_of_getElem? (i := 2) rfl)⟩
theorem fa_X10_mowing_39 : FA RX10 wsX10_mowinge 39 10 2 "NineMowers$Told" := FA_ml fa_X10_mowing_39_b
noncomputable def K_X10_mowing (l : Launch) (V : Vx) (c0 : Nat) (a1 : Int32) (a2 : Nat) (σ : Sg) (Qk : Int32 → Sg → Prop) : Prop := Ka l V yX10_mowing wsX10_mowinge (rmz 2) 0 0 [.ref c0, .int a1, .ref a2] σ (QI V Qk)
theorem e_X10_mowing {l : Launch} {V : Vx} {c0 : Nat} {a1 : Int32} {a2 : Nat} {σ : Sg} {Qk : Int32 → Sg → Prop} (h : ∀ M : Mx, mL M = l → mV M = V → mN M = 3 → Cx M cX10_mowing (some .int) RX10 wsX10_mowinge (rmz 2) 0 0 (QI (mV M) Qk) → PS M 0 [(0, .ref c0), (1, .int a1), (2, .ref a2)] [] σ (0, 0)) : K_X10_mowing l V c0 a1 a2 σ Qk :=
  Ka_of (by decide +kernel) rfl rfl (Nat.le_of_ble_eq_true rfl) (fun M h1 h2 h3 C => h M h1 h2 h3 (by rw [h2]; exact C))
set_option maxRecDepth 100000 in
set_option maxHeartbeats 4000000 in
theorem s_X10_mowing_0 {M : Mx} {Qk : Int32 → Sg → Prop} (C : Cx M cX10_mowing (some .int) RX10 wsX10_mowinge (rmz 2) 0 0 (QI (mV M) Qk)) (hN : mN M = 3) {c0 : Nat} {a1 : Int32} {a2 : Nat} {ci0 : Nat} (sc0 : ci0 = 10) (hc0 : kd c0 = (10 + ci0, 0)) (lc0 : c0 ∈ ids (mV M)) (ha2 : isN a2) {σ : Sg} (h : K_X5_comes (mL M) (mV M) a2 (71 : Int32) σ (fun σ1 => K_X4_mowing (mL M) (mV M) c0 a1 a2 σ1 (fun r4 σ3 => Qk (r4 ^^^ (gi σ3 c0 2)) σ3))) : PS M 0 [(0, .ref c0), (1, .int a1), (2, .ref a2)] [] σ (0, 0) := by
  refine P_aload_n C dX10_mowing_0 2 rfl ?_
  refine P_bipush C dX10_mowing_1 (v := (71 : Int32)) rfl ?_
  refine P_cv (R_v (ci := 5) C kv_X10_mowing_X5_comes (As := [.int (71 : Int32)]) rfl (kdN_0 ha2) rfl (fxl (fxN_0 ha2)) (Nat.le_of_ble_eq_true rfl) dX10_mowing_3 ⟨Nat.le_refl _, Nat.le_refl _⟩ h) (fun σ1 h => ?_)
  refine P_aload_n C dX10_mowing_6 0 rfl ?_
  refine P_iload_n C dX10_mowing_7 1 rfl ?_
  refine P_aload_n C dX10_mowing_8 2 rfl ?_
  have key2 : ∀ Qz, K_X4_mowing (mL M) (mV M) c0 a1 a2 σ1 Qz → RS M 9 [(0, .ref c0), (1, .int a1), (2, .ref a2)] [.ref a2, .int a1, .ref c0] [] σ1 (0, 0) 0 0 (QI (mV M) Qz (([.ref c0, .int a1, .ref a2] : List Value).map (cv (mV M))).toArray) := by
    intro Qz h8
    subst sc0
    · exact R_si (ci := 10) C ks_X10_mowing_X4_mowing (As := [.int a1, .ref a2]) rfl hc0 rfl lc0 (Nat.le_of_ble_eq_true rfl) dX10_mowing_9 ⟨Nat.le_refl _, Nat.le_refl _⟩ h8
  refine P_ci (key2 _ h) (fun r4 σ3 h => ?_)
  refine P_aload_n C dX10_mowing_12 0 rfl ?_
  refine P_getM C fa_X10_mowing_39 (by decide +kernel) (by subst sc0; decide) hc0 lc0 dX10_mowing_13 ?_
  refine P_ixor C dX10_mowing_16 ?_
  exact P_iret C dX10_mowing_17 h
noncomputable def KD_mowing (l : Launch) (V : Vx) (ci : Nat) (c0 : Nat) (a1 : Int32) (a2 : Nat) (σ : Sg) (Qk : Int32 → Sg → Prop) : Prop := (ci = 0 → K_X4_mowing l V c0 a1 a2 σ Qk) ∧ (ci = 3 → K_X3_mowing l V c0 a1 a2 σ Qk) ∧ (ci = 4 → K_X4_mowing l V c0 a1 a2 σ Qk) ∧ (ci = 6 → K_X6_mowing l V c0 a1 a2 σ Qk) ∧ (ci = 7 → K_X3_mowing l V c0 a1 a2 σ Qk) ∧ (ci = 8 → K_X4_mowing l V c0 a1 a2 σ Qk) ∧ (ci = 10 → K_X10_mowing l V c0 a1 a2 σ Qk)
theorem kv_X4_whetting_X5_comes_b : KV RX4 wsX4_whetting (rmz 3) 25 RX5 yX5_comes wsX5_comes (rmz 0) 1 := ⟨_, _, _, _, gX4_whetting_X5_comes, rfl, by decide +kernel, by decide +kernel⟩
theorem kv_X4_whetting_X5_comes : KV RX4 wsX4_whettinge (rmz 3) 25 RX5 yX5_comes wsX5_comes (rmz 0) 1 := KV_ml kv_X4_whetting_X5_comes_b
theorem ku_X4_whetting_X4_mowing_31_0_b : KU RX4 wsX4_whetting (rmz 3) 31 RX0 yX4_mowing wsX4_mowing (rmz 1) 2 := ⟨_, _, _, _, _, _, Or.inl ⟨gX4_whetting_X4_mowing_u31X0, rfl⟩, rfl, by decide +kernel, by decide +kernel⟩
theorem ku_X4_whetting_X4_mowing_31_0 : KU RX4 wsX4_whettinge (rmz 3) 31 RX0 yX4_mowing wsX4_mowinge (rmz 1) 2 := KU_mb ku_X4_whetting_X4_mowing_31_0_b
theorem ku_X4_whetting_X3_mowing_31_3_b : KU RX4 wsX4_whetting (rmz 3) 31 RX3 yX3_mowing wsX3_mowing (rmz 2) 2 := ⟨_, _, _, _, _, _, Or.inr ⟨gX4_whetting_X3_mowing_u31X3, _, _, _, List.mem_of_getElem? (i := 14) rfl⟩, rfl, by decide +kernel, by decide +kernel⟩
theorem ku_X4_whetting_X3_mowing_31_3 : KU RX4 wsX4_whettinge (rmz 3) 31 RX3 yX3_mowing wsX3_mowinge (rmz 2) 2 := KU_mb ku_X4_whetting_X3_mowing_31_3_b
theorem kv_X4_whetting_X4_mowing_31_b : KV RX4 wsX4_whetting (rmz 3) 31 RX4 yX4_mowing wsX4_mowing (rmz 1) 2 := ⟨_, _, _, _, gX4_whetting_X4_mowing, rfl, by decide +kernel, by decide +kernel⟩
theorem kv_X4_whetting_X4_mowing_31 : KV RX4 wsX4_whettinge (rmz 3) 31 RX4 yX4_mowing wsX4_mowinge (rmz 1) 2 := KV_mb kv_X4_whetting_X4_mowing_31_b
theorem ku_X4_whetting_X6_mowing_31_6_b : KU RX4 wsX4_whetting (rmz 3) 31 RX6 yX6_mowing wsX6_mowing (rmz 2) 2 := ⟨_, _, _, _, _, _, Or.inr ⟨gX4_whetting_X6_mowing_u31X6, _, _, _, List.mem_of_getElem? (i := 14) rfl⟩, rfl, by decide +kernel, by decide +kernel⟩
theorem ku_X4_whetting_X6_mowing_31_6 : KU RX4 wsX4_whettinge (rmz 3) 31 RX6 yX6_mowing wsX6_mowinge (rmz 2) 2 := KU_mb ku_X4_whetting_X6_mowing_31_6_b
theorem ku_X4_whetting_X3_mowing_31_7_b : KU RX4 wsX4_whetting (rmz 3) 31 RX7 yX3_mowing wsX3_mowing (rmz 2) 2 := ⟨_, _, _, _, _, _, Or.inr ⟨gX4_whetting_X3_mowing_u31X7, _, _, _, List.mem_of_getElem? (i := 14) rfl⟩, rfl, by decide +kernel, by decide +kernel⟩
theorem ku_X4_whetting_X3_mowing_31_7 : KU RX4 wsX4_whettinge (rmz 3) 31 RX7 yX3_mowing wsX3_mowinge (rmz 2) 2 := KU_mb ku_X4_whetting_X3_mowing_31_7_b
theorem ku_X4_whetting_X4_mowing_31_8_b : KU RX4 wsX4_whetting (rmz 3) 31 RX8 yX4_mowing wsX4_mowing (rmz 1) 2 := ⟨_, _, _, _, _, _, Or.inl ⟨gX4_whetting_X4_mowing_u31X8, rfl⟩, rfl, by decide +kernel, by decide +kernel⟩
theorem ku_X4_whetting_X4_mowing_31_8 : KU RX4 wsX4_whettinge (rmz 3) 31 RX8 yX4_mowing wsX4_mowinge (rmz 1) 2 := KU_mb ku_X4_whetting_X4_mowing_31_8_b
theorem ku_X4_whetting_X10_mowing_31_10_b : KU RX4 wsX4_whetting (rmz 3) 31 RX10 yX10_mowing wsX10_mowing (rmz 2) 2 := ⟨_, _, _, _, _, _, Or.inr ⟨gX4_whetting_X10_mowing_u31X10, _, _, _, List.mem_of_getElem? (i := 14) rfl⟩, rfl, by decide +kernel, by decide +kernel⟩
theorem ku_X4_whetting_X10_mowing_31_10 : KU RX4 wsX4_whettinge (rmz 3) 31 RX10 yX10_mowing wsX10_mowinge (rmz 2) 2 := KU_mb ku_X4_whetting_X10_mowing_31_10_b
theorem fa_X4_whetting_16_b : FA RX4 wsX4_whetting 16 4 2 "NineMowers$Mower" := by
  show _ ∧ _ ∧ _ ∧ _
  exact ⟨by decide +kernel, fun _ h => List.mem_cons_of_mem _ (List.mem_append_left _ (List.mem_append_left _ (List.mem_append_left _ (List.mem_append_left _ (List.mem_append_left _ (List.mem_append_right _ h)))))), List.mem_of_getElem? (i := 1) rfl, Or.inl rfl⟩
theorem fa_X4_whetting_16 : FA RX4 wsX4_whettinge 16 4 2 "NineMowers$Mower" := FA_ml fa_X4_whetting_16_b
noncomputable def K_X4_whetting (l : Launch) (V : Vx) (c0 : Nat) (a1 : Int32) (a2 : Nat) (σ : Sg) (Qk : Int32 → Sg → Prop) : Prop := Ka l V yX4_whetting wsX4_whettinge (rmz 3) 0 0 [.ref c0, .int a1, .ref a2] σ (QI V Qk)
theorem e_X4_whetting {l : Launch} {V : Vx} {c0 : Nat} {a1 : Int32} {a2 : Nat} {σ : Sg} {Qk : Int32 → Sg → Prop} (h : ∀ M : Mx, mL M = l → mV M = V → mN M = 3 → Cx M cX4_whetting (some .int) RX4 wsX4_whettinge (rmz 3) 0 0 (QI (mV M) Qk) → PS M 0 [(0, .ref c0), (1, .int a1), (2, .ref a2)] [] σ (0, 0)) : K_X4_whetting l V c0 a1 a2 σ Qk :=
  Ka_of (by decide +kernel) rfl rfl (Nat.le_of_ble_eq_true rfl) (fun M h1 h2 h3 C => h M h1 h2 h3 (by rw [h2]; exact C))
set_option maxRecDepth 100000 in
set_option maxHeartbeats 4000000 in
theorem s_X4_whetting_0 {M : Mx} {Qk : Int32 → Sg → Prop} (C : Cx M cX4_whetting (some .int) RX4 wsX4_whettinge (rmz 3) 0 0 (QI (mV M) Qk)) (hN : mN M = 3) {c0 : Nat} {a1 : Int32} {a2 : Nat} {ci0 : Nat} (sc0 : ci0 = 0 ∨ ci0 = 3 ∨ ci0 = 4 ∨ ci0 = 6 ∨ ci0 = 7 ∨ ci0 = 8 ∨ ci0 = 10) (hc0 : kd c0 = (10 + ci0, 0)) (lc0 : c0 ∈ ids (mV M)) (ha2 : isN a2) {σ : Sg} (h : K_X5_comes (mL M) (mV M) a2 (11 : Int32) σ (fun σ1 => KD_mowing (mL M) (mV M) ci0 c0 a1 a2 σ1 (fun r3 σ2 => Qk (r3 - (gi σ2 c0 2)) σ2))) : PS M 0 [(0, .ref c0), (1, .int a1), (2, .ref a2)] [] σ (0, 0) := by
  refine P_aload_n C dX4_whetting_0 2 rfl ?_
  refine P_bipush C dX4_whetting_1 (v := (11 : Int32)) rfl ?_
  refine P_cv (R_v (ci := 5) C kv_X4_whetting_X5_comes (As := [.int (11 : Int32)]) rfl (kdN_0 ha2) rfl (fxl (fxN_0 ha2)) (Nat.le_of_ble_eq_true rfl) dX4_whetting_3 ⟨Nat.le_refl _, Nat.le_refl _⟩ h) (fun σ1 h => ?_)
  refine P_aload_n C dX4_whetting_6 0 rfl ?_
  refine P_iload_n C dX4_whetting_7 1 rfl ?_
  refine P_aload_n C dX4_whetting_8 2 rfl ?_
  have key : ∀ Qz, KD_mowing (mL M) (mV M) ci0 c0 a1 a2 σ1 Qz → RS M 9 [(0, .ref c0), (1, .int a1), (2, .ref a2)] [.ref a2, .int a1, .ref c0] [] σ1 (0, 0) 0 0 (QI (mV M) Qz (([.ref c0, .int a1, .ref a2] : List Value).map (cv (mV M))).toArray) := by
    intro Qz h
    rcases sc0 with rfl | rfl | rfl | rfl | rfl | rfl | rfl
    · exact R_u (ci := 0) C ku_X4_whetting_X4_mowing_31_0 (As := [.int a1, .ref a2]) rfl hc0 rfl lc0 (Nat.le_of_ble_eq_true rfl) dX4_whetting_9 ⟨Nat.le_refl _, Nat.le_refl _⟩ (h.1 rfl)
    · exact R_u (ci := 3) C ku_X4_whetting_X3_mowing_31_3 (As := [.int a1, .ref a2]) rfl hc0 rfl lc0 (Nat.le_of_ble_eq_true rfl) dX4_whetting_9 ⟨Nat.le_refl _, Nat.le_refl _⟩ (h.2.1 rfl)
    · exact R_v (ci := 4) C kv_X4_whetting_X4_mowing_31 (As := [.int a1, .ref a2]) rfl hc0 rfl lc0 (Nat.le_of_ble_eq_true rfl) dX4_whetting_9 ⟨Nat.le_refl _, Nat.le_refl _⟩ (h.2.2.1 rfl)
    · exact R_u (ci := 6) C ku_X4_whetting_X6_mowing_31_6 (As := [.int a1, .ref a2]) rfl hc0 rfl lc0 (Nat.le_of_ble_eq_true rfl) dX4_whetting_9 ⟨Nat.le_refl _, Nat.le_refl _⟩ (h.2.2.2.1 rfl)
    · exact R_u (ci := 7) C ku_X4_whetting_X3_mowing_31_7 (As := [.int a1, .ref a2]) rfl hc0 rfl lc0 (Nat.le_of_ble_eq_true rfl) dX4_whetting_9 ⟨Nat.le_refl _, Nat.le_refl _⟩ (h.2.2.2.2.1 rfl)
    · exact R_u (ci := 8) C ku_X4_whetting_X4_mowing_31_8 (As := [.int a1, .ref a2]) rfl hc0 rfl lc0 (Nat.le_of_ble_eq_true rfl) dX4_whetting_9 ⟨Nat.le_refl _, Nat.le_refl _⟩ (h.2.2.2.2.2.1 rfl)
    · exact R_u (ci := 10) C ku_X4_whetting_X10_mowing_31_10 (As := [.int a1, .ref a2]) rfl hc0 rfl lc0 (Nat.le_of_ble_eq_true rfl) dX4_whetting_9 ⟨Nat.le_refl _, Nat.le_refl _⟩ (h.2.2.2.2.2.2 rfl)
  refine P_ci (key _ h) (fun r3 σ2 h => ?_)
  refine P_aload_n C dX4_whetting_12 0 rfl ?_
  refine P_getM C fa_X4_whetting_16 (by decide +kernel) sc0 hc0 lc0 dX4_whetting_13 ?_
  refine P_isub C dX4_whetting_16 ?_
  exact P_iret C dX4_whetting_17 h
theorem kv_X8_whetting_X5_comes_b : KV RX8 wsX8_whetting (rmz 4) 7 RX5 yX5_comes wsX5_comes (rmz 0) 1 := ⟨_, _, _, _, gX8_whetting_X5_comes, rfl, by decide +kernel, by decide +kernel⟩
theorem kv_X8_whetting_X5_comes : KV RX8 wsX8_whettinge (rmz 4) 7 RX5 yX5_comes wsX5_comes (rmz 0) 1 := KV_ml kv_X8_whetting_X5_comes_b
theorem ks_X8_whetting_X4_whetting_b : KSU RX8 wsX8_whetting (rmz 4) 13 yX4_whetting wsX4_whetting (rmz 3) 2 := ⟨_, _, _, _, gX8_whetting_X4_whetting_s13, rfl, by decide +kernel, by decide +kernel⟩
theorem ks_X8_whetting_X4_whetting : KSU RX8 wsX8_whettinge (rmz 4) 13 yX4_whetting wsX4_whettinge (rmz 3) 2 := KSU_mb ks_X8_whetting_X4_whetting_b
noncomputable def K_X8_whetting (l : Launch) (V : Vx) (c0 : Nat) (a1 : Int32) (a2 : Nat) (σ : Sg) (Qk : Int32 → Sg → Prop) : Prop := Ka l V yX8_whetting wsX8_whettinge (rmz 4) 0 0 [.ref c0, .int a1, .ref a2] σ (QI V Qk)
theorem e_X8_whetting {l : Launch} {V : Vx} {c0 : Nat} {a1 : Int32} {a2 : Nat} {σ : Sg} {Qk : Int32 → Sg → Prop} (h : ∀ M : Mx, mL M = l → mV M = V → mN M = 3 → Cx M cX8_whetting (some .int) RX8 wsX8_whettinge (rmz 4) 0 0 (QI (mV M) Qk) → PS M 0 [(0, .ref c0), (1, .int a1), (2, .ref a2)] [] σ (0, 0)) : K_X8_whetting l V c0 a1 a2 σ Qk :=
  Ka_of (by decide +kernel) rfl rfl (Nat.le_of_ble_eq_true rfl) (fun M h1 h2 h3 C => h M h1 h2 h3 (by rw [h2]; exact C))
set_option maxRecDepth 100000 in
set_option maxHeartbeats 4000000 in
theorem s_X8_whetting_0 {M : Mx} {Qk : Int32 → Sg → Prop} (C : Cx M cX8_whetting (some .int) RX8 wsX8_whettinge (rmz 4) 0 0 (QI (mV M) Qk)) (hN : mN M = 3) {c0 : Nat} {a1 : Int32} {a2 : Nat} {ci0 : Nat} (sc0 : ci0 = 6 ∨ ci0 = 8) (hc0 : kd c0 = (10 + ci0, 0)) (lc0 : c0 ∈ ids (mV M)) (ha2 : isN a2) {σ : Sg} (h : K_X5_comes (mL M) (mV M) a2 (20 : Int32) σ (fun σ1 => K_X4_whetting (mL M) (mV M) c0 a1 a2 σ1 (fun r4 σ3 => Qk (r4 ^^^ (6 : Int32)) σ3))) : PS M 0 [(0, .ref c0), (1, .int a1), (2, .ref a2)] [] σ (0, 0) := by
  refine P_aload_n C dX8_whetting_0 2 rfl ?_
  refine P_bipush C dX8_whetting_1 (v := (20 : Int32)) rfl ?_
  refine P_cv (R_v (ci := 5) C kv_X8_whetting_X5_comes (As := [.int (20 : Int32)]) rfl (kdN_0 ha2) rfl (fxl (fxN_0 ha2)) (Nat.le_of_ble_eq_true rfl) dX8_whetting_3 ⟨Nat.le_refl _, Nat.le_refl _⟩ h) (fun σ1 h => ?_)
  refine P_aload_n C dX8_whetting_6 0 rfl ?_
  refine P_iload_n C dX8_whetting_7 1 rfl ?_
  refine P_aload_n C dX8_whetting_8 2 rfl ?_
  have key2 : ∀ Qz, K_X4_whetting (mL M) (mV M) c0 a1 a2 σ1 Qz → RS M 9 [(0, .ref c0), (1, .int a1), (2, .ref a2)] [.ref a2, .int a1, .ref c0] [] σ1 (0, 0) 0 0 (QI (mV M) Qz (([.ref c0, .int a1, .ref a2] : List Value).map (cv (mV M))).toArray) := by
    intro Qz h8
    rcases sc0 with rfl | rfl
    · exact R_su (ci := 6) C ks_X8_whetting_X4_whetting (As := [.int a1, .ref a2]) rfl hc0 rfl lc0 (Nat.le_of_ble_eq_true rfl) dX8_whetting_9 ⟨Nat.le_refl _, Nat.le_refl _⟩ h8
    · exact R_su (ci := 8) C ks_X8_whetting_X4_whetting (As := [.int a1, .ref a2]) rfl hc0 rfl lc0 (Nat.le_of_ble_eq_true rfl) dX8_whetting_9 ⟨Nat.le_refl _, Nat.le_refl _⟩ h8
  refine P_ci (key2 _ h) (fun r4 σ3 h => ?_)
  refine P_bipush C dX8_whetting_12 (v := (6 : Int32)) rfl ?_
  refine P_ixor C dX8_whetting_14 ?_
  exact P_iret C dX8_whetting_15 h
theorem kv_X6_whetting_X5_comes_b : KV RX6 wsX6_whetting (rmz 5) 17 RX5 yX5_comes wsX5_comes (rmz 0) 1 := ⟨_, _, _, _, gX6_whetting_X5_comes, rfl, by decide +kernel, by decide +kernel⟩
theorem kv_X6_whetting_X5_comes : KV RX6 wsX6_whettinge (rmz 5) 17 RX5 yX5_comes wsX5_comes (rmz 0) 1 := KV_ml kv_X6_whetting_X5_comes_b
theorem ks_X6_whetting_X8_whetting_b : KSU RX6 wsX6_whetting (rmz 5) 27 yX8_whetting wsX8_whetting (rmz 4) 2 := ⟨_, _, _, _, gX6_whetting_X8_whetting_s27, rfl, by decide +kernel, by decide +kernel⟩
theorem ks_X6_whetting_X8_whetting : KSU RX6 wsX6_whettinge (rmz 5) 27 yX8_whetting wsX8_whettinge (rmz 4) 2 := KSU_mb ks_X6_whetting_X8_whetting_b
noncomputable def K_X6_whetting (l : Launch) (V : Vx) (c0 : Nat) (a1 : Int32) (a2 : Nat) (σ : Sg) (Qk : Int32 → Sg → Prop) : Prop := Ka l V yX6_whetting wsX6_whettinge (rmz 5) 0 0 [.ref c0, .int a1, .ref a2] σ (QI V Qk)
theorem e_X6_whetting {l : Launch} {V : Vx} {c0 : Nat} {a1 : Int32} {a2 : Nat} {σ : Sg} {Qk : Int32 → Sg → Prop} (h : ∀ M : Mx, mL M = l → mV M = V → mN M = 3 → Cx M cX6_whetting (some .int) RX6 wsX6_whettinge (rmz 5) 0 0 (QI (mV M) Qk) → PS M 0 [(0, .ref c0), (1, .int a1), (2, .ref a2)] [] σ (0, 0)) : K_X6_whetting l V c0 a1 a2 σ Qk :=
  Ka_of (by decide +kernel) rfl rfl (Nat.le_of_ble_eq_true rfl) (fun M h1 h2 h3 C => h M h1 h2 h3 (by rw [h2]; exact C))
set_option maxRecDepth 100000 in
set_option maxHeartbeats 4000000 in
theorem s_X6_whetting_0 {M : Mx} {Qk : Int32 → Sg → Prop} (C : Cx M cX6_whetting (some .int) RX6 wsX6_whettinge (rmz 5) 0 0 (QI (mV M) Qk)) (hN : mN M = 3) {c0 : Nat} {a1 : Int32} {a2 : Nat} {ci0 : Nat} (sc0 : ci0 = 6) (hc0 : kd c0 = (10 + ci0, 0)) (lc0 : c0 ∈ ids (mV M)) (ha2 : isN a2) {σ : Sg} (h : K_X5_comes (mL M) (mV M) a2 (51 : Int32) σ (fun σ1 => K_X8_whetting (mL M) (mV M) c0 (a1 + (1 : Int32)) a2 σ1 (fun r4 σ3 => Qk r4 σ3))) : PS M 0 [(0, .ref c0), (1, .int a1), (2, .ref a2)] [] σ (0, 0) := by
  refine P_aload_n C dX6_whetting_0 2 rfl ?_
  refine P_bipush C dX6_whetting_1 (v := (51 : Int32)) rfl ?_
  refine P_cv (R_v (ci := 5) C kv_X6_whetting_X5_comes (As := [.int (51 : Int32)]) rfl (kdN_0 ha2) rfl (fxl (fxN_0 ha2)) (Nat.le_of_ble_eq_true rfl) dX6_whetting_3 ⟨Nat.le_refl _, Nat.le_refl _⟩ h) (fun σ1 h => ?_)
  refine P_aload_n C dX6_whetting_6 0 rfl ?_
  refine P_iload_n C dX6_whetting_7 1 rfl ?_
  refine P_iconst C dX6_whetting_8 (v := (1 : Int32)) rfl ?_
  refine P_iadd C dX6_whetting_9 ?_
  refine P_aload_n C dX6_whetting_10 2 rfl ?_
  have key2 : ∀ Qz, K_X8_whetting (mL M) (mV M) c0 (a1 + (1 : Int32)) a2 σ1 Qz → RS M 11 [(0, .ref c0), (1, .int a1), (2, .ref a2)] [.ref a2, .int (a1 + (1 : Int32)), .ref c0] [] σ1 (0, 0) 0 0 (QI (mV M) Qz (([.ref c0, .int (a1 + (1 : Int32)), .ref a2] : List Value).map (cv (mV M))).toArray) := by
    intro Qz h8
    subst sc0
    · exact R_su (ci := 6) C ks_X6_whetting_X8_whetting (As := [.int (a1 + (1 : Int32)), .ref a2]) rfl hc0 rfl lc0 (Nat.le_of_ble_eq_true rfl) dX6_whetting_11 ⟨Nat.le_refl _, Nat.le_refl _⟩ h8
  refine P_ci (key2 _ h) (fun r4 σ3 h => ?_)
  exact P_iret C dX6_whetting_14 h
theorem kv_X10_whetting_X5_comes_b : KV RX10 wsX10_whetting (rmz 4) 26 RX5 yX5_comes wsX5_comes (rmz 0) 1 := ⟨_, _, _, _, gX10_whetting_X5_comes, rfl, by decide +kernel, by decide +kernel⟩
theorem kv_X10_whetting_X5_comes : KV RX10 wsX10_whettinge (rmz 4) 26 RX5 yX5_comes wsX5_comes (rmz 0) 1 := KV_ml kv_X10_whetting_X5_comes_b
theorem ks_X10_whetting_X4_whetting : KSI RX10 wsX10_whettinge (rmz 4) 32 ⟨RX0, "whetting", "(ILNineMowers$Numbers;)I"⟩ RX4 yX4_whetting wsX4_whettinge (rmz 3) 2 := ⟨_, _, _, _, gsi_X10_whetting_32, rfl, by decide +kernel, by decide +kernel⟩
theorem ks_X10_whetting_X4_mowing : KSI RX10 wsX10_whettinge (rmz 4) 36 ⟨RX0, "mowing", "(ILNineMowers$Numbers;)I"⟩ RX4 yX4_mowing wsX4_mowinge (rmz 1) 2 := ⟨_, _, _, _, gsi_X10_whetting_36, rfl, by decide +kernel, by decide +kernel⟩
noncomputable def K_X10_whetting (l : Launch) (V : Vx) (c0 : Nat) (a1 : Int32) (a2 : Nat) (σ : Sg) (Qk : Int32 → Sg → Prop) : Prop := Ka l V yX10_whetting wsX10_whettinge (rmz 4) 0 0 [.ref c0, .int a1, .ref a2] σ (QI V Qk)
theorem e_X10_whetting {l : Launch} {V : Vx} {c0 : Nat} {a1 : Int32} {a2 : Nat} {σ : Sg} {Qk : Int32 → Sg → Prop} (h : ∀ M : Mx, mL M = l → mV M = V → mN M = 3 → Cx M cX10_whetting (some .int) RX10 wsX10_whettinge (rmz 4) 0 0 (QI (mV M) Qk) → PS M 0 [(0, .ref c0), (1, .int a1), (2, .ref a2)] [] σ (0, 0)) : K_X10_whetting l V c0 a1 a2 σ Qk :=
  Ka_of (by decide +kernel) rfl rfl (Nat.le_of_ble_eq_true rfl) (fun M h1 h2 h3 C => h M h1 h2 h3 (by rw [h2]; exact C))
set_option maxRecDepth 100000 in
set_option maxHeartbeats 4000000 in
theorem s_X10_whetting_0 {M : Mx} {Qk : Int32 → Sg → Prop} (C : Cx M cX10_whetting (some .int) RX10 wsX10_whettinge (rmz 4) 0 0 (QI (mV M) Qk)) (hN : mN M = 3) {c0 : Nat} {a1 : Int32} {a2 : Nat} {ci0 : Nat} (sc0 : ci0 = 10) (hc0 : kd c0 = (10 + ci0, 0)) (lc0 : c0 ∈ ids (mV M)) (ha2 : isN a2) {σ : Sg} (h : K_X5_comes (mL M) (mV M) a2 (70 : Int32) σ (fun σ1 => K_X4_whetting (mL M) (mV M) c0 a1 a2 σ1 (fun r4 σ3 => K_X4_mowing (mL M) (mV M) c0 (2 : Int32) a2 σ3 (fun r7 σ6 => Qk (r4 + r7) σ6)))) : PS M 0 [(0, .ref c0), (1, .int a1), (2, .ref a2)] [] σ (0, 0) := by
  refine P_aload_n C dX10_whetting_0 2 rfl ?_
  refine P_bipush C dX10_whetting_1 (v := (70 : Int32)) rfl ?_
  refine P_cv (R_v (ci := 5) C kv_X10_whetting_X5_comes (As := [.int (70 : Int32)]) rfl (kdN_0 ha2) rfl (fxl (fxN_0 ha2)) (Nat.le_of_ble_eq_true rfl) dX10_whetting_3 ⟨Nat.le_refl _, Nat.le_refl _⟩ h) (fun σ1 h => ?_)
  refine P_aload_n C dX10_whetting_6 0 rfl ?_
  refine P_iload_n C dX10_whetting_7 1 rfl ?_
  refine P_aload_n C dX10_whetting_8 2 rfl ?_
  have key2 : ∀ Qz, K_X4_whetting (mL M) (mV M) c0 a1 a2 σ1 Qz → RS M 9 [(0, .ref c0), (1, .int a1), (2, .ref a2)] [.ref a2, .int a1, .ref c0] [] σ1 (0, 0) 0 0 (QI (mV M) Qz (([.ref c0, .int a1, .ref a2] : List Value).map (cv (mV M))).toArray) := by
    intro Qz h8
    subst sc0
    · exact R_si (ci := 10) C ks_X10_whetting_X4_whetting (As := [.int a1, .ref a2]) rfl hc0 rfl lc0 (Nat.le_of_ble_eq_true rfl) dX10_whetting_9 ⟨Nat.le_refl _, Nat.le_refl _⟩ h8
  refine P_ci (key2 _ h) (fun r4 σ3 h => ?_)
  refine P_aload_n C dX10_whetting_12 0 rfl ?_
  refine P_iconst C dX10_whetting_13 (v := (2 : Int32)) rfl ?_
  refine P_aload_n C dX10_whetting_14 2 rfl ?_
  have key5 : ∀ Qz, K_X4_mowing (mL M) (mV M) c0 (2 : Int32) a2 σ3 Qz → RS M 15 [(0, .ref c0), (1, .int a1), (2, .ref a2)] [.ref a2, .int (2 : Int32), .ref c0, .int r4] [.int r4] σ3 (0, 0) 0 0 (QI (mV M) Qz (([.ref c0, .int (2 : Int32), .ref a2] : List Value).map (cv (mV M))).toArray) := by
    intro Qz h8
    subst sc0
    · exact R_si (ci := 10) C ks_X10_whetting_X4_mowing (As := [.int (2 : Int32), .ref a2]) rfl hc0 rfl lc0 (Nat.le_of_ble_eq_true rfl) dX10_whetting_15 ⟨Nat.le_refl _, Nat.le_refl _⟩ h8
  refine P_ci (key5 _ h) (fun r7 σ6 h => ?_)
  refine P_iadd C dX10_whetting_18 ?_
  exact P_iret C dX10_whetting_19 h
noncomputable def KD_whetting (l : Launch) (V : Vx) (ci : Nat) (c0 : Nat) (a1 : Int32) (a2 : Nat) (σ : Sg) (Qk : Int32 → Sg → Prop) : Prop := (ci = 0 → K_X4_whetting l V c0 a1 a2 σ Qk) ∧ (ci = 3 → K_X4_whetting l V c0 a1 a2 σ Qk) ∧ (ci = 4 → K_X4_whetting l V c0 a1 a2 σ Qk) ∧ (ci = 6 → K_X6_whetting l V c0 a1 a2 σ Qk) ∧ (ci = 7 → K_X4_whetting l V c0 a1 a2 σ Qk) ∧ (ci = 8 → K_X8_whetting l V c0 a1 a2 σ Qk) ∧ (ci = 10 → K_X10_whetting l V c0 a1 a2 σ Qk)
theorem kv_X4_telling_X5_comes_b : KV RX4 wsX4_telling (rmz 6) 25 RX5 yX5_comes wsX5_comes (rmz 0) 1 := ⟨_, _, _, _, gX4_telling_X5_comes, rfl, by decide +kernel, by decide +kernel⟩
theorem kv_X4_telling_X5_comes : KV RX4 wsX4_tellinge (rmz 6) 25 RX5 yX5_comes wsX5_comes (rmz 0) 1 := KV_ml kv_X4_telling_X5_comes_b
theorem ku_X4_telling_X4_whetting_35_0_b : KU RX4 wsX4_telling (rmz 6) 35 RX0 yX4_whetting wsX4_whetting (rmz 3) 2 := ⟨_, _, _, _, _, _, Or.inl ⟨gX4_telling_X4_whetting_u35X0, rfl⟩, rfl, by decide +kernel, by decide +kernel⟩
theorem ku_X4_telling_X4_whetting_35_0 : KU RX4 wsX4_tellinge (rmz 6) 35 RX0 yX4_whetting wsX4_whettinge (rmz 3) 2 := KU_mb ku_X4_telling_X4_whetting_35_0_b
theorem ku_X4_telling_X4_whetting_35_3_b : KU RX4 wsX4_telling (rmz 6) 35 RX3 yX4_whetting wsX4_whetting (rmz 3) 2 := ⟨_, _, _, _, _, _, Or.inl ⟨gX4_telling_X4_whetting_u35X3, rfl⟩, rfl, by decide +kernel, by decide +kernel⟩
theorem ku_X4_telling_X4_whetting_35_3 : KU RX4 wsX4_tellinge (rmz 6) 35 RX3 yX4_whetting wsX4_whettinge (rmz 3) 2 := KU_mb ku_X4_telling_X4_whetting_35_3_b
theorem kv_X4_telling_X4_whetting_35_b : KV RX4 wsX4_telling (rmz 6) 35 RX4 yX4_whetting wsX4_whetting (rmz 3) 2 := ⟨_, _, _, _, gX4_telling_X4_whetting, rfl, by decide +kernel, by decide +kernel⟩
theorem kv_X4_telling_X4_whetting_35 : KV RX4 wsX4_tellinge (rmz 6) 35 RX4 yX4_whetting wsX4_whettinge (rmz 3) 2 := KV_mb kv_X4_telling_X4_whetting_35_b
theorem ku_X4_telling_X6_whetting_35_6_b : KU RX4 wsX4_telling (rmz 6) 35 RX6 yX6_whetting wsX6_whetting (rmz 5) 2 := ⟨_, _, _, _, _, _, Or.inr ⟨gX4_telling_X6_whetting_u35X6, _, _, _, List.mem_of_getElem? (i := 13) rfl⟩, rfl, by decide +kernel, by decide +kernel⟩
theorem ku_X4_telling_X6_whetting_35_6 : KU RX4 wsX4_tellinge (rmz 6) 35 RX6 yX6_whetting wsX6_whettinge (rmz 5) 2 := KU_mb ku_X4_telling_X6_whetting_35_6_b
theorem ku_X4_telling_X4_whetting_35_7_b : KU RX4 wsX4_telling (rmz 6) 35 RX7 yX4_whetting wsX4_whetting (rmz 3) 2 := ⟨_, _, _, _, _, _, Or.inl ⟨gX4_telling_X4_whetting_u35X7, rfl⟩, rfl, by decide +kernel, by decide +kernel⟩
theorem ku_X4_telling_X4_whetting_35_7 : KU RX4 wsX4_tellinge (rmz 6) 35 RX7 yX4_whetting wsX4_whettinge (rmz 3) 2 := KU_mb ku_X4_telling_X4_whetting_35_7_b
theorem ku_X4_telling_X8_whetting_35_8_b : KU RX4 wsX4_telling (rmz 6) 35 RX8 yX8_whetting wsX8_whetting (rmz 4) 2 := ⟨_, _, _, _, _, _, Or.inr ⟨gX4_telling_X8_whetting_u35X8, _, _, _, List.mem_of_getElem? (i := 13) rfl⟩, rfl, by decide +kernel, by decide +kernel⟩
theorem ku_X4_telling_X8_whetting_35_8 : KU RX4 wsX4_tellinge (rmz 6) 35 RX8 yX8_whetting wsX8_whettinge (rmz 4) 2 := KU_mb ku_X4_telling_X8_whetting_35_8_b
theorem ku_X4_telling_X10_whetting_35_10_b : KU RX4 wsX4_telling (rmz 6) 35 RX10 yX10_whetting wsX10_whetting (rmz 4) 2 := ⟨_, _, _, _, _, _, Or.inr ⟨gX4_telling_X10_whetting_u35X10, _, _, _, List.mem_of_getElem? (i := 13) rfl⟩, rfl, by decide +kernel, by decide +kernel⟩
theorem ku_X4_telling_X10_whetting_35_10 : KU RX4 wsX4_tellinge (rmz 6) 35 RX10 yX10_whetting wsX10_whettinge (rmz 4) 2 := KU_mb ku_X4_telling_X10_whetting_35_10_b
noncomputable def K_X4_telling (l : Launch) (V : Vx) (c0 : Nat) (a1 : Int32) (a2 : Nat) (σ : Sg) (Qk : Int32 → Sg → Prop) : Prop := Ka l V yX4_telling wsX4_tellinge (rmz 6) 0 0 [.ref c0, .int a1, .ref a2] σ (QI V Qk)
theorem e_X4_telling {l : Launch} {V : Vx} {c0 : Nat} {a1 : Int32} {a2 : Nat} {σ : Sg} {Qk : Int32 → Sg → Prop} (h : ∀ M : Mx, mL M = l → mV M = V → mN M = 3 → Cx M cX4_telling (some .int) RX4 wsX4_tellinge (rmz 6) 0 0 (QI (mV M) Qk) → PS M 0 [(0, .ref c0), (1, .int a1), (2, .ref a2)] [] σ (0, 0)) : K_X4_telling l V c0 a1 a2 σ Qk :=
  Ka_of (by decide +kernel) rfl rfl (Nat.le_of_ble_eq_true rfl) (fun M h1 h2 h3 C => h M h1 h2 h3 (by rw [h2]; exact C))
set_option maxRecDepth 100000 in
set_option maxHeartbeats 4000000 in
theorem s_X4_telling_0 {M : Mx} {Qk : Int32 → Sg → Prop} (C : Cx M cX4_telling (some .int) RX4 wsX4_tellinge (rmz 6) 0 0 (QI (mV M) Qk)) (hN : mN M = 3) {c0 : Nat} {a1 : Int32} {a2 : Nat} {ci0 : Nat} (sc0 : ci0 = 0 ∨ ci0 = 3 ∨ ci0 = 4 ∨ ci0 = 6 ∨ ci0 = 7 ∨ ci0 = 8 ∨ ci0 = 10) (hc0 : kd c0 = (10 + ci0, 0)) (lc0 : c0 ∈ ids (mV M)) (ha2 : isN a2) {σ : Sg} (h : K_X5_comes (mL M) (mV M) a2 (12 : Int32) σ (fun σ1 => KD_whetting (mL M) (mV M) ci0 c0 a1 a2 σ1 (fun r3 σ2 => Qk (r3 * (2 : Int32)) σ2))) : PS M 0 [(0, .ref c0), (1, .int a1), (2, .ref a2)] [] σ (0, 0) := by
  refine P_aload_n C dX4_telling_0 2 rfl ?_
  refine P_bipush C dX4_telling_1 (v := (12 : Int32)) rfl ?_
  refine P_cv (R_v (ci := 5) C kv_X4_telling_X5_comes (As := [.int (12 : Int32)]) rfl (kdN_0 ha2) rfl (fxl (fxN_0 ha2)) (Nat.le_of_ble_eq_true rfl) dX4_telling_3 ⟨Nat.le_refl _, Nat.le_refl _⟩ h) (fun σ1 h => ?_)
  refine P_aload_n C dX4_telling_6 0 rfl ?_
  refine P_iload_n C dX4_telling_7 1 rfl ?_
  refine P_aload_n C dX4_telling_8 2 rfl ?_
  have key : ∀ Qz, KD_whetting (mL M) (mV M) ci0 c0 a1 a2 σ1 Qz → RS M 9 [(0, .ref c0), (1, .int a1), (2, .ref a2)] [.ref a2, .int a1, .ref c0] [] σ1 (0, 0) 0 0 (QI (mV M) Qz (([.ref c0, .int a1, .ref a2] : List Value).map (cv (mV M))).toArray) := by
    intro Qz h
    rcases sc0 with rfl | rfl | rfl | rfl | rfl | rfl | rfl
    · exact R_u (ci := 0) C ku_X4_telling_X4_whetting_35_0 (As := [.int a1, .ref a2]) rfl hc0 rfl lc0 (Nat.le_of_ble_eq_true rfl) dX4_telling_9 ⟨Nat.le_refl _, Nat.le_refl _⟩ (h.1 rfl)
    · exact R_u (ci := 3) C ku_X4_telling_X4_whetting_35_3 (As := [.int a1, .ref a2]) rfl hc0 rfl lc0 (Nat.le_of_ble_eq_true rfl) dX4_telling_9 ⟨Nat.le_refl _, Nat.le_refl _⟩ (h.2.1 rfl)
    · exact R_v (ci := 4) C kv_X4_telling_X4_whetting_35 (As := [.int a1, .ref a2]) rfl hc0 rfl lc0 (Nat.le_of_ble_eq_true rfl) dX4_telling_9 ⟨Nat.le_refl _, Nat.le_refl _⟩ (h.2.2.1 rfl)
    · exact R_u (ci := 6) C ku_X4_telling_X6_whetting_35_6 (As := [.int a1, .ref a2]) rfl hc0 rfl lc0 (Nat.le_of_ble_eq_true rfl) dX4_telling_9 ⟨Nat.le_refl _, Nat.le_refl _⟩ (h.2.2.2.1 rfl)
    · exact R_u (ci := 7) C ku_X4_telling_X4_whetting_35_7 (As := [.int a1, .ref a2]) rfl hc0 rfl lc0 (Nat.le_of_ble_eq_true rfl) dX4_telling_9 ⟨Nat.le_refl _, Nat.le_refl _⟩ (h.2.2.2.2.1 rfl)
    · exact R_u (ci := 8) C ku_X4_telling_X8_whetting_35_8 (As := [.int a1, .ref a2]) rfl hc0 rfl lc0 (Nat.le_of_ble_eq_true rfl) dX4_telling_9 ⟨Nat.le_refl _, Nat.le_refl _⟩ (h.2.2.2.2.2.1 rfl)
    · exact R_u (ci := 10) C ku_X4_telling_X10_whetting_35_10 (As := [.int a1, .ref a2]) rfl hc0 rfl lc0 (Nat.le_of_ble_eq_true rfl) dX4_telling_9 ⟨Nat.le_refl _, Nat.le_refl _⟩ (h.2.2.2.2.2.2 rfl)
  refine P_ci (key _ h) (fun r3 σ2 h => ?_)
  refine P_iconst C dX4_telling_12 (v := (2 : Int32)) rfl ?_
  refine P_imul C dX4_telling_13 ?_
  exact P_iret C dX4_telling_14 h
theorem kv_X0_telling_X5_comes_b : KV RX0 wsX0_telling (rmz 7) 11 RX5 yX5_comes wsX5_comes (rmz 0) 1 := ⟨_, _, _, _, gX0_telling_X5_comes, rfl, by decide +kernel, by decide +kernel⟩
theorem kv_X0_telling_X5_comes : KV RX0 wsX0_tellinge (rmz 7) 11 RX5 yX5_comes wsX5_comes (rmz 0) 1 := KV_ml kv_X0_telling_X5_comes_b
theorem ks_X0_telling_X4_telling_b : KSU RX0 wsX0_telling (rmz 7) 17 yX4_telling wsX4_telling (rmz 6) 2 := ⟨_, _, _, _, gX0_telling_X4_telling_s17, rfl, by decide +kernel, by decide +kernel⟩
theorem ks_X0_telling_X4_telling : KSU RX0 wsX0_tellinge (rmz 7) 17 yX4_telling wsX4_tellinge (rmz 6) 2 := KSU_mb ks_X0_telling_X4_telling_b
theorem ku_X0_telling_X4_whetting_21_0_b : KU RX0 wsX0_telling (rmz 7) 21 RX0 yX4_whetting wsX4_whetting (rmz 3) 2 := ⟨_, _, _, _, _, _, Or.inl ⟨gX0_telling_X4_whetting_u21X0, rfl⟩, rfl, by decide +kernel, by decide +kernel⟩
theorem ku_X0_telling_X4_whetting_21_0 : KU RX0 wsX0_tellinge (rmz 7) 21 RX0 yX4_whetting wsX4_whettinge (rmz 3) 2 := KU_mb ku_X0_telling_X4_whetting_21_0_b
theorem ku_X0_telling_X10_whetting_21_10_b : KU RX0 wsX0_telling (rmz 7) 21 RX10 yX10_whetting wsX10_whetting (rmz 4) 2 := ⟨_, _, _, _, _, _, Or.inr ⟨gX0_telling_X10_whetting_u21X10, _, _, _, List.mem_of_getElem? (i := 19) rfl⟩, rfl, by decide +kernel, by decide +kernel⟩
theorem ku_X0_telling_X10_whetting_21_10 : KU RX0 wsX0_tellinge (rmz 7) 21 RX10 yX10_whetting wsX10_whettinge (rmz 4) 2 := KU_mb ku_X0_telling_X10_whetting_21_10_b
noncomputable def K_X0_telling (l : Launch) (V : Vx) (c0 : Nat) (a1 : Int32) (a2 : Nat) (σ : Sg) (Qk : Int32 → Sg → Prop) : Prop := Ka l V yX0_telling wsX0_tellinge (rmz 7) 0 0 [.ref c0, .int a1, .ref a2] σ (QI V Qk)
theorem e_X0_telling {l : Launch} {V : Vx} {c0 : Nat} {a1 : Int32} {a2 : Nat} {σ : Sg} {Qk : Int32 → Sg → Prop} (h : ∀ M : Mx, mL M = l → mV M = V → mN M = 3 → Cx M cX0_telling (some .int) RX0 wsX0_tellinge (rmz 7) 0 0 (QI (mV M) Qk) → PS M 0 [(0, .ref c0), (1, .int a1), (2, .ref a2)] [] σ (0, 0)) : K_X0_telling l V c0 a1 a2 σ Qk :=
  Ka_of (by decide +kernel) rfl rfl (Nat.le_of_ble_eq_true rfl) (fun M h1 h2 h3 C => h M h1 h2 h3 (by rw [h2]; exact C))
set_option maxRecDepth 100000 in
set_option maxHeartbeats 4000000 in
theorem s_X0_telling_0 {M : Mx} {Qk : Int32 → Sg → Prop} (C : Cx M cX0_telling (some .int) RX0 wsX0_tellinge (rmz 7) 0 0 (QI (mV M) Qk)) (hN : mN M = 3) {c0 : Nat} {a1 : Int32} {a2 : Nat} {ci0 : Nat} (sc0 : ci0 = 0 ∨ ci0 = 10) (hc0 : kd c0 = (10 + ci0, 0)) (lc0 : c0 ∈ ids (mV M)) (ha2 : isN a2) {σ : Sg} (h : K_X5_comes (mL M) (mV M) a2 (40 : Int32) σ (fun σ1 => K_X4_telling (mL M) (mV M) c0 a1 a2 σ1 (fun r4 σ3 => KD_whetting (mL M) (mV M) ci0 c0 (1 : Int32) a2 σ3 (fun r6 σ5 => Qk (r4 + r6) σ5)))) : PS M 0 [(0, .ref c0), (1, .int a1), (2, .ref a2)] [] σ (0, 0) := by
  refine P_aload_n C dX0_telling_0 2 rfl ?_
  refine P_bipush C dX0_telling_1 (v := (40 : Int32)) rfl ?_
  refine P_cv (R_v (ci := 5) C kv_X0_telling_X5_comes (As := [.int (40 : Int32)]) rfl (kdN_0 ha2) rfl (fxl (fxN_0 ha2)) (Nat.le_of_ble_eq_true rfl) dX0_telling_3 ⟨Nat.le_refl _, Nat.le_refl _⟩ h) (fun σ1 h => ?_)
  refine P_aload_n C dX0_telling_6 0 rfl ?_
  refine P_iload_n C dX0_telling_7 1 rfl ?_
  refine P_aload_n C dX0_telling_8 2 rfl ?_
  have key2 : ∀ Qz, K_X4_telling (mL M) (mV M) c0 a1 a2 σ1 Qz → RS M 9 [(0, .ref c0), (1, .int a1), (2, .ref a2)] [.ref a2, .int a1, .ref c0] [] σ1 (0, 0) 0 0 (QI (mV M) Qz (([.ref c0, .int a1, .ref a2] : List Value).map (cv (mV M))).toArray) := by
    intro Qz h8
    rcases sc0 with rfl | rfl
    · exact R_su (ci := 0) C ks_X0_telling_X4_telling (As := [.int a1, .ref a2]) rfl hc0 rfl lc0 (Nat.le_of_ble_eq_true rfl) dX0_telling_9 ⟨Nat.le_refl _, Nat.le_refl _⟩ h8
    · exact R_su (ci := 10) C ks_X0_telling_X4_telling (As := [.int a1, .ref a2]) rfl hc0 rfl lc0 (Nat.le_of_ble_eq_true rfl) dX0_telling_9 ⟨Nat.le_refl _, Nat.le_refl _⟩ h8
  refine P_ci (key2 _ h) (fun r4 σ3 h => ?_)
  refine P_aload_n C dX0_telling_12 0 rfl ?_
  refine P_iconst C dX0_telling_13 (v := (1 : Int32)) rfl ?_
  refine P_aload_n C dX0_telling_14 2 rfl ?_
  have key : ∀ Qz, KD_whetting (mL M) (mV M) ci0 c0 (1 : Int32) a2 σ3 Qz → RS M 15 [(0, .ref c0), (1, .int a1), (2, .ref a2)] [.ref a2, .int (1 : Int32), .ref c0, .int r4] [.int r4] σ3 (0, 0) 0 0 (QI (mV M) Qz (([.ref c0, .int (1 : Int32), .ref a2] : List Value).map (cv (mV M))).toArray) := by
    intro Qz h
    rcases sc0 with rfl | rfl
    · exact R_u (ci := 0) C ku_X0_telling_X4_whetting_21_0 (As := [.int (1 : Int32), .ref a2]) rfl hc0 rfl lc0 (Nat.le_of_ble_eq_true rfl) dX0_telling_15 ⟨Nat.le_refl _, Nat.le_refl _⟩ (h.1 rfl)
    · exact R_u (ci := 10) C ku_X0_telling_X10_whetting_21_10 (As := [.int (1 : Int32), .ref a2]) rfl hc0 rfl lc0 (Nat.le_of_ble_eq_true rfl) dX0_telling_15 ⟨Nat.le_refl _, Nat.le_refl _⟩ (h.2.2.2.2.2.2 rfl)
  refine P_ci (key _ h) (fun r6 σ5 h => ?_)
  refine P_iadd C dX0_telling_18 ?_
  exact P_iret C dX0_telling_19 h
theorem kv_X7_telling_X5_comes_b : KV RX7 wsX7_telling (rmz 7) 17 RX5 yX5_comes wsX5_comes (rmz 0) 1 := ⟨_, _, _, _, gX7_telling_X5_comes, rfl, by decide +kernel, by decide +kernel⟩
theorem kv_X7_telling_X5_comes : KV RX7 wsX7_tellinge (rmz 7) 17 RX5 yX5_comes wsX5_comes (rmz 0) 1 := KV_ml kv_X7_telling_X5_comes_b
theorem fa_X7_telling_23_b : FA RX7 wsX7_telling 23 7 1 "NineMowers$Pressed" := by
  show _ ∧ _ ∧ _ ∧ _
  exact ⟨by decide +kernel, fun _ h => List.mem_cons_of_mem _ (List.mem_append_left _ (List.mem_append_left _ (List.mem_append_left _ (List.mem_append_right _ h)))), List.mem_of_getElem? (i := 1) rfl, Or.inr (List.mem_of_getElem? (i := 2) rfl)⟩
theorem fa_X7_telling_23 : FA RX7 wsX7_tellinge 23 7 1 "NineMowers$Pressed" := FA_ml fa_X7_telling_23_b
theorem ks_X7_telling_X4_telling : KSI RX7 wsX7_tellinge (rmz 7) 29 ⟨RX3, "telling", "(ILNineMowers$Numbers;)I"⟩ RX4 yX4_telling wsX4_tellinge (rmz 6) 2 := ⟨_, _, _, _, gsi_X7_telling_29, rfl, by decide +kernel, by decide +kernel⟩
noncomputable def K_X7_telling (l : Launch) (V : Vx) (c0 : Nat) (a1 : Int32) (a2 : Nat) (σ : Sg) (Qk : Int32 → Sg → Prop) : Prop := Ka l V yX7_telling wsX7_tellinge (rmz 7) 0 0 [.ref c0, .int a1, .ref a2] σ (QI V Qk)
theorem e_X7_telling {l : Launch} {V : Vx} {c0 : Nat} {a1 : Int32} {a2 : Nat} {σ : Sg} {Qk : Int32 → Sg → Prop} (h : ∀ M : Mx, mL M = l → mV M = V → mN M = 3 → Cx M cX7_telling (some .int) RX7 wsX7_tellinge (rmz 7) 0 0 (QI (mV M) Qk) → PS M 0 [(0, .ref c0), (1, .int a1), (2, .ref a2)] [] σ (0, 0)) : K_X7_telling l V c0 a1 a2 σ Qk :=
  Ka_of (by decide +kernel) rfl rfl (Nat.le_of_ble_eq_true rfl) (fun M h1 h2 h3 C => h M h1 h2 h3 (by rw [h2]; exact C))
set_option maxRecDepth 100000 in
set_option maxHeartbeats 4000000 in
theorem s_X7_telling_0 {M : Mx} {Qk : Int32 → Sg → Prop} (C : Cx M cX7_telling (some .int) RX7 wsX7_tellinge (rmz 7) 0 0 (QI (mV M) Qk)) (hN : mN M = 3) {c0 : Nat} {a1 : Int32} {a2 : Nat} {ci0 : Nat} (sc0 : ci0 = 7) (hc0 : kd c0 = (10 + ci0, 0)) (lc0 : c0 ∈ ids (mV M)) (ha2 : isN a2) {σ : Sg} (h : K_X5_comes (mL M) (mV M) a2 (60 : Int32) σ (fun σ1 => K_X4_telling (mL M) (mV M) c0 (a1 - (gi σ1 c0 1)) a2 σ1 (fun r4 σ3 => Qk r4 σ3))) : PS M 0 [(0, .ref c0), (1, .int a1), (2, .ref a2)] [] σ (0, 0) := by
  refine P_aload_n C dX7_telling_0 2 rfl ?_
  refine P_bipush C dX7_telling_1 (v := (60 : Int32)) rfl ?_
  refine P_cv (R_v (ci := 5) C kv_X7_telling_X5_comes (As := [.int (60 : Int32)]) rfl (kdN_0 ha2) rfl (fxl (fxN_0 ha2)) (Nat.le_of_ble_eq_true rfl) dX7_telling_3 ⟨Nat.le_refl _, Nat.le_refl _⟩ h) (fun σ1 h => ?_)
  refine P_aload_n C dX7_telling_6 0 rfl ?_
  refine P_iload_n C dX7_telling_7 1 rfl ?_
  refine P_aload_n C dX7_telling_8 0 rfl ?_
  refine P_getM C fa_X7_telling_23 (by decide +kernel) (by subst sc0; decide) hc0 lc0 dX7_telling_9 ?_
  refine P_isub C dX7_telling_12 ?_
  refine P_aload_n C dX7_telling_13 2 rfl ?_
  have key2 : ∀ Qz, K_X4_telling (mL M) (mV M) c0 (a1 - (gi σ1 c0 1)) a2 σ1 Qz → RS M 14 [(0, .ref c0), (1, .int a1), (2, .ref a2)] [.ref a2, .int (a1 - (gi σ1 c0 1)), .ref c0] [] σ1 (0, 0) 0 0 (QI (mV M) Qz (([.ref c0, .int (a1 - (gi σ1 c0 1)), .ref a2] : List Value).map (cv (mV M))).toArray) := by
    intro Qz h8
    subst sc0
    · exact R_si (ci := 7) C ks_X7_telling_X4_telling (As := [.int (a1 - (gi σ1 c0 1)), .ref a2]) rfl hc0 rfl lc0 (Nat.le_of_ble_eq_true rfl) dX7_telling_14 ⟨Nat.le_refl _, Nat.le_refl _⟩ h8
  refine P_ci (key2 _ h) (fun r4 σ3 h => ?_)
  exact P_iret C dX7_telling_17 h
noncomputable def KD_telling (l : Launch) (V : Vx) (ci : Nat) (c0 : Nat) (a1 : Int32) (a2 : Nat) (σ : Sg) (Qk : Int32 → Sg → Prop) : Prop := (ci = 0 → K_X0_telling l V c0 a1 a2 σ Qk) ∧ (ci = 3 → K_X4_telling l V c0 a1 a2 σ Qk) ∧ (ci = 4 → K_X4_telling l V c0 a1 a2 σ Qk) ∧ (ci = 6 → K_X4_telling l V c0 a1 a2 σ Qk) ∧ (ci = 7 → K_X7_telling l V c0 a1 a2 σ Qk) ∧ (ci = 8 → K_X4_telling l V c0 a1 a2 σ Qk) ∧ (ci = 10 → K_X0_telling l V c0 a1 a2 σ Qk)
theorem fa_X11_act_56_b : FA RX11 wsX11_act 56 11 9 "NineMowers" := by
  show _ ∧ _ ∧ _ ∧ _
  exact ⟨by decide +kernel, fun _ h => List.mem_cons_of_mem _ (List.mem_append_left _ (List.mem_append_left _ (List.mem_append_left _ (List.mem_append_left _ (List.mem_append_left _ (List.mem_append_left _ (List.mem_append_left _ (List.mem_append_left _ (List.mem_append_left _ (List.mem_append_right _ h)))))))))), List.mem_of_getElem? (i := 1) rfl, Or.inl rfl⟩
theorem fa_X11_act_56 : FA RX11 wsX11_acte 56 11 9 "NineMowers" := FA_ml fa_X11_act_56_b
theorem pa_X11_act_256_b : PA RX11 wsX11_act 256 5 1 "NineMowers$Numbers" .int := by
  show _ ∧ _ ∧ _ ∧ _ ∧ _ ∧ _ ∧ _ ∧ _
  exact ⟨by decide +kernel, fun _ h => List.mem_cons_of_mem _ (List.mem_append_left _ (List.mem_append_left _ (List.mem_append_left _ (List.mem_append_left _ (List.mem_append_left _ (List.mem_append_left _ (List.mem_append_left _ (List.mem_append_left _ (List.mem_append_right _ h))))))))), List.mem_of_getElem? (i := 2) rfl, rfl, rfl, by decide +kernel, ⟨tyX5, tyX5_ok⟩, nmX5⟩
theorem pa_X11_act_256 : PA RX11 wsX11_acte 256 5 1 "NineMowers$Numbers" .int := PA_ml pa_X11_act_256_b
theorem kv_X11_act_X11_isMower_b : KV RX11 wsX11_act (rmz 8) 110 RX11 yX11_isMower wsX11_isMower (rmz 0) 1 := ⟨_, _, _, _, gX11_act_X11_isMower, rfl, by decide +kernel, by decide +kernel⟩
theorem kv_X11_act_X11_isMower : KV RX11 wsX11_acte (rmz 8) 110 RX11 yX11_isMower wsX11_isMower (rmz 0) 1 := KV_ml kv_X11_act_X11_isMower_b
theorem fa_X11_act_12_b : FA RX11 wsX11_act 12 11 0 "NineMowers" := by
  show _ ∧ _ ∧ _ ∧ _
  exact ⟨by decide +kernel, fun _ h => List.mem_cons_of_mem _ (List.mem_append_left _ (List.mem_append_left _ (List.mem_append_left _ (List.mem_append_left _ (List.mem_append_left _ (List.mem_append_left _ (List.mem_append_left _ (List.mem_append_left _ (List.mem_append_left _ (List.mem_append_right _ h)))))))))), List.mem_of_getElem? (i := 3) rfl, Or.inl rfl⟩
theorem fa_X11_act_12 : FA RX11 wsX11_acte 12 11 0 "NineMowers" := FA_ml fa_X11_act_12_b
theorem fa_X11_act_114_b : FA RX11 wsX11_act 114 1 0 "NineMowers$Course" := by
  show _ ∧ _ ∧ _ ∧ _
  exact ⟨by decide +kernel, fun _ h => List.mem_cons_of_mem _ (List.mem_append_left _ (List.mem_append_left _ (List.mem_append_left _ (List.mem_append_left _ (List.mem_append_left _ (List.mem_append_left _ (List.mem_append_left _ (List.mem_append_right _ h)))))))), List.mem_of_getElem? (i := 4) rfl, Or.inl rfl⟩
theorem fa_X11_act_114 : FA RX11 wsX11_acte 114 1 0 "NineMowers$Course" := FA_ml fa_X11_act_114_b
theorem ku_X11_act_X4_mowing_304_0_b : KU RX11 wsX11_act (rmz 8) 304 RX0 yX4_mowing wsX4_mowing (rmz 1) 2 := ⟨_, _, _, _, _, _, Or.inl ⟨gX11_act_X4_mowing_u304X0, rfl⟩, rfl, by decide +kernel, by decide +kernel⟩
theorem ku_X11_act_X4_mowing_304_0 : KU RX11 wsX11_acte (rmz 8) 304 RX0 yX4_mowing wsX4_mowinge (rmz 1) 2 := KU_mb ku_X11_act_X4_mowing_304_0_b
theorem ku_X11_act_X3_mowing_304_3_b : KU RX11 wsX11_act (rmz 8) 304 RX3 yX3_mowing wsX3_mowing (rmz 2) 2 := ⟨_, _, _, _, _, _, Or.inr ⟨gX11_act_X3_mowing_u304X3, _, _, _, List.mem_of_getElem? (i := 16) rfl⟩, rfl, by decide +kernel, by decide +kernel⟩
theorem ku_X11_act_X3_mowing_304_3 : KU RX11 wsX11_acte (rmz 8) 304 RX3 yX3_mowing wsX3_mowinge (rmz 2) 2 := KU_mb ku_X11_act_X3_mowing_304_3_b
theorem kv_X11_act_X4_mowing_304_b : KV RX11 wsX11_act (rmz 8) 304 RX4 yX4_mowing wsX4_mowing (rmz 1) 2 := ⟨_, _, _, _, gX11_act_X4_mowing, rfl, by decide +kernel, by decide +kernel⟩
theorem kv_X11_act_X4_mowing_304 : KV RX11 wsX11_acte (rmz 8) 304 RX4 yX4_mowing wsX4_mowinge (rmz 1) 2 := KV_mb kv_X11_act_X4_mowing_304_b
theorem ku_X11_act_X6_mowing_304_6_b : KU RX11 wsX11_act (rmz 8) 304 RX6 yX6_mowing wsX6_mowing (rmz 2) 2 := ⟨_, _, _, _, _, _, Or.inr ⟨gX11_act_X6_mowing_u304X6, _, _, _, List.mem_of_getElem? (i := 16) rfl⟩, rfl, by decide +kernel, by decide +kernel⟩
theorem ku_X11_act_X6_mowing_304_6 : KU RX11 wsX11_acte (rmz 8) 304 RX6 yX6_mowing wsX6_mowinge (rmz 2) 2 := KU_mb ku_X11_act_X6_mowing_304_6_b
theorem ku_X11_act_X3_mowing_304_7_b : KU RX11 wsX11_act (rmz 8) 304 RX7 yX3_mowing wsX3_mowing (rmz 2) 2 := ⟨_, _, _, _, _, _, Or.inr ⟨gX11_act_X3_mowing_u304X7, _, _, _, List.mem_of_getElem? (i := 16) rfl⟩, rfl, by decide +kernel, by decide +kernel⟩
theorem ku_X11_act_X3_mowing_304_7 : KU RX11 wsX11_acte (rmz 8) 304 RX7 yX3_mowing wsX3_mowinge (rmz 2) 2 := KU_mb ku_X11_act_X3_mowing_304_7_b
theorem ku_X11_act_X4_mowing_304_8_b : KU RX11 wsX11_act (rmz 8) 304 RX8 yX4_mowing wsX4_mowing (rmz 1) 2 := ⟨_, _, _, _, _, _, Or.inl ⟨gX11_act_X4_mowing_u304X8, rfl⟩, rfl, by decide +kernel, by decide +kernel⟩
theorem ku_X11_act_X4_mowing_304_8 : KU RX11 wsX11_acte (rmz 8) 304 RX8 yX4_mowing wsX4_mowinge (rmz 1) 2 := KU_mb ku_X11_act_X4_mowing_304_8_b
theorem ku_X11_act_X10_mowing_304_10_b : KU RX11 wsX11_act (rmz 8) 304 RX10 yX10_mowing wsX10_mowing (rmz 2) 2 := ⟨_, _, _, _, _, _, Or.inr ⟨gX11_act_X10_mowing_u304X10, _, _, _, List.mem_of_getElem? (i := 16) rfl⟩, rfl, by decide +kernel, by decide +kernel⟩
theorem ku_X11_act_X10_mowing_304_10 : KU RX11 wsX11_acte (rmz 8) 304 RX10 yX10_mowing wsX10_mowinge (rmz 2) 2 := KU_mb ku_X11_act_X10_mowing_304_10_b
theorem ku_X11_act_X4_whetting_308_0_b : KU RX11 wsX11_act (rmz 8) 308 RX0 yX4_whetting wsX4_whetting (rmz 3) 2 := ⟨_, _, _, _, _, _, Or.inl ⟨gX11_act_X4_whetting_u308X0, rfl⟩, rfl, by decide +kernel, by decide +kernel⟩
theorem ku_X11_act_X4_whetting_308_0 : KU RX11 wsX11_acte (rmz 8) 308 RX0 yX4_whetting wsX4_whettinge (rmz 3) 2 := KU_mb ku_X11_act_X4_whetting_308_0_b
theorem ku_X11_act_X4_whetting_308_3_b : KU RX11 wsX11_act (rmz 8) 308 RX3 yX4_whetting wsX4_whetting (rmz 3) 2 := ⟨_, _, _, _, _, _, Or.inl ⟨gX11_act_X4_whetting_u308X3, rfl⟩, rfl, by decide +kernel, by decide +kernel⟩
theorem ku_X11_act_X4_whetting_308_3 : KU RX11 wsX11_acte (rmz 8) 308 RX3 yX4_whetting wsX4_whettinge (rmz 3) 2 := KU_mb ku_X11_act_X4_whetting_308_3_b
theorem kv_X11_act_X4_whetting_308_b : KV RX11 wsX11_act (rmz 8) 308 RX4 yX4_whetting wsX4_whetting (rmz 3) 2 := ⟨_, _, _, _, gX11_act_X4_whetting, rfl, by decide +kernel, by decide +kernel⟩
theorem kv_X11_act_X4_whetting_308 : KV RX11 wsX11_acte (rmz 8) 308 RX4 yX4_whetting wsX4_whettinge (rmz 3) 2 := KV_mb kv_X11_act_X4_whetting_308_b
theorem ku_X11_act_X6_whetting_308_6_b : KU RX11 wsX11_act (rmz 8) 308 RX6 yX6_whetting wsX6_whetting (rmz 5) 2 := ⟨_, _, _, _, _, _, Or.inr ⟨gX11_act_X6_whetting_u308X6, _, _, _, List.mem_of_getElem? (i := 53) rfl⟩, rfl, by decide +kernel, by decide +kernel⟩
theorem ku_X11_act_X6_whetting_308_6 : KU RX11 wsX11_acte (rmz 8) 308 RX6 yX6_whetting wsX6_whettinge (rmz 5) 2 := KU_mb ku_X11_act_X6_whetting_308_6_b
theorem ku_X11_act_X4_whetting_308_7_b : KU RX11 wsX11_act (rmz 8) 308 RX7 yX4_whetting wsX4_whetting (rmz 3) 2 := ⟨_, _, _, _, _, _, Or.inl ⟨gX11_act_X4_whetting_u308X7, rfl⟩, rfl, by decide +kernel, by decide +kernel⟩
theorem ku_X11_act_X4_whetting_308_7 : KU RX11 wsX11_acte (rmz 8) 308 RX7 yX4_whetting wsX4_whettinge (rmz 3) 2 := KU_mb ku_X11_act_X4_whetting_308_7_b
theorem ku_X11_act_X8_whetting_308_8_b : KU RX11 wsX11_act (rmz 8) 308 RX8 yX8_whetting wsX8_whetting (rmz 4) 2 := ⟨_, _, _, _, _, _, Or.inr ⟨gX11_act_X8_whetting_u308X8, _, _, _, List.mem_of_getElem? (i := 53) rfl⟩, rfl, by decide +kernel, by decide +kernel⟩
theorem ku_X11_act_X8_whetting_308_8 : KU RX11 wsX11_acte (rmz 8) 308 RX8 yX8_whetting wsX8_whettinge (rmz 4) 2 := KU_mb ku_X11_act_X8_whetting_308_8_b
theorem ku_X11_act_X10_whetting_308_10_b : KU RX11 wsX11_act (rmz 8) 308 RX10 yX10_whetting wsX10_whetting (rmz 4) 2 := ⟨_, _, _, _, _, _, Or.inr ⟨gX11_act_X10_whetting_u308X10, _, _, _, List.mem_of_getElem? (i := 53) rfl⟩, rfl, by decide +kernel, by decide +kernel⟩
theorem ku_X11_act_X10_whetting_308_10 : KU RX11 wsX11_acte (rmz 8) 308 RX10 yX10_whetting wsX10_whettinge (rmz 4) 2 := KU_mb ku_X11_act_X10_whetting_308_10_b
theorem ku_X11_act_X0_telling_311_0_b : KU RX11 wsX11_act (rmz 8) 311 RX0 yX0_telling wsX0_telling (rmz 7) 2 := ⟨_, _, _, _, _, _, Or.inr ⟨gX11_act_X0_telling_u311X0, _, _, _, List.mem_of_getElem? (i := 89) rfl⟩, rfl, by decide +kernel, by decide +kernel⟩
theorem ku_X11_act_X0_telling_311_0 : KU RX11 wsX11_acte (rmz 8) 311 RX0 yX0_telling wsX0_tellinge (rmz 7) 2 := KU_mb ku_X11_act_X0_telling_311_0_b
theorem ku_X11_act_X4_telling_311_3_b : KU RX11 wsX11_act (rmz 8) 311 RX3 yX4_telling wsX4_telling (rmz 6) 2 := ⟨_, _, _, _, _, _, Or.inl ⟨gX11_act_X4_telling_u311X3, rfl⟩, rfl, by decide +kernel, by decide +kernel⟩
theorem ku_X11_act_X4_telling_311_3 : KU RX11 wsX11_acte (rmz 8) 311 RX3 yX4_telling wsX4_tellinge (rmz 6) 2 := KU_mb ku_X11_act_X4_telling_311_3_b
theorem kv_X11_act_X4_telling_311_b : KV RX11 wsX11_act (rmz 8) 311 RX4 yX4_telling wsX4_telling (rmz 6) 2 := ⟨_, _, _, _, gX11_act_X4_telling, rfl, by decide +kernel, by decide +kernel⟩
theorem kv_X11_act_X4_telling_311 : KV RX11 wsX11_acte (rmz 8) 311 RX4 yX4_telling wsX4_tellinge (rmz 6) 2 := KV_mb kv_X11_act_X4_telling_311_b
theorem ku_X11_act_X4_telling_311_6_b : KU RX11 wsX11_act (rmz 8) 311 RX6 yX4_telling wsX4_telling (rmz 6) 2 := ⟨_, _, _, _, _, _, Or.inl ⟨gX11_act_X4_telling_u311X6, rfl⟩, rfl, by decide +kernel, by decide +kernel⟩
theorem ku_X11_act_X4_telling_311_6 : KU RX11 wsX11_acte (rmz 8) 311 RX6 yX4_telling wsX4_tellinge (rmz 6) 2 := KU_mb ku_X11_act_X4_telling_311_6_b
theorem ku_X11_act_X7_telling_311_7_b : KU RX11 wsX11_act (rmz 8) 311 RX7 yX7_telling wsX7_telling (rmz 7) 2 := ⟨_, _, _, _, _, _, Or.inr ⟨gX11_act_X7_telling_u311X7, _, _, _, List.mem_of_getElem? (i := 89) rfl⟩, rfl, by decide +kernel, by decide +kernel⟩
theorem ku_X11_act_X7_telling_311_7 : KU RX11 wsX11_acte (rmz 8) 311 RX7 yX7_telling wsX7_tellinge (rmz 7) 2 := KU_mb ku_X11_act_X7_telling_311_7_b
theorem ku_X11_act_X4_telling_311_8_b : KU RX11 wsX11_act (rmz 8) 311 RX8 yX4_telling wsX4_telling (rmz 6) 2 := ⟨_, _, _, _, _, _, Or.inl ⟨gX11_act_X4_telling_u311X8, rfl⟩, rfl, by decide +kernel, by decide +kernel⟩
theorem ku_X11_act_X4_telling_311_8 : KU RX11 wsX11_acte (rmz 8) 311 RX8 yX4_telling wsX4_tellinge (rmz 6) 2 := KU_mb ku_X11_act_X4_telling_311_8_b
theorem ku_X11_act_X0_telling_311_10_b : KU RX11 wsX11_act (rmz 8) 311 RX10 yX0_telling wsX0_telling (rmz 7) 2 := ⟨_, _, _, _, _, _, Or.inr ⟨gX11_act_X0_telling_u311X10, _, _, _, List.mem_of_getElem? (i := 89) rfl⟩, rfl, by decide +kernel, by decide +kernel⟩
theorem ku_X11_act_X0_telling_311_10 : KU RX11 wsX11_acte (rmz 8) 311 RX10 yX0_telling wsX0_tellinge (rmz 7) 2 := KU_mb ku_X11_act_X0_telling_311_10_b
noncomputable def K_X11_act (l : Launch) (V : Vx) (a1 : Int32) (a2 : Int32) (a3 : Int32) (σ : Sg) (Qk : Int32 → Sg → Prop) : Prop := Ka l V yX11_act wsX11_acte (rmz 8) 0 0 [.ref 0, .int a1, .int a2, .int a3] σ (QI V Qk)
theorem e_X11_act {l : Launch} {V : Vx} {a1 : Int32} {a2 : Int32} {a3 : Int32} {σ : Sg} {Qk : Int32 → Sg → Prop} (h : ∀ M : Mx, mL M = l → mV M = V → mN M = 5 → Cx M cX11_act (some .int) RX11 wsX11_acte (rmz 8) 0 0 (QI (mV M) Qk) → PS M 0 [(0, .ref 0), (1, .int a1), (2, .int a2), (3, .int a3)] [] σ (0, 0)) : K_X11_act l V a1 a2 a3 σ Qk :=
  Ka_of (by decide +kernel) rfl rfl (Nat.le_of_ble_eq_true rfl) (fun M h1 h2 h3 C => h M h1 h2 h3 (by rw [h2]; exact C))
set_option maxRecDepth 100000 in
set_option maxHeartbeats 4000000 in
theorem s_X11_act_0 {M : Mx} {Qk : Int32 → Sg → Prop} (C : Cx M cX11_act (some .int) RX11 wsX11_acte (rmz 8) 0 0 (QI (mV M) Qk)) (hN : mN M = 5) {a1 : Int32} {a2 : Int32} {a3 : Int32} {σ : Sg} (h : (∀ σ1 : Sg, σ1 = si σ 64 1 (0 : Int32) → K_X11_isMower (mL M) (mV M) a1 σ1 (fun r3 σ2 => ((¬ r3 = 0 → (vp_in a1 6 ∧ (∃ (μ6 ci6 : Nat), gr σ2 2 a1.toNatClampNeg = some μ6 ∧ isMc ci6 ∧ kd μ6 = (10 + ci6, 0) ∧ μ6 ∈ ids (mV M) ∧ ((a2.toInt < 0 ∨ 2 < a2.toInt → Qk (0 : Int32) σ2) ∧ (a2.toInt = 0 → KD_mowing (mL M) (mV M) ci6 μ6 a3 64 σ2 (fun r9 σ8 => Qk r9 σ8)) ∧ (a2.toInt = 1 → KD_whetting (mL M) (mV M) ci6 μ6 a3 64 σ2 (fun r11 σ10 => Qk r11 σ10)) ∧ (a2.toInt = 2 → KD_telling (mL M) (mV M) ci6 μ6 a3 64 σ2 (fun r13 σ12 => Qk r13 σ12)))))) ∧ (r3 = 0 → Qk (0 : Int32) σ2))))) : PS M 0 [(0, .ref 0), (1, .int a1), (2, .int a2), (3, .int a3)] [] σ (0, 0) := by
  refine P_aload_n C dX11_act_0 0 rfl ?_
  refine P_getS C (e := 64) fa_X11_act_56 kd_0 (d := 64) rfl (fxl fx_0) rfl dX11_act_1 ?_
  refine P_iconst C dX11_act_4 (v := (0 : Int32)) rfl ?_
  refine P_putI C pa_X11_act_256 kd_64 rfl (fxl fx_64) dX11_act_5 ?_
  refine P_nm (fun σ1 eσ1 => ?_)
  have h := h σ1 eσ1
  refine P_aload_n C dX11_act_8 0 rfl ?_
  refine P_iload_n C dX11_act_9 1 rfl ?_
  refine P_ci (R_v (ci := 11) C kv_X11_act_X11_isMower (As := [.int a1]) rfl kd_0 rfl (fxl fx_0) (Nat.le_of_ble_eq_true rfl) dX11_act_10 ⟨Nat.le_refl _, Nat.le_refl _⟩ h) (fun r3 σ2 h => ?_)
  refine P_if_ne C dX11_act_13 (tgt := 18) (by decide +kernel) (fun q4 => ?_) (fun q4 => ?_)
  · have h := h.1 q4
    refine P_aload_n C dX11_act_18 0 rfl ?_
    refine P_getS C (e := 1) fa_X11_act_12 kd_0 (d := 1) rfl (fxl fx_0) rfl dX11_act_19 ?_
    refine P_getS C (e := 2) fa_X11_act_114 kd_1 (d := 1) rfl (fxl fx_1) rfl dX11_act_22 ?_
    refine P_iload_n C dX11_act_25 1 rfl ?_
    obtain ⟨hv5, μ6, ci6, hrμ6, sμ6, hμ6, lμ6, h⟩ := h
    refine P_aldD C kd_2 (Or.inl rfl) (fxl fx_2) hv5 hrμ6 dX11_act_26 ?_
    refine P_astore C dX11_act_27 (by rw [hN]; decide) rfl ?_
    refine P_iload_n C dX11_act_29 3 rfl ?_
    refine P_tsw C dX11_act_30 89 (by decide +kernel) (fun q7 => ?_) (by decide +kernel) (fun i off ho q7 => ?_)
    · have h := h.1 q7
      refine P_iconst C dX11_act_89 (v := (0 : Int32)) rfl ?_
      exact P_iret C dX11_act_90 h
    · rcases i with _ | _ | _ | i
      · obtain rfl : (26 : Int) = off := Option.some.inj ho
        refine ⟨?_, by decide +kernel⟩
        show PS M 56 _ _ _ _
        have h := h.2.1 (by have q := q7; simp at q; omega)
        refine P_aload C dX11_act_56 0 rfl ?_
        refine P_iload_n C dX11_act_58 4 rfl ?_
        refine P_aload_n C dX11_act_59 1 rfl ?_
        refine P_getS C (e := 64) fa_X11_act_56 kd_0 (d := 64) rfl (fxl fx_0) rfl dX11_act_60 ?_
        have key : ∀ Qz, KD_mowing (mL M) (mV M) ci6 μ6 a3 64 σ2 Qz → RS M 63 [(4, .ref μ6), (0, .ref 0), (1, .int a1), (2, .int a2), (3, .int a3)] [.ref 64, .int a3, .ref μ6] [] σ2 (0, 0) 0 0 (QI (mV M) Qz (([.ref μ6, .int a3, .ref 64] : List Value).map (cv (mV M))).toArray) := by
          intro Qz h
          rcases sμ6 with rfl | rfl | rfl | rfl | rfl | rfl | rfl
          · exact R_u (ci := 0) C ku_X11_act_X4_mowing_304_0 (As := [.int a3, .ref 64]) rfl hμ6 rfl lμ6 (Nat.le_of_ble_eq_true rfl) dX11_act_63 ⟨Nat.le_refl _, Nat.le_refl _⟩ (h.1 rfl)
          · exact R_u (ci := 3) C ku_X11_act_X3_mowing_304_3 (As := [.int a3, .ref 64]) rfl hμ6 rfl lμ6 (Nat.le_of_ble_eq_true rfl) dX11_act_63 ⟨Nat.le_refl _, Nat.le_refl _⟩ (h.2.1 rfl)
          · exact R_v (ci := 4) C kv_X11_act_X4_mowing_304 (As := [.int a3, .ref 64]) rfl hμ6 rfl lμ6 (Nat.le_of_ble_eq_true rfl) dX11_act_63 ⟨Nat.le_refl _, Nat.le_refl _⟩ (h.2.2.1 rfl)
          · exact R_u (ci := 6) C ku_X11_act_X6_mowing_304_6 (As := [.int a3, .ref 64]) rfl hμ6 rfl lμ6 (Nat.le_of_ble_eq_true rfl) dX11_act_63 ⟨Nat.le_refl _, Nat.le_refl _⟩ (h.2.2.2.1 rfl)
          · exact R_u (ci := 7) C ku_X11_act_X3_mowing_304_7 (As := [.int a3, .ref 64]) rfl hμ6 rfl lμ6 (Nat.le_of_ble_eq_true rfl) dX11_act_63 ⟨Nat.le_refl _, Nat.le_refl _⟩ (h.2.2.2.2.1 rfl)
          · exact R_u (ci := 8) C ku_X11_act_X4_mowing_304_8 (As := [.int a3, .ref 64]) rfl hμ6 rfl lμ6 (Nat.le_of_ble_eq_true rfl) dX11_act_63 ⟨Nat.le_refl _, Nat.le_refl _⟩ (h.2.2.2.2.2.1 rfl)
          · exact R_u (ci := 10) C ku_X11_act_X10_mowing_304_10 (As := [.int a3, .ref 64]) rfl hμ6 rfl lμ6 (Nat.le_of_ble_eq_true rfl) dX11_act_63 ⟨Nat.le_refl _, Nat.le_refl _⟩ (h.2.2.2.2.2.2 rfl)
        refine P_ci (key _ h) (fun r9 σ8 h => ?_)
        exact P_iret C dX11_act_66 h
      · obtain rfl : (37 : Int) = off := Option.some.inj ho
        refine ⟨?_, by decide +kernel⟩
        show PS M 67 _ _ _ _
        have h := h.2.2.1 (by have q := q7; simp at q; omega)
        refine P_aload C dX11_act_67 0 rfl ?_
        refine P_iload_n C dX11_act_69 4 rfl ?_
        refine P_aload_n C dX11_act_70 1 rfl ?_
        refine P_getS C (e := 64) fa_X11_act_56 kd_0 (d := 64) rfl (fxl fx_0) rfl dX11_act_71 ?_
        have key : ∀ Qz, KD_whetting (mL M) (mV M) ci6 μ6 a3 64 σ2 Qz → RS M 74 [(4, .ref μ6), (0, .ref 0), (1, .int a1), (2, .int a2), (3, .int a3)] [.ref 64, .int a3, .ref μ6] [] σ2 (0, 0) 0 0 (QI (mV M) Qz (([.ref μ6, .int a3, .ref 64] : List Value).map (cv (mV M))).toArray) := by
          intro Qz h
          rcases sμ6 with rfl | rfl | rfl | rfl | rfl | rfl | rfl
          · exact R_u (ci := 0) C ku_X11_act_X4_whetting_308_0 (As := [.int a3, .ref 64]) rfl hμ6 rfl lμ6 (Nat.le_of_ble_eq_true rfl) dX11_act_74 ⟨Nat.le_refl _, Nat.le_refl _⟩ (h.1 rfl)
          · exact R_u (ci := 3) C ku_X11_act_X4_whetting_308_3 (As := [.int a3, .ref 64]) rfl hμ6 rfl lμ6 (Nat.le_of_ble_eq_true rfl) dX11_act_74 ⟨Nat.le_refl _, Nat.le_refl _⟩ (h.2.1 rfl)
          · exact R_v (ci := 4) C kv_X11_act_X4_whetting_308 (As := [.int a3, .ref 64]) rfl hμ6 rfl lμ6 (Nat.le_of_ble_eq_true rfl) dX11_act_74 ⟨Nat.le_refl _, Nat.le_refl _⟩ (h.2.2.1 rfl)
          · exact R_u (ci := 6) C ku_X11_act_X6_whetting_308_6 (As := [.int a3, .ref 64]) rfl hμ6 rfl lμ6 (Nat.le_of_ble_eq_true rfl) dX11_act_74 ⟨Nat.le_refl _, Nat.le_refl _⟩ (h.2.2.2.1 rfl)
          · exact R_u (ci := 7) C ku_X11_act_X4_whetting_308_7 (As := [.int a3, .ref 64]) rfl hμ6 rfl lμ6 (Nat.le_of_ble_eq_true rfl) dX11_act_74 ⟨Nat.le_refl _, Nat.le_refl _⟩ (h.2.2.2.2.1 rfl)
          · exact R_u (ci := 8) C ku_X11_act_X8_whetting_308_8 (As := [.int a3, .ref 64]) rfl hμ6 rfl lμ6 (Nat.le_of_ble_eq_true rfl) dX11_act_74 ⟨Nat.le_refl _, Nat.le_refl _⟩ (h.2.2.2.2.2.1 rfl)
          · exact R_u (ci := 10) C ku_X11_act_X10_whetting_308_10 (As := [.int a3, .ref 64]) rfl hμ6 rfl lμ6 (Nat.le_of_ble_eq_true rfl) dX11_act_74 ⟨Nat.le_refl _, Nat.le_refl _⟩ (h.2.2.2.2.2.2 rfl)
        refine P_ci (key _ h) (fun r11 σ10 h => ?_)
        exact P_iret C dX11_act_77 h
      · obtain rfl : (48 : Int) = off := Option.some.inj ho
        refine ⟨?_, by decide +kernel⟩
        show PS M 78 _ _ _ _
        have h := h.2.2.2 (by have q := q7; simp at q; omega)
        refine P_aload C dX11_act_78 0 rfl ?_
        refine P_iload_n C dX11_act_80 4 rfl ?_
        refine P_aload_n C dX11_act_81 1 rfl ?_
        refine P_getS C (e := 64) fa_X11_act_56 kd_0 (d := 64) rfl (fxl fx_0) rfl dX11_act_82 ?_
        have key : ∀ Qz, KD_telling (mL M) (mV M) ci6 μ6 a3 64 σ2 Qz → RS M 85 [(4, .ref μ6), (0, .ref 0), (1, .int a1), (2, .int a2), (3, .int a3)] [.ref 64, .int a3, .ref μ6] [] σ2 (0, 0) 0 0 (QI (mV M) Qz (([.ref μ6, .int a3, .ref 64] : List Value).map (cv (mV M))).toArray) := by
          intro Qz h
          rcases sμ6 with rfl | rfl | rfl | rfl | rfl | rfl | rfl
          · exact R_u (ci := 0) C ku_X11_act_X0_telling_311_0 (As := [.int a3, .ref 64]) rfl hμ6 rfl lμ6 (Nat.le_of_ble_eq_true rfl) dX11_act_85 ⟨Nat.le_refl _, Nat.le_refl _⟩ (h.1 rfl)
          · exact R_u (ci := 3) C ku_X11_act_X4_telling_311_3 (As := [.int a3, .ref 64]) rfl hμ6 rfl lμ6 (Nat.le_of_ble_eq_true rfl) dX11_act_85 ⟨Nat.le_refl _, Nat.le_refl _⟩ (h.2.1 rfl)
          · exact R_v (ci := 4) C kv_X11_act_X4_telling_311 (As := [.int a3, .ref 64]) rfl hμ6 rfl lμ6 (Nat.le_of_ble_eq_true rfl) dX11_act_85 ⟨Nat.le_refl _, Nat.le_refl _⟩ (h.2.2.1 rfl)
          · exact R_u (ci := 6) C ku_X11_act_X4_telling_311_6 (As := [.int a3, .ref 64]) rfl hμ6 rfl lμ6 (Nat.le_of_ble_eq_true rfl) dX11_act_85 ⟨Nat.le_refl _, Nat.le_refl _⟩ (h.2.2.2.1 rfl)
          · exact R_u (ci := 7) C ku_X11_act_X7_telling_311_7 (As := [.int a3, .ref 64]) rfl hμ6 rfl lμ6 (Nat.le_of_ble_eq_true rfl) dX11_act_85 ⟨Nat.le_refl _, Nat.le_refl _⟩ (h.2.2.2.2.1 rfl)
          · exact R_u (ci := 8) C ku_X11_act_X4_telling_311_8 (As := [.int a3, .ref 64]) rfl hμ6 rfl lμ6 (Nat.le_of_ble_eq_true rfl) dX11_act_85 ⟨Nat.le_refl _, Nat.le_refl _⟩ (h.2.2.2.2.2.1 rfl)
          · exact R_u (ci := 10) C ku_X11_act_X0_telling_311_10 (As := [.int a3, .ref 64]) rfl hμ6 rfl lμ6 (Nat.le_of_ble_eq_true rfl) dX11_act_85 ⟨Nat.le_refl _, Nat.le_refl _⟩ (h.2.2.2.2.2.2 rfl)
        refine P_ci (key _ h) (fun r13 σ12 h => ?_)
        exact P_iret C dX11_act_88 h
      · exact absurd (Array.getElem?_eq_some_iff.mp ho).1 (Nat.not_lt.mpr (by show 3 ≤ _; omega))
  · have h := h.2 q4
    refine P_iconst C dX11_act_16 (v := (0 : Int32)) rfl ?_
    exact P_iret C dX11_act_17 h
