theorem fa_X11_seenIsSo_12 : FA RX11 wsX11_seenIsSo 12 11 0 "NineMowers" := by
  show _ ∧ _ ∧ _ ∧ _
  exact ⟨by decide +kernel, fun _ h => List.mem_cons_of_mem _ (List.mem_append_left _ (List.mem_append_left _ (List.mem_append_right _ h))), List.mem_of_getElem? (i := 1) rfl, Or.inl rfl⟩
theorem fa_X11_seenIsSo_253 : FA RX11 wsX11_seenIsSo 253 1 12 "NineMowers$Course" := by
  show _ ∧ _ ∧ _ ∧ _
  exact ⟨by decide +kernel, fun _ h => List.mem_cons_of_mem _ (List.mem_append_left _ (List.mem_append_right _ h)), List.mem_of_getElem? (i := 2) rfl, Or.inl rfl⟩
theorem fa_X11_seenIsSo_270 : FA RX11 wsX11_seenIsSo 270 5 0 "NineMowers$Numbers" := by
  show _ ∧ _ ∧ _ ∧ _
  exact ⟨by decide +kernel, fun _ h => List.mem_cons_of_mem _ (List.mem_append_right _ h), List.mem_of_getElem? (i := 3) rfl, Or.inl rfl⟩
theorem fa_X11_seenIsSo_256 : FA RX11 wsX11_seenIsSo 256 5 1 "NineMowers$Numbers" := by
  show _ ∧ _ ∧ _ ∧ _
  exact ⟨by decide +kernel, fun _ h => List.mem_cons_of_mem _ (List.mem_append_right _ h), List.mem_of_getElem? (i := 4) rfl, Or.inl rfl⟩
theorem fa_X11_seenIsSo_21 : FA RX11 wsX11_seenIsSo 21 11 2 "NineMowers" := by
  show _ ∧ _ ∧ _ ∧ _
  exact ⟨by decide +kernel, fun _ h => List.mem_cons_of_mem _ (List.mem_append_left _ (List.mem_append_left _ (List.mem_append_right _ h))), List.mem_of_getElem? (i := 5) rfl, Or.inl rfl⟩
theorem fa_X11_seenIsSo_124 : FA RX11 wsX11_seenIsSo 124 1 4 "NineMowers$Course" := by
  show _ ∧ _ ∧ _ ∧ _
  exact ⟨by decide +kernel, fun _ h => List.mem_cons_of_mem _ (List.mem_append_left _ (List.mem_append_right _ h)), List.mem_of_getElem? (i := 6) rfl, Or.inl rfl⟩
noncomputable def K_X11_seenIsSo (l : Launch) (V : Vx) (a1 : Int32) (σ : Sg) (Qk : Int32 → Sg → Prop) : Prop := Ka l V yX11_seenIsSo wsX11_seenIsSo (rmz 0) 0 0 [.ref 0, .int a1] σ (QI V Qk)
theorem e_X11_seenIsSo {l : Launch} {V : Vx} {a1 : Int32} {σ : Sg} {Qk : Int32 → Sg → Prop} (h : ∀ M : Mx, mL M = l → mV M = V → mN M = 4 → Cx M cX11_seenIsSo (some .boolean) RX11 wsX11_seenIsSo (rmz 0) 0 0 (QI (mV M) Qk) → PS M 0 [(0, .ref 0), (1, .int a1)] [] σ (0, 0)) : K_X11_seenIsSo l V a1 σ Qk :=
  Ka_of (by decide +kernel) rfl rfl (Nat.le_of_ble_eq_true rfl) (fun M h1 h2 h3 C => h M h1 h2 h3 (by rw [h2]; exact C))
set_option maxRecDepth 100000 in
set_option maxHeartbeats 4000000 in
theorem s_X11_seenIsSo_0 {M : Mx} {Qk : Int32 → Sg → Prop} (C : Cx M cX11_seenIsSo (some .boolean) RX11 wsX11_seenIsSo (rmz 0) 0 0 (QI (mV M) Qk)) (hN : mN M = 4) {a1 : Int32} {σ : Sg} (h : PS M 13 [(0, .ref 0), (1, .int a1), (2, .ref 10), (3, .int (0 : Int32))] [] σ (0, 0)) : PS M 0 [(0, .ref 0), (1, .int a1)] [] σ (0, 0) := by
  refine P_aload_n C dX11_seenIsSo_0 0 rfl ?_
  refine P_getS C (e := 1) fa_X11_seenIsSo_12 kd_0 (d := 1) rfl (fxl fx_0) rfl dX11_seenIsSo_1 ?_
  refine P_getS C (e := 9) fa_X11_seenIsSo_253 kd_1 (d := 8) rfl (fxl fx_1) rfl dX11_seenIsSo_4 ?_
  refine P_getS C (e := 10) fa_X11_seenIsSo_270 kd_9 (d := 1) rfl (fxl fx_9) rfl dX11_seenIsSo_7 ?_
  refine P_astore_n C dX11_seenIsSo_10 (by rw [hN]; decide) rfl ?_
  refine P_iconst C dX11_seenIsSo_11 (v := (0 : Int32)) rfl ?_
  refine P_istore_n C dX11_seenIsSo_12 (by rw [hN]; decide) rfl ?_
  exact P_sub [2, 3, 1, 0] rfl h
set_option maxRecDepth 100000 in
set_option maxHeartbeats 4000000 in
theorem s_X11_seenIsSo_13 {M : Mx} {Qk : Int32 → Sg → Prop} (C : Cx M cX11_seenIsSo (some .boolean) RX11 wsX11_seenIsSo (rmz 0) 0 0 (QI (mV M) Qk)) (hN : mN M = 4) {x1 : Int32} {x3 : Int32} {σ : Sg} (h : (((gi σ 9 1) ≤ (x3 + (2 : Int32)) → Qk (1 : Int32) σ) ∧ (¬ (gi σ 9 1) ≤ (x3 + (2 : Int32)) → (vp_in (x3 + (1 : Int32)) 18 ∧ ((¬ (gi σ 10 (x3 + (1 : Int32)).toNatClampNeg) = x1 → (∀ v4 : Int32, v4 = x3 + 3 → PS M 13 [(0, .ref 0), (1, .int x1), (2, .ref 10), (3, .int v4)] [] σ (0, 0))) ∧ ((gi σ 10 (x3 + (1 : Int32)).toNatClampNeg) = x1 → (vp_in x3 18 ∧ (vp_in (gi σ 10 x3.toNatClampNeg) 6 ∧ (vp_in (x3 + (2 : Int32)) 18 ∧ (((gi σ 36 (gi σ 10 x3.toNatClampNeg).toNatClampNeg) = (gi σ 10 (x3 + (2 : Int32)).toNatClampNeg) → (∀ v9 : Int32, v9 = x3 + 3 → PS M 13 [(0, .ref 0), (1, .int x1), (2, .ref 10), (3, .int v9)] [] σ (0, 0))) ∧ (¬ (gi σ 36 (gi σ 10 x3.toNatClampNeg).toNatClampNeg) = (gi σ 10 (x3 + (2 : Int32)).toNatClampNeg) → Qk (0 : Int32) σ))))))))))) : PS M 13 [(0, .ref 0), (1, .int x1), (2, .ref 10), (3, .int x3)] [] σ (0, 0) := by
  refine P_iload_n C dX11_seenIsSo_13 3 rfl ?_
  refine P_iconst C dX11_seenIsSo_14 (v := (2 : Int32)) rfl ?_
  refine P_iadd C dX11_seenIsSo_15 ?_
  refine P_aload_n C dX11_seenIsSo_16 0 rfl ?_
  refine P_getS C (e := 1) fa_X11_seenIsSo_12 kd_0 (d := 1) rfl (fxl fx_0) rfl dX11_seenIsSo_17 ?_
  refine P_getS C (e := 9) fa_X11_seenIsSo_253 kd_1 (d := 8) rfl (fxl fx_1) rfl dX11_seenIsSo_20 ?_
  refine P_getI C fa_X11_seenIsSo_256 kd_9 rfl (fxl fx_9) dX11_seenIsSo_23 ?_
  refine P_icmp_ge C dX11_seenIsSo_26 (tgt := 65) (by decide +kernel) (fun q1 => ?_) (fun q1 => ?_)
  · have h := h.1 q1
    refine P_iconst C dX11_seenIsSo_65 (v := (1 : Int32)) rfl ?_
    exact P_zret C (by decide +kernel) dX11_seenIsSo_66 h
  · have h := h.2 q1
    refine P_aload_n C dX11_seenIsSo_29 2 rfl ?_
    refine P_iload_n C dX11_seenIsSo_30 3 rfl ?_
    refine P_iconst C dX11_seenIsSo_31 (v := (1 : Int32)) rfl ?_
    refine P_iadd C dX11_seenIsSo_32 ?_
    obtain ⟨hv2, h⟩ := h
    refine P_iald C kd_10 (fxl fx_10) hv2 dX11_seenIsSo_33 ?_
    refine P_iload_n C dX11_seenIsSo_34 1 rfl ?_
    refine P_icmp_ne C dX11_seenIsSo_35 (tgt := 59) (by decide +kernel) (fun q3 => ?_) (fun q3 => ?_)
    · have h := h.1 q3
      obtain ⟨v4, ev4⟩ : ∃ v : Int32, v = x3 + 3 := ⟨_, rfl⟩
      have h := h v4 ev4
      refine P_iinc (v := v4) C dX11_seenIsSo_59 3 rfl (by rw [ev4]; rfl) (by rw [hN]; decide) rfl ?_
      refine P_goto C dX11_seenIsSo_62 (tgt := 13) (by decide +kernel) ?_
      exact P_sub [1, 2, 3, 0] rfl h
    · have h := h.2 q3
      refine P_aload_n C dX11_seenIsSo_38 0 rfl ?_
      refine P_getS C (e := 33) fa_X11_seenIsSo_21 kd_0 (d := 33) rfl (fxl fx_0) rfl dX11_seenIsSo_39 ?_
      refine P_getS C (e := 36) fa_X11_seenIsSo_124 kd_33 (d := 3) rfl (fxl fx_33) rfl dX11_seenIsSo_42 ?_
      refine P_aload_n C dX11_seenIsSo_45 2 rfl ?_
      refine P_iload_n C dX11_seenIsSo_46 3 rfl ?_
      obtain ⟨hv5, h⟩ := h
      refine P_iald C kd_10 (fxl fx_10) hv5 dX11_seenIsSo_47 ?_
      obtain ⟨hv6, h⟩ := h
      refine P_iald C kd_36 (fxl fx_36) hv6 dX11_seenIsSo_48 ?_
      refine P_aload_n C dX11_seenIsSo_49 2 rfl ?_
      refine P_iload_n C dX11_seenIsSo_50 3 rfl ?_
      refine P_iconst C dX11_seenIsSo_51 (v := (2 : Int32)) rfl ?_
      refine P_iadd C dX11_seenIsSo_52 ?_
      obtain ⟨hv7, h⟩ := h
      refine P_iald C kd_10 (fxl fx_10) hv7 dX11_seenIsSo_53 ?_
      refine P_icmp_eq C dX11_seenIsSo_54 (tgt := 59) (by decide +kernel) (fun q8 => ?_) (fun q8 => ?_)
      · have h := h.1 q8
        obtain ⟨v9, ev9⟩ : ∃ v : Int32, v = x3 + 3 := ⟨_, rfl⟩
        have h := h v9 ev9
        refine P_iinc (v := v9) C dX11_seenIsSo_59 3 rfl (by rw [ev9]; rfl) (by rw [hN]; decide) rfl ?_
        refine P_goto C dX11_seenIsSo_62 (tgt := 13) (by decide +kernel) ?_
        exact P_sub [1, 2, 3, 0] rfl h
      · have h := h.2 q8
        refine P_iconst C dX11_seenIsSo_57 (v := (0 : Int32)) rfl ?_
        exact P_zret C (by decide +kernel) dX11_seenIsSo_58 h
theorem kv_X11_set_X11_isMower : KV RX11 wsX11_set (rmz 1) 110 RX11 yX11_isMower wsX11_isMower (rmz 0) 1 := ⟨_, _, _, _, gX11_set_X11_isMower, rfl, by decide +kernel, by decide +kernel⟩
theorem fa_X11_set_12 : FA RX11 wsX11_set 12 11 0 "NineMowers" := by
  show _ ∧ _ ∧ _ ∧ _
  exact ⟨by decide +kernel, fun _ h => List.mem_cons_of_mem _ (List.mem_append_left _ (List.mem_append_right _ h)), List.mem_of_getElem? (i := 1) rfl, Or.inl rfl⟩
theorem kv_X11_set_X1_numbersOf : KV RX11 wsX11_set (rmz 1) 146 RX1 yX1_numbersOf wsX1_numbersOf (rmz 0) 1 := ⟨_, _, _, _, gX11_set_X1_numbersOf, rfl, by decide +kernel, by decide +kernel⟩
noncomputable def K_X11_set (l : Launch) (V : Vx) (a1 : Int32) (a2 : Int32) (a3 : Int32) (σ : Sg) (Qk : Int32 → Sg → Prop) : Prop := Ka l V yX11_set wsX11_set (rmz 1) 0 0 [.ref 0, .int a1, .int a2, .int a3] σ (QI V Qk)
theorem e_X11_set {l : Launch} {V : Vx} {a1 : Int32} {a2 : Int32} {a3 : Int32} {σ : Sg} {Qk : Int32 → Sg → Prop} (h : ∀ M : Mx, mL M = l → mV M = V → mN M = 7 → Cx M cX11_set (some .int) RX11 wsX11_set (rmz 1) 0 0 (QI (mV M) Qk) → PS M 0 [(0, .ref 0), (1, .int a1), (2, .int a2), (3, .int a3)] [] σ (0, 0)) : K_X11_set l V a1 a2 a3 σ Qk :=
  Ka_of (by decide +kernel) rfl rfl (Nat.le_of_ble_eq_true rfl) (fun M h1 h2 h3 C => h M h1 h2 h3 (by rw [h2]; exact C))
set_option maxRecDepth 100000 in
set_option maxHeartbeats 4000000 in
theorem s_X11_set_0 {M : Mx} {Qk : Int32 → Sg → Prop} (C : Cx M cX11_set (some .int) RX11 wsX11_set (rmz 1) 0 0 (QI (mV M) Qk)) (hN : mN M = 7) {a1 : Int32} {a2 : Int32} {a3 : Int32} {σ : Sg} (h : K_X11_isMower (mL M) (mV M) a1 σ (fun r2 σ1 => ((r2 = 0 → Qk (-1 : Int32) σ1) ∧ (¬ r2 = 0 → ((a2 < 0 → Qk (-1 : Int32) σ1) ∧ (¬ a2 < 0 → ((a2 ≤ (3 : Int32) → ((¬ a2 = 0 → ((¬ a2 = (1 : Int32) → PS M 41 [(0, .ref 0), (1, .int a1), (2, .int a2), (3, .int a3)] [.int (99 : Int32)] σ1 (0, 0)) ∧ (a2 = (1 : Int32) → PS M 41 [(0, .ref 0), (1, .int a1), (2, .int a2), (3, .int a3)] [.int (10 : Int32)] σ1 (0, 0)))) ∧ (a2 = 0 → PS M 41 [(0, .ref 0), (1, .int a1), (2, .int a2), (3, .int a3)] [.int (9999 : Int32)] σ1 (0, 0)))) ∧ (¬ a2 ≤ (3 : Int32) → Qk (-1 : Int32) σ1)))))))) : PS M 0 [(0, .ref 0), (1, .int a1), (2, .int a2), (3, .int a3)] [] σ (0, 0) := by
  refine P_aload_n C dX11_set_0 0 rfl ?_
  refine P_iload_n C dX11_set_1 1 rfl ?_
  refine P_ci (R_v (ci := 11) C kv_X11_set_X11_isMower (As := [.int a1]) rfl kd_0 rfl (fxl fx_0) (Nat.le_of_ble_eq_true rfl) dX11_set_2 ⟨Nat.le_refl _, Nat.le_refl _⟩ h) (fun r2 σ1 h => ?_)
  refine P_if_eq C dX11_set_5 (tgt := 17) (by decide +kernel) (fun q3 => ?_) (fun q3 => ?_)
  · have h := h.1 q3
    refine P_iconst C dX11_set_17 (v := (-1 : Int32)) rfl ?_
    exact P_iret C dX11_set_18 h
  · have h := h.2 q3
    refine P_iload_n C dX11_set_8 2 rfl ?_
    refine P_if_lt C dX11_set_9 (tgt := 17) (by decide +kernel) (fun q4 => ?_) (fun q4 => ?_)
    · have h := h.1 q4
      refine P_iconst C dX11_set_17 (v := (-1 : Int32)) rfl ?_
      exact P_iret C dX11_set_18 h
    · have h := h.2 q4
      refine P_iload_n C dX11_set_12 2 rfl ?_
      refine P_iconst C dX11_set_13 (v := (3 : Int32)) rfl ?_
      refine P_icmp_le C dX11_set_14 (tgt := 19) (by decide +kernel) (fun q5 => ?_) (fun q5 => ?_)
      · have h := h.1 q5
        refine P_iload_n C dX11_set_19 2 rfl ?_
        refine P_if_ne C dX11_set_20 (tgt := 29) (by decide +kernel) (fun q6 => ?_) (fun q6 => ?_)
        · have h := h.1 q6
          refine P_iload_n C dX11_set_29 2 rfl ?_
          refine P_iconst C dX11_set_30 (v := (1 : Int32)) rfl ?_
          refine P_icmp_ne C dX11_set_31 (tgt := 39) (by decide +kernel) (fun q7 => ?_) (fun q7 => ?_)
          · have h := h.1 q7
            refine P_bipush C dX11_set_39 (v := (99 : Int32)) rfl ?_
            exact P_sub [0, 1, 2, 3] rfl h
          · have h := h.2 q7
            refine P_bipush C dX11_set_34 (v := (10 : Int32)) rfl ?_
            refine P_goto C dX11_set_36 (tgt := 41) (by decide +kernel) ?_
            exact P_sub [0, 1, 2, 3] rfl h
        · have h := h.2 q6
          refine P_sipush C dX11_set_23 (v := (9999 : Int32)) rfl ?_
          refine P_goto C dX11_set_26 (tgt := 41) (by decide +kernel) ?_
          exact P_sub [0, 1, 2, 3] rfl h
      · have h := h.2 q5
        refine P_iconst C dX11_set_17 (v := (-1 : Int32)) rfl ?_
        exact P_iret C dX11_set_18 h
set_option maxRecDepth 100000 in
set_option maxHeartbeats 4000000 in
theorem s_X11_set_41 {M : Mx} {Qk : Int32 → Sg → Prop} (C : Cx M cX11_set (some .int) RX11 wsX11_set (rmz 1) 0 0 (QI (mV M) Qk)) (hN : mN M = 7) {x1 : Int32} {x2 : Int32} {x3 : Int32} {z0 : Int32} {σ : Sg} (h : ((x3 < 0 → Qk (-2 : Int32) σ) ∧ (¬ x3 < 0 → ((x3 ≤ z0 → K_X1_numbersOf (mL M) (mV M) 1 x2 σ (fun a4 σ3 => (∃ na4 : Nat, kd a4 = (0, na4) ∧ a4 ∈ ids (mV M) ∧ (vp_in x1 na4 ∧ (∀ v6 : Int32, v6 = gi σ3 a4 x1.toNatClampNeg → (vp_in x1 na4 ∧ (∀ σ8 : Sg, σ8 = si σ3 a4 x1.toNatClampNeg x3 → Qk v6 σ8))))))) ∧ (¬ x3 ≤ z0 → Qk (-2 : Int32) σ))))) : PS M 41 [(0, .ref 0), (1, .int x1), (2, .int x2), (3, .int x3)] [.int z0] σ (0, 0) := by
  refine P_istore C dX11_set_41 (by rw [hN]; decide) rfl ?_
  refine P_iload_n C dX11_set_43 4 rfl ?_
  refine P_if_lt C dX11_set_44 (tgt := 53) (by decide +kernel) (fun q1 => ?_) (fun q1 => ?_)
  · have h := h.1 q1
    refine P_bipush C dX11_set_53 (v := (-2 : Int32)) rfl ?_
    exact P_iret C dX11_set_55 h
  · have h := h.2 q1
    refine P_iload_n C dX11_set_47 4 rfl ?_
    refine P_iload C dX11_set_48 0 rfl ?_
    refine P_icmp_le C dX11_set_50 (tgt := 56) (by decide +kernel) (fun q2 => ?_) (fun q2 => ?_)
    · have h := h.1 q2
      refine P_aload_n C dX11_set_56 1 rfl ?_
      refine P_getS C (e := 1) fa_X11_set_12 kd_0 (d := 1) rfl (fxl fx_0) rfl dX11_set_57 ?_
      refine P_iload_n C dX11_set_60 3 rfl ?_
      refine P_cr (R_v (ci := 1) C kv_X11_set_X1_numbersOf (As := [.int x2]) rfl kd_1 rfl (fxl fx_1) (Nat.le_of_ble_eq_true rfl) dX11_set_61 ⟨Nat.le_refl _, Nat.le_refl _⟩ h) (fun a4 σ3 h => ?_)
      obtain ⟨na4, ha4, la4, h⟩ := h
      refine P_astore C dX11_set_64 (by rw [hN]; decide) rfl ?_
      refine P_aload C dX11_set_66 0 rfl ?_
      refine P_iload_n C dX11_set_68 3 rfl ?_
      obtain ⟨hv5, h⟩ := h
      refine P_iald C ha4 la4 hv5 dX11_set_69 ?_
      refine P_nmi (fun v6 ev6 => ?_)
      have h := h v6 ev6
      refine P_istore C dX11_set_70 (by rw [hN]; decide) rfl ?_
      refine P_aload C dX11_set_72 1 rfl ?_
      refine P_iload_n C dX11_set_74 4 rfl ?_
      refine P_iload_n C dX11_set_75 6 rfl ?_
      obtain ⟨hv7, h⟩ := h
      refine P_iast C ha4 la4 hv7 dX11_set_76 ?_
      refine P_nm (fun σ8 eσ8 => ?_)
      have h := h σ8 eσ8
      refine P_iload C dX11_set_77 0 rfl ?_
      exact P_iret C dX11_set_79 h
    · have h := h.2 q2
      refine P_bipush C dX11_set_53 (v := (-2 : Int32)) rfl ?_
      exact P_iret C dX11_set_55 h
theorem kv_X11_see_X11_isMower : KV RX11 wsX11_see (rmz 1) 110 RX11 yX11_isMower wsX11_isMower (rmz 0) 1 := ⟨_, _, _, _, gX11_see_X11_isMower, rfl, by decide +kernel, by decide +kernel⟩
theorem fa_X11_see_12 : FA RX11 wsX11_see 12 11 0 "NineMowers" := by
  show _ ∧ _ ∧ _ ∧ _
  exact ⟨by decide +kernel, fun _ h => List.mem_cons_of_mem _ (List.mem_append_left _ (List.mem_append_left _ (List.mem_append_right _ h))), List.mem_of_getElem? (i := 1) rfl, Or.inl rfl⟩
theorem fa_X11_see_253 : FA RX11 wsX11_see 253 1 12 "NineMowers$Course" := by
  show _ ∧ _ ∧ _ ∧ _
  exact ⟨by decide +kernel, fun _ h => List.mem_cons_of_mem _ (List.mem_append_left _ (List.mem_append_right _ h)), List.mem_of_getElem? (i := 2) rfl, Or.inl rfl⟩
theorem kv_X11_see_X5_isFull : KV RX11 wsX11_see (rmz 1) 259 RX5 yX5_isFull wsX5_isFull (rmz 0) 0 := ⟨_, _, _, _, gX11_see_X5_isFull, rfl, by decide +kernel, by decide +kernel⟩
theorem kv_X11_see_X5_comes : KV RX11 wsX11_see (rmz 1) 262 RX5 yX5_comes wsX5_comes (rmz 0) 1 := ⟨_, _, _, _, gX11_see_X5_comes, rfl, by decide +kernel, by decide +kernel⟩
theorem fa_X11_see_256 : FA RX11 wsX11_see 256 5 1 "NineMowers$Numbers" := by
  show _ ∧ _ ∧ _ ∧ _
  exact ⟨by decide +kernel, fun _ h => List.mem_cons_of_mem _ (List.mem_append_right _ h), List.mem_of_getElem? (i := 3) rfl, Or.inl rfl⟩
theorem pa_X11_see_256 : PA RX11 wsX11_see 256 5 1 "NineMowers$Numbers" .int := by
  show _ ∧ _ ∧ _ ∧ _ ∧ _ ∧ _ ∧ _ ∧ _
  exact ⟨by decide +kernel, fun _ h => List.mem_cons_of_mem _ (List.mem_append_right _ h), List.mem_of_getElem? (i := 3) rfl, rfl, rfl, by decide +kernel, ⟨tyX5, tyX5_ok⟩, nmX5⟩
noncomputable def K_X11_see (l : Launch) (V : Vx) (a1 : Int32) (a2 : Int32) (a3 : Int32) (σ : Sg) (Qk : Int32 → Sg → Prop) : Prop := Ka l V yX11_see wsX11_see (rmz 1) 0 0 [.ref 0, .int a1, .int a2, .int a3] σ (QI V Qk)
theorem e_X11_see {l : Launch} {V : Vx} {a1 : Int32} {a2 : Int32} {a3 : Int32} {σ : Sg} {Qk : Int32 → Sg → Prop} (h : ∀ M : Mx, mL M = l → mV M = V → mN M = 4 → Cx M cX11_see (some .int) RX11 wsX11_see (rmz 1) 0 0 (QI (mV M) Qk) → PS M 0 [(0, .ref 0), (1, .int a1), (2, .int a2), (3, .int a3)] [] σ (0, 0)) : K_X11_see l V a1 a2 a3 σ Qk :=
  Ka_of (by decide +kernel) rfl rfl (Nat.le_of_ble_eq_true rfl) (fun M h1 h2 h3 C => h M h1 h2 h3 (by rw [h2]; exact C))
set_option maxRecDepth 100000 in
set_option maxHeartbeats 4000000 in
theorem s_X11_see_0 {M : Mx} {Qk : Int32 → Sg → Prop} (C : Cx M cX11_see (some .int) RX11 wsX11_see (rmz 1) 0 0 (QI (mV M) Qk)) (hN : mN M = 4) {a1 : Int32} {a2 : Int32} {a3 : Int32} {σ : Sg} (h : ((¬ a1 = (-1 : Int32) → K_X11_isMower (mL M) (mV M) a1 σ (fun r3 σ2 => ((¬ r3 = 0 → ((a2 < 0 → Qk (-2 : Int32) σ2) ∧ (¬ a2 < 0 → (((30 : Int32) < a2 → Qk (-2 : Int32) σ2) ∧ (¬ (30 : Int32) < a2 → ((a3 < 0 → Qk (-2 : Int32) σ2) ∧ (¬ a3 < 0 → ((a3 ≤ (9999 : Int32) → K_X5_isFull (mL M) (mV M) 9 σ2 (fun r10 σ9 => ((r10 = 0 → K_X5_comes (mL M) (mV M) 9 a1 σ9 (fun σ12 => K_X5_comes (mL M) (mV M) 9 a2 σ12 (fun σ13 => K_X5_comes (mL M) (mV M) 9 a3 σ13 (fun σ14 => Qk ((gi σ14 9 1) / (3 : Int32)) σ14)))) ∧ (¬ r10 = 0 → Qk (-4 : Int32) σ9)))) ∧ (¬ a3 ≤ (9999 : Int32) → Qk (-2 : Int32) σ2))))))))) ∧ (r3 = 0 → Qk (-1 : Int32) σ2)))) ∧ (a1 = (-1 : Int32) → (∀ σ15 : Sg, σ15 = si σ 9 1 (0 : Int32) → Qk (0 : Int32) σ15)))) : PS M 0 [(0, .ref 0), (1, .int a1), (2, .int a2), (3, .int a3)] [] σ (0, 0) := by
  refine P_iload_n C dX11_see_0 1 rfl ?_
  refine P_iconst C dX11_see_1 (v := (-1 : Int32)) rfl ?_
  refine P_icmp_ne C dX11_see_2 (tgt := 18) (by decide +kernel) (fun q1 => ?_) (fun q1 => ?_)
  · have h := h.1 q1
    refine P_aload_n C dX11_see_18 0 rfl ?_
    refine P_iload_n C dX11_see_19 1 rfl ?_
    refine P_ci (R_v (ci := 11) C kv_X11_see_X11_isMower (As := [.int a1]) rfl kd_0 rfl (fxl fx_0) (Nat.le_of_ble_eq_true rfl) dX11_see_20 ⟨Nat.le_refl _, Nat.le_refl _⟩ h) (fun r3 σ2 h => ?_)
    refine P_if_ne C dX11_see_23 (tgt := 28) (by decide +kernel) (fun q4 => ?_) (fun q4 => ?_)
    · have h := h.1 q4
      refine P_iload_n C dX11_see_28 2 rfl ?_
      refine P_if_lt C dX11_see_29 (tgt := 49) (by decide +kernel) (fun q5 => ?_) (fun q5 => ?_)
      · have h := h.1 q5
        refine P_bipush C dX11_see_49 (v := (-2 : Int32)) rfl ?_
        exact P_iret C dX11_see_51 h
      · have h := h.2 q5
        refine P_iload_n C dX11_see_32 2 rfl ?_
        refine P_bipush C dX11_see_33 (v := (30 : Int32)) rfl ?_
        refine P_icmp_gt C dX11_see_35 (tgt := 49) (by decide +kernel) (fun q6 => ?_) (fun q6 => ?_)
        · have h := h.1 q6
          refine P_bipush C dX11_see_49 (v := (-2 : Int32)) rfl ?_
          exact P_iret C dX11_see_51 h
        · have h := h.2 q6
          refine P_iload_n C dX11_see_38 3 rfl ?_
          refine P_if_lt C dX11_see_39 (tgt := 49) (by decide +kernel) (fun q7 => ?_) (fun q7 => ?_)
          · have h := h.1 q7
            refine P_bipush C dX11_see_49 (v := (-2 : Int32)) rfl ?_
            exact P_iret C dX11_see_51 h
          · have h := h.2 q7
            refine P_iload_n C dX11_see_42 3 rfl ?_
            refine P_sipush C dX11_see_43 (v := (9999 : Int32)) rfl ?_
            refine P_icmp_le C dX11_see_46 (tgt := 52) (by decide +kernel) (fun q8 => ?_) (fun q8 => ?_)
            · have h := h.1 q8
              refine P_aload_n C dX11_see_52 0 rfl ?_
              refine P_getS C (e := 1) fa_X11_see_12 kd_0 (d := 1) rfl (fxl fx_0) rfl dX11_see_53 ?_
              refine P_getS C (e := 9) fa_X11_see_253 kd_1 (d := 8) rfl (fxl fx_1) rfl dX11_see_56 ?_
              refine P_ci (R_v (ci := 5) C kv_X11_see_X5_isFull (As := []) rfl kd_9 rfl (fxl fx_9) (Nat.le_of_ble_eq_true rfl) dX11_see_59 ⟨Nat.le_refl _, Nat.le_refl _⟩ h) (fun r10 σ9 h => ?_)
              refine P_if_eq C dX11_see_62 (tgt := 68) (by decide +kernel) (fun q11 => ?_) (fun q11 => ?_)
              · have h := h.1 q11
                refine P_aload_n C dX11_see_68 0 rfl ?_
                refine P_getS C (e := 1) fa_X11_see_12 kd_0 (d := 1) rfl (fxl fx_0) rfl dX11_see_69 ?_
                refine P_getS C (e := 9) fa_X11_see_253 kd_1 (d := 8) rfl (fxl fx_1) rfl dX11_see_72 ?_
                refine P_iload_n C dX11_see_75 1 rfl ?_
                refine P_cv (R_v (ci := 5) C kv_X11_see_X5_comes (As := [.int a1]) rfl kd_9 rfl (fxl fx_9) (Nat.le_of_ble_eq_true rfl) dX11_see_76 ⟨Nat.le_refl _, Nat.le_refl _⟩ h) (fun σ12 h => ?_)
                refine P_aload_n C dX11_see_79 0 rfl ?_
                refine P_getS C (e := 1) fa_X11_see_12 kd_0 (d := 1) rfl (fxl fx_0) rfl dX11_see_80 ?_
                refine P_getS C (e := 9) fa_X11_see_253 kd_1 (d := 8) rfl (fxl fx_1) rfl dX11_see_83 ?_
                refine P_iload_n C dX11_see_86 2 rfl ?_
                refine P_cv (R_v (ci := 5) C kv_X11_see_X5_comes (As := [.int a2]) rfl kd_9 rfl (fxl fx_9) (Nat.le_of_ble_eq_true rfl) dX11_see_87 ⟨Nat.le_refl _, Nat.le_refl _⟩ h) (fun σ13 h => ?_)
                refine P_aload_n C dX11_see_90 0 rfl ?_
                refine P_getS C (e := 1) fa_X11_see_12 kd_0 (d := 1) rfl (fxl fx_0) rfl dX11_see_91 ?_
                refine P_getS C (e := 9) fa_X11_see_253 kd_1 (d := 8) rfl (fxl fx_1) rfl dX11_see_94 ?_
                refine P_iload_n C dX11_see_97 3 rfl ?_
                refine P_cv (R_v (ci := 5) C kv_X11_see_X5_comes (As := [.int a3]) rfl kd_9 rfl (fxl fx_9) (Nat.le_of_ble_eq_true rfl) dX11_see_98 ⟨Nat.le_refl _, Nat.le_refl _⟩ h) (fun σ14 h => ?_)
                refine P_aload_n C dX11_see_101 0 rfl ?_
                refine P_getS C (e := 1) fa_X11_see_12 kd_0 (d := 1) rfl (fxl fx_0) rfl dX11_see_102 ?_
                refine P_getS C (e := 9) fa_X11_see_253 kd_1 (d := 8) rfl (fxl fx_1) rfl dX11_see_105 ?_
                refine P_getI C fa_X11_see_256 kd_9 rfl (fxl fx_9) dX11_see_108 ?_
                refine P_iconst C dX11_see_111 (v := (3 : Int32)) rfl ?_
                refine P_idiv C dX11_see_112 (by decide +kernel) ?_
                exact P_iret C dX11_see_113 h
              · have h := h.2 q11
                refine P_bipush C dX11_see_65 (v := (-4 : Int32)) rfl ?_
                exact P_iret C dX11_see_67 h
            · have h := h.2 q8
              refine P_bipush C dX11_see_49 (v := (-2 : Int32)) rfl ?_
              exact P_iret C dX11_see_51 h
    · have h := h.2 q4
      refine P_iconst C dX11_see_26 (v := (-1 : Int32)) rfl ?_
      exact P_iret C dX11_see_27 h
  · have h := h.2 q1
    refine P_aload_n C dX11_see_5 0 rfl ?_
    refine P_getS C (e := 1) fa_X11_see_12 kd_0 (d := 1) rfl (fxl fx_0) rfl dX11_see_6 ?_
    refine P_getS C (e := 9) fa_X11_see_253 kd_1 (d := 8) rfl (fxl fx_1) rfl dX11_see_9 ?_
    refine P_iconst C dX11_see_12 (v := (0 : Int32)) rfl ?_
    refine P_putI C pa_X11_see_256 kd_9 rfl (fxl fx_9) dX11_see_13 ?_
    refine P_nm (fun σ15 eσ15 => ?_)
    have h := h σ15 eσ15
    refine P_iconst C dX11_see_16 (v := (0 : Int32)) rfl ?_
    exact P_iret C dX11_see_17 h
theorem fa_X11_plan_12 : FA RX11 wsX11_plan 12 11 0 "NineMowers" := by
  show _ ∧ _ ∧ _ ∧ _
  exact ⟨by decide +kernel, fun _ h => List.mem_cons_of_mem _ (List.mem_append_left _ (List.mem_append_left _ (List.mem_append_right _ h))), List.mem_of_getElem? (i := 1) rfl, Or.inl rfl⟩
theorem fa_X11_plan_279 : FA RX11 wsX11_plan 279 1 13 "NineMowers$Course" := by
  show _ ∧ _ ∧ _ ∧ _
  exact ⟨by decide +kernel, fun _ h => List.mem_cons_of_mem _ (List.mem_append_left _ (List.mem_append_right _ h)), List.mem_of_getElem? (i := 2) rfl, Or.inl rfl⟩
theorem kv_X11_plan_X5_isFull : KV RX11 wsX11_plan (rmz 1) 259 RX5 yX5_isFull wsX5_isFull (rmz 0) 0 := ⟨_, _, _, _, gX11_plan_X5_isFull, rfl, by decide +kernel, by decide +kernel⟩
theorem kv_X11_plan_X5_comes : KV RX11 wsX11_plan (rmz 1) 262 RX5 yX5_comes wsX5_comes (rmz 0) 1 := ⟨_, _, _, _, gX11_plan_X5_comes, rfl, by decide +kernel, by decide +kernel⟩
theorem fa_X11_plan_256 : FA RX11 wsX11_plan 256 5 1 "NineMowers$Numbers" := by
  show _ ∧ _ ∧ _ ∧ _
  exact ⟨by decide +kernel, fun _ h => List.mem_cons_of_mem _ (List.mem_append_right _ h), List.mem_of_getElem? (i := 3) rfl, Or.inl rfl⟩
theorem pa_X11_plan_256 : PA RX11 wsX11_plan 256 5 1 "NineMowers$Numbers" .int := by
  show _ ∧ _ ∧ _ ∧ _ ∧ _ ∧ _ ∧ _ ∧ _
  exact ⟨by decide +kernel, fun _ h => List.mem_cons_of_mem _ (List.mem_append_right _ h), List.mem_of_getElem? (i := 3) rfl, rfl, rfl, by decide +kernel, ⟨tyX5, tyX5_ok⟩, nmX5⟩
noncomputable def K_X11_plan (l : Launch) (V : Vx) (a1 : Int32) (σ : Sg) (Qk : Int32 → Sg → Prop) : Prop := Ka l V yX11_plan wsX11_plan (rmz 1) 0 0 [.ref 0, .int a1] σ (QI V Qk)
theorem e_X11_plan {l : Launch} {V : Vx} {a1 : Int32} {σ : Sg} {Qk : Int32 → Sg → Prop} (h : ∀ M : Mx, mL M = l → mV M = V → mN M = 2 → Cx M cX11_plan (some .int) RX11 wsX11_plan (rmz 1) 0 0 (QI (mV M) Qk) → PS M 0 [(0, .ref 0), (1, .int a1)] [] σ (0, 0)) : K_X11_plan l V a1 σ Qk :=
  Ka_of (by decide +kernel) rfl rfl (Nat.le_of_ble_eq_true rfl) (fun M h1 h2 h3 C => h M h1 h2 h3 (by rw [h2]; exact C))
set_option maxRecDepth 100000 in
set_option maxHeartbeats 4000000 in
theorem s_X11_plan_0 {M : Mx} {Qk : Int32 → Sg → Prop} (C : Cx M cX11_plan (some .int) RX11 wsX11_plan (rmz 1) 0 0 (QI (mV M) Qk)) (hN : mN M = 2) {a1 : Int32} {σ : Sg} (h : ((¬ a1 = (-1 : Int32) → ((a1 < 0 → Qk (-1 : Int32) σ) ∧ (¬ a1 < 0 → ((a1 ≤ (2 : Int32) → K_X5_isFull (mL M) (mV M) 11 σ (fun r5 σ4 => ((r5 = 0 → K_X5_comes (mL M) (mV M) 11 a1 σ4 (fun σ7 => Qk (gi σ7 11 1) σ7)) ∧ (¬ r5 = 0 → Qk (-4 : Int32) σ4)))) ∧ (¬ a1 ≤ (2 : Int32) → Qk (-1 : Int32) σ))))) ∧ (a1 = (-1 : Int32) → (∀ σ8 : Sg, σ8 = si σ 11 1 (0 : Int32) → Qk (0 : Int32) σ8)))) : PS M 0 [(0, .ref 0), (1, .int a1)] [] σ (0, 0) := by
  refine P_iload_n C dX11_plan_0 1 rfl ?_
  refine P_iconst C dX11_plan_1 (v := (-1 : Int32)) rfl ?_
  refine P_icmp_ne C dX11_plan_2 (tgt := 18) (by decide +kernel) (fun q1 => ?_) (fun q1 => ?_)
  · have h := h.1 q1
    refine P_iload_n C dX11_plan_18 1 rfl ?_
    refine P_if_lt C dX11_plan_19 (tgt := 27) (by decide +kernel) (fun q2 => ?_) (fun q2 => ?_)
    · have h := h.1 q2
      refine P_iconst C dX11_plan_27 (v := (-1 : Int32)) rfl ?_
      exact P_iret C dX11_plan_28 h
    · have h := h.2 q2
      refine P_iload_n C dX11_plan_22 1 rfl ?_
      refine P_iconst C dX11_plan_23 (v := (2 : Int32)) rfl ?_
      refine P_icmp_le C dX11_plan_24 (tgt := 29) (by decide +kernel) (fun q3 => ?_) (fun q3 => ?_)
      · have h := h.1 q3
        refine P_aload_n C dX11_plan_29 0 rfl ?_
        refine P_getS C (e := 1) fa_X11_plan_12 kd_0 (d := 1) rfl (fxl fx_0) rfl dX11_plan_30 ?_
        refine P_getS C (e := 11) fa_X11_plan_279 kd_1 (d := 10) rfl (fxl fx_1) rfl dX11_plan_33 ?_
        refine P_ci (R_v (ci := 5) C kv_X11_plan_X5_isFull (As := []) rfl kd_11 rfl (fxl fx_11) (Nat.le_of_ble_eq_true rfl) dX11_plan_36 ⟨Nat.le_refl _, Nat.le_refl _⟩ h) (fun r5 σ4 h => ?_)
        refine P_if_eq C dX11_plan_39 (tgt := 45) (by decide +kernel) (fun q6 => ?_) (fun q6 => ?_)
        · have h := h.1 q6
          refine P_aload_n C dX11_plan_45 0 rfl ?_
          refine P_getS C (e := 1) fa_X11_plan_12 kd_0 (d := 1) rfl (fxl fx_0) rfl dX11_plan_46 ?_
          refine P_getS C (e := 11) fa_X11_plan_279 kd_1 (d := 10) rfl (fxl fx_1) rfl dX11_plan_49 ?_
          refine P_iload_n C dX11_plan_52 1 rfl ?_
          refine P_cv (R_v (ci := 5) C kv_X11_plan_X5_comes (As := [.int a1]) rfl kd_11 rfl (fxl fx_11) (Nat.le_of_ble_eq_true rfl) dX11_plan_53 ⟨Nat.le_refl _, Nat.le_refl _⟩ h) (fun σ7 h => ?_)
          refine P_aload_n C dX11_plan_56 0 rfl ?_
          refine P_getS C (e := 1) fa_X11_plan_12 kd_0 (d := 1) rfl (fxl fx_0) rfl dX11_plan_57 ?_
          refine P_getS C (e := 11) fa_X11_plan_279 kd_1 (d := 10) rfl (fxl fx_1) rfl dX11_plan_60 ?_
          refine P_getI C fa_X11_plan_256 kd_11 rfl (fxl fx_11) dX11_plan_63 ?_
          exact P_iret C dX11_plan_66 h
        · have h := h.2 q6
          refine P_bipush C dX11_plan_42 (v := (-4 : Int32)) rfl ?_
          exact P_iret C dX11_plan_44 h
      · have h := h.2 q3
        refine P_iconst C dX11_plan_27 (v := (-1 : Int32)) rfl ?_
        exact P_iret C dX11_plan_28 h
  · have h := h.2 q1
    refine P_aload_n C dX11_plan_5 0 rfl ?_
    refine P_getS C (e := 1) fa_X11_plan_12 kd_0 (d := 1) rfl (fxl fx_0) rfl dX11_plan_6 ?_
    refine P_getS C (e := 11) fa_X11_plan_279 kd_1 (d := 10) rfl (fxl fx_1) rfl dX11_plan_9 ?_
    refine P_iconst C dX11_plan_12 (v := (0 : Int32)) rfl ?_
    refine P_putI C pa_X11_plan_256 kd_11 rfl (fxl fx_11) dX11_plan_13 ?_
    refine P_nm (fun σ8 eσ8 => ?_)
    have h := h σ8 eσ8
    refine P_iconst C dX11_plan_16 (v := (0 : Int32)) rfl ?_
    exact P_iret C dX11_plan_17 h
theorem kv_X11_book_X11_isMower : KV RX11 wsX11_book (rmz 1) 110 RX11 yX11_isMower wsX11_isMower (rmz 0) 1 := ⟨_, _, _, _, gX11_book_X11_isMower, rfl, by decide +kernel, by decide +kernel⟩
theorem fa_X11_book_12 : FA RX11 wsX11_book 12 11 0 "NineMowers" := by
  show _ ∧ _ ∧ _ ∧ _
  exact ⟨by decide +kernel, fun _ h => List.mem_cons_of_mem _ (List.mem_append_left _ (List.mem_append_left _ (List.mem_append_right _ h))), List.mem_of_getElem? (i := 1) rfl, Or.inl rfl⟩
theorem fa_X11_book_282 : FA RX11 wsX11_book 282 1 14 "NineMowers$Course" := by
  show _ ∧ _ ∧ _ ∧ _
  exact ⟨by decide +kernel, fun _ h => List.mem_cons_of_mem _ (List.mem_append_left _ (List.mem_append_right _ h)), List.mem_of_getElem? (i := 2) rfl, Or.inl rfl⟩
theorem kv_X11_book_X5_isFull : KV RX11 wsX11_book (rmz 1) 259 RX5 yX5_isFull wsX5_isFull (rmz 0) 0 := ⟨_, _, _, _, gX11_book_X5_isFull, rfl, by decide +kernel, by decide +kernel⟩
theorem kv_X11_book_X5_comes : KV RX11 wsX11_book (rmz 1) 262 RX5 yX5_comes wsX5_comes (rmz 0) 1 := ⟨_, _, _, _, gX11_book_X5_comes, rfl, by decide +kernel, by decide +kernel⟩
theorem fa_X11_book_256 : FA RX11 wsX11_book 256 5 1 "NineMowers$Numbers" := by
  show _ ∧ _ ∧ _ ∧ _
  exact ⟨by decide +kernel, fun _ h => List.mem_cons_of_mem _ (List.mem_append_right _ h), List.mem_of_getElem? (i := 3) rfl, Or.inl rfl⟩
theorem pa_X11_book_256 : PA RX11 wsX11_book 256 5 1 "NineMowers$Numbers" .int := by
  show _ ∧ _ ∧ _ ∧ _ ∧ _ ∧ _ ∧ _ ∧ _
  exact ⟨by decide +kernel, fun _ h => List.mem_cons_of_mem _ (List.mem_append_right _ h), List.mem_of_getElem? (i := 3) rfl, rfl, rfl, by decide +kernel, ⟨tyX5, tyX5_ok⟩, nmX5⟩
noncomputable def K_X11_book (l : Launch) (V : Vx) (a1 : Int32) (σ : Sg) (Qk : Int32 → Sg → Prop) : Prop := Ka l V yX11_book wsX11_book (rmz 1) 0 0 [.ref 0, .int a1] σ (QI V Qk)
theorem e_X11_book {l : Launch} {V : Vx} {a1 : Int32} {σ : Sg} {Qk : Int32 → Sg → Prop} (h : ∀ M : Mx, mL M = l → mV M = V → mN M = 2 → Cx M cX11_book (some .int) RX11 wsX11_book (rmz 1) 0 0 (QI (mV M) Qk) → PS M 0 [(0, .ref 0), (1, .int a1)] [] σ (0, 0)) : K_X11_book l V a1 σ Qk :=
  Ka_of (by decide +kernel) rfl rfl (Nat.le_of_ble_eq_true rfl) (fun M h1 h2 h3 C => h M h1 h2 h3 (by rw [h2]; exact C))
set_option maxRecDepth 100000 in
set_option maxHeartbeats 4000000 in
theorem s_X11_book_0 {M : Mx} {Qk : Int32 → Sg → Prop} (C : Cx M cX11_book (some .int) RX11 wsX11_book (rmz 1) 0 0 (QI (mV M) Qk)) (hN : mN M = 2) {a1 : Int32} {σ : Sg} (h : ((¬ a1 = (-1 : Int32) → K_X11_isMower (mL M) (mV M) a1 σ (fun r3 σ2 => ((¬ r3 = 0 → K_X5_isFull (mL M) (mV M) 13 σ2 (fun r6 σ5 => ((r6 = 0 → K_X5_comes (mL M) (mV M) 13 a1 σ5 (fun σ8 => Qk (gi σ8 13 1) σ8)) ∧ (¬ r6 = 0 → Qk (-4 : Int32) σ5)))) ∧ (r3 = 0 → Qk (-1 : Int32) σ2)))) ∧ (a1 = (-1 : Int32) → (∀ σ9 : Sg, σ9 = si σ 13 1 (0 : Int32) → Qk (0 : Int32) σ9)))) : PS M 0 [(0, .ref 0), (1, .int a1)] [] σ (0, 0) := by
  refine P_iload_n C dX11_book_0 1 rfl ?_
  refine P_iconst C dX11_book_1 (v := (-1 : Int32)) rfl ?_
  refine P_icmp_ne C dX11_book_2 (tgt := 18) (by decide +kernel) (fun q1 => ?_) (fun q1 => ?_)
  · have h := h.1 q1
    refine P_aload_n C dX11_book_18 0 rfl ?_
    refine P_iload_n C dX11_book_19 1 rfl ?_
    refine P_ci (R_v (ci := 11) C kv_X11_book_X11_isMower (As := [.int a1]) rfl kd_0 rfl (fxl fx_0) (Nat.le_of_ble_eq_true rfl) dX11_book_20 ⟨Nat.le_refl _, Nat.le_refl _⟩ h) (fun r3 σ2 h => ?_)
    refine P_if_ne C dX11_book_23 (tgt := 28) (by decide +kernel) (fun q4 => ?_) (fun q4 => ?_)
    · have h := h.1 q4
      refine P_aload_n C dX11_book_28 0 rfl ?_
      refine P_getS C (e := 1) fa_X11_book_12 kd_0 (d := 1) rfl (fxl fx_0) rfl dX11_book_29 ?_
      refine P_getS C (e := 13) fa_X11_book_282 kd_1 (d := 12) rfl (fxl fx_1) rfl dX11_book_32 ?_
      refine P_ci (R_v (ci := 5) C kv_X11_book_X5_isFull (As := []) rfl kd_13 rfl (fxl fx_13) (Nat.le_of_ble_eq_true rfl) dX11_book_35 ⟨Nat.le_refl _, Nat.le_refl _⟩ h) (fun r6 σ5 h => ?_)
      refine P_if_eq C dX11_book_38 (tgt := 44) (by decide +kernel) (fun q7 => ?_) (fun q7 => ?_)
      · have h := h.1 q7
        refine P_aload_n C dX11_book_44 0 rfl ?_
        refine P_getS C (e := 1) fa_X11_book_12 kd_0 (d := 1) rfl (fxl fx_0) rfl dX11_book_45 ?_
        refine P_getS C (e := 13) fa_X11_book_282 kd_1 (d := 12) rfl (fxl fx_1) rfl dX11_book_48 ?_
        refine P_iload_n C dX11_book_51 1 rfl ?_
        refine P_cv (R_v (ci := 5) C kv_X11_book_X5_comes (As := [.int a1]) rfl kd_13 rfl (fxl fx_13) (Nat.le_of_ble_eq_true rfl) dX11_book_52 ⟨Nat.le_refl _, Nat.le_refl _⟩ h) (fun σ8 h => ?_)
        refine P_aload_n C dX11_book_55 0 rfl ?_
        refine P_getS C (e := 1) fa_X11_book_12 kd_0 (d := 1) rfl (fxl fx_0) rfl dX11_book_56 ?_
        refine P_getS C (e := 13) fa_X11_book_282 kd_1 (d := 12) rfl (fxl fx_1) rfl dX11_book_59 ?_
        refine P_getI C fa_X11_book_256 kd_13 rfl (fxl fx_13) dX11_book_62 ?_
        exact P_iret C dX11_book_65 h
      · have h := h.2 q7
        refine P_bipush C dX11_book_41 (v := (-4 : Int32)) rfl ?_
        exact P_iret C dX11_book_43 h
    · have h := h.2 q4
      refine P_iconst C dX11_book_26 (v := (-1 : Int32)) rfl ?_
      exact P_iret C dX11_book_27 h
  · have h := h.2 q1
    refine P_aload_n C dX11_book_5 0 rfl ?_
    refine P_getS C (e := 1) fa_X11_book_12 kd_0 (d := 1) rfl (fxl fx_0) rfl dX11_book_6 ?_
    refine P_getS C (e := 13) fa_X11_book_282 kd_1 (d := 12) rfl (fxl fx_1) rfl dX11_book_9 ?_
    refine P_iconst C dX11_book_12 (v := (0 : Int32)) rfl ?_
    refine P_putI C pa_X11_book_256 kd_13 rfl (fxl fx_13) dX11_book_13 ?_
    refine P_nm (fun σ9 eσ9 => ?_)
    have h := h σ9 eσ9
    refine P_iconst C dX11_book_16 (v := (0 : Int32)) rfl ?_
    exact P_iret C dX11_book_17 h
theorem kf_X11_judge_X11_isTape : KF RX11 wsX11_judge (rmz 1) 285 yX11_isTape wsX11_isTape (rmz 0) 1 := ⟨_, _, _, _, gX11_judge_X11_isTape, rfl, by decide +kernel, by decide +kernel⟩
theorem fa_X11_judge_47 : FA RX11 wsX11_judge 47 11 8 "NineMowers" := by
  show _ ∧ _ ∧ _ ∧ _
  exact ⟨by decide +kernel, fun _ h => List.mem_cons_of_mem _ (List.mem_append_left _ (List.mem_append_left _ (List.mem_append_right _ h))), List.mem_of_getElem? (i := 1) rfl, Or.inl rfl⟩
theorem kv_X11_judge_X9_isEmpty : KV RX11 wsX11_judge (rmz 1) 288 RX9 yX9_isEmpty wsX9_isEmpty (rmz 0) 0 := ⟨_, _, _, _, gX11_judge_X9_isEmpty, rfl, by decide +kernel, by decide +kernel⟩
theorem fa_X11_judge_291 : FA RX11 wsX11_judge 291 9 1 "NineMowers$Tape" := by
  show _ ∧ _ ∧ _ ∧ _
  exact ⟨by decide +kernel, fun _ h => List.mem_cons_of_mem _ (List.mem_append_left _ (List.mem_append_right _ h)), List.mem_of_getElem? (i := 2) rfl, Or.inl rfl⟩
theorem fa_X11_judge_12 : FA RX11 wsX11_judge 12 11 0 "NineMowers" := by
  show _ ∧ _ ∧ _ ∧ _
  exact ⟨by decide +kernel, fun _ h => List.mem_cons_of_mem _ (List.mem_append_left _ (List.mem_append_left _ (List.mem_append_right _ h))), List.mem_of_getElem? (i := 3) rfl, Or.inl rfl⟩
theorem fa_X11_judge_76 : FA RX11 wsX11_judge 76 1 1 "NineMowers$Course" := by
  show _ ∧ _ ∧ _ ∧ _
  exact ⟨by decide +kernel, fun _ h => List.mem_cons_of_mem _ (List.mem_append_right _ h), List.mem_of_getElem? (i := 4) rfl, Or.inl rfl⟩
theorem kv_X11_judge_X9_has : KV RX11 wsX11_judge (rmz 1) 294 RX9 yX9_has wsX9_has (rmz 0) 1 := ⟨_, _, _, _, gX11_judge_X9_has, rfl, by decide +kernel, by decide +kernel⟩
theorem fa_X11_judge_297 : FA RX11 wsX11_judge 297 9 0 "NineMowers$Tape" := by
  show _ ∧ _ ∧ _ ∧ _
  exact ⟨by decide +kernel, fun _ h => List.mem_cons_of_mem _ (List.mem_append_left _ (List.mem_append_right _ h)), List.mem_of_getElem? (i := 5) rfl, Or.inl rfl⟩
theorem fa_X11_judge_124 : FA RX11 wsX11_judge 124 1 4 "NineMowers$Course" := by
  show _ ∧ _ ∧ _ ∧ _
  exact ⟨by decide +kernel, fun _ h => List.mem_cons_of_mem _ (List.mem_append_right _ h), List.mem_of_getElem? (i := 6) rfl, Or.inl rfl⟩
noncomputable def K_X11_judge (l : Launch) (V : Vx) (a1 : Int32) (a2 : Int32) (σ : Sg) (Qk : Int32 → Sg → Prop) : Prop := Ka l V yX11_judge wsX11_judge (rmz 1) 0 0 [.ref 0, .int a1, .int a2] σ (QI V Qk)
theorem e_X11_judge {l : Launch} {V : Vx} {a1 : Int32} {a2 : Int32} {σ : Sg} {Qk : Int32 → Sg → Prop} (h : ∀ M : Mx, mL M = l → mV M = V → mN M = 5 → Cx M cX11_judge (some .int) RX11 wsX11_judge (rmz 1) 0 0 (QI (mV M) Qk) → PS M 0 [(0, .ref 0), (1, .int a1), (2, .int a2)] [] σ (0, 0)) : K_X11_judge l V a1 a2 σ Qk :=
  Ka_of (by decide +kernel) rfl rfl (Nat.le_of_ble_eq_true rfl) (fun M h1 h2 h3 C => h M h1 h2 h3 (by rw [h2]; exact C))
set_option maxRecDepth 100000 in
set_option maxHeartbeats 4000000 in
theorem s_X11_judge_0 {M : Mx} {Qk : Int32 → Sg → Prop} (C : Cx M cX11_judge (some .int) RX11 wsX11_judge (rmz 1) 0 0 (QI (mV M) Qk)) (hN : mN M = 5) {a1 : Int32} {a2 : Int32} {σ : Sg} (h : K_X11_isTape (mL M) (mV M) a1 σ (fun r2 σ1 => ((¬ r2 = 0 → (vp_in a1 6 ∧ K_X9_isEmpty (mL M) (mV M) (52 + 2 * a1.toNatClampNeg) σ1 (fun r6 σ5 => ((¬ r6 = 0 → PS M 37 [(0, .ref 0), (2, .int a2), (3, .ref (52 + 2 * a1.toNatClampNeg)), (4, .int (0 : Int32))] [] σ5 (0, 0)) ∧ (r6 = 0 → (((gi σ5 (52 + 2 * a1.toNatClampNeg) 1) = (1 : Int32) → PS M 37 [(0, .ref 0), (2, .int a2), (3, .ref (52 + 2 * a1.toNatClampNeg)), (4, .int (0 : Int32))] [] σ5 (0, 0)) ∧ (¬ (gi σ5 (52 + 2 * a1.toNatClampNeg) 1) = (1 : Int32) → Qk (-12 : Int32) σ5))))))) ∧ (r2 = 0 → Qk (-1 : Int32) σ1)))) : PS M 0 [(0, .ref 0), (1, .int a1), (2, .int a2)] [] σ (0, 0) := by
  refine P_iload_n C dX11_judge_0 1 rfl ?_
  refine P_ci (R_f C kf_X11_judge_X11_isTape (As := [.int a1]) rfl (Nat.le_of_ble_eq_true rfl) dX11_judge_1 ⟨Nat.le_refl _, Nat.le_refl _⟩ h) (fun r2 σ1 h => ?_)
  refine P_if_ne C dX11_judge_4 (tgt := 9) (by decide +kernel) (fun q3 => ?_) (fun q3 => ?_)
  · have h := h.1 q3
    refine P_aload_n C dX11_judge_9 0 rfl ?_
    refine P_getS C (e := 51) fa_X11_judge_47 kd_0 (d := 51) rfl (fxl fx_0) rfl dX11_judge_10 ?_
    refine P_iload_n C dX11_judge_13 1 rfl ?_
    obtain ⟨hv4, h⟩ := h
    refine P_aldTe C (e := (52 + 2 * a1.toNatClampNeg)) kd_51 (fxl fx_51) hv4 rfl dX11_judge_14 ?_
    refine P_astore_n C dX11_judge_15 (by rw [hN]; decide) rfl ?_
    refine P_aload_n C dX11_judge_16 0 rfl ?_
    refine P_ci (R_v (ci := 9) C kv_X11_judge_X9_isEmpty (As := []) rfl (kdT_0 (isT_of hv4)) rfl (fxl (fxT_0 (isT_of hv4))) (Nat.le_of_ble_eq_true rfl) dX11_judge_17 ⟨Nat.le_refl _, Nat.le_refl _⟩ h) (fun r6 σ5 h => ?_)
    refine P_if_ne C dX11_judge_20 (tgt := 34) (by decide +kernel) (fun q7 => ?_) (fun q7 => ?_)
    · have h := h.1 q7
      refine P_iconst C dX11_judge_34 (v := (0 : Int32)) rfl ?_
      refine P_istore C dX11_judge_35 (by rw [hN]; decide) rfl ?_
      exact P_sub [2, 4, 1, 0] rfl h
    · have h := h.2 q7
      refine P_aload_n C dX11_judge_23 0 rfl ?_
      refine P_getI C fa_X11_judge_291 (kdT_0 (isT_of hv4)) rfl (fxl (fxT_0 (isT_of hv4))) dX11_judge_24 ?_
      refine P_iconst C dX11_judge_27 (v := (1 : Int32)) rfl ?_
      refine P_icmp_eq C dX11_judge_28 (tgt := 34) (by decide +kernel) (fun q8 => ?_) (fun q8 => ?_)
      · have h := h.1 q8
        refine P_iconst C dX11_judge_34 (v := (0 : Int32)) rfl ?_
        refine P_istore C dX11_judge_35 (by rw [hN]; decide) rfl ?_
        exact P_sub [2, 4, 1, 0] rfl h
      · have h := h.2 q8
        refine P_bipush C dX11_judge_31 (v := (-12 : Int32)) rfl ?_
        exact P_iret C dX11_judge_33 h
  · have h := h.2 q3
    refine P_iconst C dX11_judge_7 (v := (-1 : Int32)) rfl ?_
    exact P_iret C dX11_judge_8 h
set_option maxRecDepth 100000 in
set_option maxHeartbeats 4000000 in
theorem s_X11_judge_37 {M : Mx} {Qk : Int32 → Sg → Prop} (C : Cx M cX11_judge (some .int) RX11 wsX11_judge (rmz 1) 0 0 (QI (mV M) Qk)) (hN : mN M = 5) {x2 : Int32} {x3 : Nat} {x4 : Int32} (hx3 : isT x3) {σ : Sg} (h : (((gi σ 1 1) ≤ x4 → Qk (-5 : Int32) σ) ∧ (¬ (gi σ 1 1) ≤ x4 → K_X9_has (mL M) (mV M) x3 x2 σ (fun r3 σ2 => ((r3 = 0 → Qk ((100 : Int32) + x4) σ2) ∧ (¬ r3 = 0 → K_X9_has (mL M) (mV M) x3 (x2 + x4) σ2 (fun r6 σ5 => ((¬ r6 = 0 → (vp_in (x2 + x4) 60 ∧ (vp_in x4 6 ∧ (((lg_cmp (gl σ5 (x3 + 1) (x2 + x4).toNatClampNeg) ((gi σ5 4 x4.toNatClampNeg).toInt64)) = 0 → (∀ v11 : Int32, v11 = x4 + 1 → PS M 37 [(0, .ref 0), (2, .int x2), (3, .ref x3), (4, .int v11)] [] σ5 (0, 0))) ∧ (¬ (lg_cmp (gl σ5 (x3 + 1) (x2 + x4).toNatClampNeg) ((gi σ5 4 x4.toNatClampNeg).toInt64)) = 0 → Qk x4 σ5))))) ∧ (r6 = 0 → Qk ((100 : Int32) + x4) σ5))))))))) : PS M 37 [(0, .ref 0), (2, .int x2), (3, .ref x3), (4, .int x4)] [] σ (0, 0) := by
  refine P_iload C dX11_judge_37 3 rfl ?_
  refine P_aload_n C dX11_judge_39 0 rfl ?_
  refine P_getS C (e := 1) fa_X11_judge_12 kd_0 (d := 1) rfl (fxl fx_0) rfl dX11_judge_40 ?_
  refine P_getI C fa_X11_judge_76 kd_1 rfl (fxl fx_1) dX11_judge_43 ?_
  refine P_icmp_ge C dX11_judge_46 (tgt := 107) (by decide +kernel) (fun q1 => ?_) (fun q1 => ?_)
  · have h := h.1 q1
    refine P_bipush C dX11_judge_107 (v := (-5 : Int32)) rfl ?_
    exact P_iret C dX11_judge_109 h
  · have h := h.2 q1
    refine P_aload_n C dX11_judge_49 2 rfl ?_
    refine P_iload_n C dX11_judge_50 1 rfl ?_
    refine P_ci (R_v (ci := 9) C kv_X11_judge_X9_has (As := [.int x2]) rfl (kdT_0 hx3) rfl (fxl (fxT_0 hx3)) (Nat.le_of_ble_eq_true rfl) dX11_judge_51 ⟨Nat.le_refl _, Nat.le_refl _⟩ h) (fun r3 σ2 h => ?_)
    refine P_if_eq C dX11_judge_54 (tgt := 68) (by decide +kernel) (fun q4 => ?_) (fun q4 => ?_)
    · have h := h.1 q4
      refine P_bipush C dX11_judge_68 (v := (100 : Int32)) rfl ?_
      refine P_iload C dX11_judge_70 3 rfl ?_
      refine P_iadd C dX11_judge_72 ?_
      exact P_iret C dX11_judge_73 h
    · have h := h.2 q4
      refine P_aload_n C dX11_judge_57 2 rfl ?_
      refine P_iload_n C dX11_judge_58 1 rfl ?_
      refine P_iload C dX11_judge_59 3 rfl ?_
      refine P_iadd C dX11_judge_61 ?_
      refine P_ci (R_v (ci := 9) C kv_X11_judge_X9_has (As := [.int (x2 + x4)]) rfl (kdT_0 hx3) rfl (fxl (fxT_0 hx3)) (Nat.le_of_ble_eq_true rfl) dX11_judge_62 ⟨Nat.le_refl _, Nat.le_refl _⟩ h) (fun r6 σ5 h => ?_)
      refine P_if_ne C dX11_judge_65 (tgt := 74) (by decide +kernel) (fun q7 => ?_) (fun q7 => ?_)
      · have h := h.1 q7
        refine P_aload_n C dX11_judge_74 2 rfl ?_
        refine P_getS C (e := (x3 + 1)) fa_X11_judge_297 (kdT_0 hx3) (d := 1) rfl (fxl (fxT_0 hx3)) rfl dX11_judge_75 ?_
        refine P_iload_n C dX11_judge_78 1 rfl ?_
        refine P_iload C dX11_judge_79 3 rfl ?_
        refine P_iadd C dX11_judge_81 ?_
        obtain ⟨hv8, h⟩ := h
        refine P_lald C (kdT_1 hx3) (fxl (fxT_1 hx3)) hv8 dX11_judge_82 ?_
        refine P_aload_n C dX11_judge_83 0 rfl ?_
        refine P_getS C (e := 1) fa_X11_judge_12 kd_0 (d := 1) rfl (fxl fx_0) rfl dX11_judge_84 ?_
        refine P_getS C (e := 4) fa_X11_judge_124 kd_1 (d := 3) rfl (fxl fx_1) rfl dX11_judge_87 ?_
        refine P_iload C dX11_judge_90 3 rfl ?_
        obtain ⟨hv9, h⟩ := h
        refine P_iald C kd_4 (fxl fx_4) hv9 dX11_judge_92 ?_
        refine P_i2l C dX11_judge_93 ?_
        refine P_lcmp C dX11_judge_94 ?_
        refine P_if_eq C dX11_judge_95 (tgt := 101) (by decide +kernel) (fun q10 => ?_) (fun q10 => ?_)
        · have h := h.1 q10
          obtain ⟨v11, ev11⟩ : ∃ v : Int32, v = x4 + 1 := ⟨_, rfl⟩
          have h := h v11 ev11
          refine P_iinc (v := v11) C dX11_judge_101 3 rfl (by rw [ev11]; rfl) (by rw [hN]; decide) rfl ?_
          refine P_goto C dX11_judge_104 (tgt := 37) (by decide +kernel) ?_
          exact P_sub [1, 2, 3, 0] rfl h
        · have h := h.2 q10
          refine P_iload C dX11_judge_98 3 rfl ?_
          exact P_iret C dX11_judge_100 h
      · have h := h.2 q7
        refine P_bipush C dX11_judge_68 (v := (100 : Int32)) rfl ?_
        refine P_iload C dX11_judge_70 3 rfl ?_
        refine P_iadd C dX11_judge_72 ?_
        exact P_iret C dX11_judge_73 h
theorem kf_X11_item_X11_isTape : KF RX11 wsX11_item (rmz 1) 285 yX11_isTape wsX11_isTape (rmz 0) 1 := ⟨_, _, _, _, gX11_item_X11_isTape, rfl, by decide +kernel, by decide +kernel⟩
theorem fa_X11_item_47 : FA RX11 wsX11_item 47 11 8 "NineMowers" := by
  show _ ∧ _ ∧ _ ∧ _
  exact ⟨by decide +kernel, fun _ h => List.mem_cons_of_mem _ (List.mem_append_left _ (List.mem_append_right _ h)), List.mem_of_getElem? (i := 1) rfl, Or.inl rfl⟩
theorem kv_X11_item_X9_isEmpty : KV RX11 wsX11_item (rmz 1) 288 RX9 yX9_isEmpty wsX9_isEmpty (rmz 0) 0 := ⟨_, _, _, _, gX11_item_X9_isEmpty, rfl, by decide +kernel, by decide +kernel⟩
theorem kv_X11_item_X9_has : KV RX11 wsX11_item (rmz 1) 294 RX9 yX9_has wsX9_has (rmz 0) 1 := ⟨_, _, _, _, gX11_item_X9_has, rfl, by decide +kernel, by decide +kernel⟩
theorem fa_X11_item_297 : FA RX11 wsX11_item 297 9 0 "NineMowers$Tape" := by
  show _ ∧ _ ∧ _ ∧ _
  exact ⟨by decide +kernel, fun _ h => List.mem_cons_of_mem _ (List.mem_append_right _ h), List.mem_of_getElem? (i := 2) rfl, Or.inl rfl⟩
theorem kv_X11_item_X9_cut : KV RX11 wsX11_item (rmz 1) 321 RX9 yX9_cut wsX9_cut (rmz 0) 1 := ⟨_, _, _, _, gX11_item_X9_cut, rfl, by decide +kernel, by decide +kernel⟩
noncomputable def K_X11_item (l : Launch) (V : Vx) (a1 : Int32) (a2 : Int32) (a3 : Int64) (σ : Sg) (Qk : Int32 → Sg → Prop) : Prop := Ka l V yX11_item wsX11_item (rmz 1) 0 0 [.ref 0, .int a1, .int a2, .long a3] σ (QI V Qk)
theorem e_X11_item {l : Launch} {V : Vx} {a1 : Int32} {a2 : Int32} {a3 : Int64} {σ : Sg} {Qk : Int32 → Sg → Prop} (h : ∀ M : Mx, mL M = l → mV M = V → mN M = 6 → Cx M cX11_item (some .int) RX11 wsX11_item (rmz 1) 0 0 (QI (mV M) Qk) → PS M 0 [(0, .ref 0), (1, .int a1), (2, .int a2), (3, .long a3)] [] σ (0, 0)) : K_X11_item l V a1 a2 a3 σ Qk :=
  Ka_of (by decide +kernel) rfl rfl (Nat.le_of_ble_eq_true rfl) (fun M h1 h2 h3 C => h M h1 h2 h3 (by rw [h2]; exact C))
set_option maxRecDepth 100000 in
set_option maxHeartbeats 4000000 in
theorem s_X11_item_0 {M : Mx} {Qk : Int32 → Sg → Prop} (C : Cx M cX11_item (some .int) RX11 wsX11_item (rmz 1) 0 0 (QI (mV M) Qk)) (hN : mN M = 6) {a1 : Int32} {a2 : Int32} {a3 : Int64} {σ : Sg} (h : K_X11_isTape (mL M) (mV M) a1 σ (fun r2 σ1 => ((¬ r2 = 0 → (vp_in a1 6 ∧ K_X9_isEmpty (mL M) (mV M) (52 + 2 * a1.toNatClampNeg) σ1 (fun r6 σ5 => ((r6 = 0 → K_X9_has (mL M) (mV M) (52 + 2 * a1.toNatClampNeg) a2 σ5 (fun r9 σ8 => ((¬ r9 = 0 → K_X9_cut (mL M) (mV M) (52 + 2 * a1.toNatClampNeg) a3 σ8 (fun r12 σ11 => (vp_in a2 60 ∧ (∀ σ14 : Sg, σ14 = sl σ11 ((52 + 2 * a1.toNatClampNeg) + 1) a2.toNatClampNeg r12 → Qk (1 : Int32) σ14)))) ∧ (r9 = 0 → Qk (-13 : Int32) σ8)))) ∧ (¬ r6 = 0 → Qk (-11 : Int32) σ5))))) ∧ (r2 = 0 → Qk (-1 : Int32) σ1)))) : PS M 0 [(0, .ref 0), (1, .int a1), (2, .int a2), (3, .long a3)] [] σ (0, 0) := by
  refine P_iload_n C dX11_item_0 1 rfl ?_
  refine P_ci (R_f C kf_X11_item_X11_isTape (As := [.int a1]) rfl (Nat.le_of_ble_eq_true rfl) dX11_item_1 ⟨Nat.le_refl _, Nat.le_refl _⟩ h) (fun r2 σ1 h => ?_)
  refine P_if_ne C dX11_item_4 (tgt := 9) (by decide +kernel) (fun q3 => ?_) (fun q3 => ?_)
  · have h := h.1 q3
    refine P_aload_n C dX11_item_9 0 rfl ?_
    refine P_getS C (e := 51) fa_X11_item_47 kd_0 (d := 51) rfl (fxl fx_0) rfl dX11_item_10 ?_
    refine P_iload_n C dX11_item_13 1 rfl ?_
    obtain ⟨hv4, h⟩ := h
    refine P_aldTe C (e := (52 + 2 * a1.toNatClampNeg)) kd_51 (fxl fx_51) hv4 rfl dX11_item_14 ?_
    refine P_astore C dX11_item_15 (by rw [hN]; decide) rfl ?_
    refine P_aload C dX11_item_17 0 rfl ?_
    refine P_ci (R_v (ci := 9) C kv_X11_item_X9_isEmpty (As := []) rfl (kdT_0 (isT_of hv4)) rfl (fxl (fxT_0 (isT_of hv4))) (Nat.le_of_ble_eq_true rfl) dX11_item_19 ⟨Nat.le_refl _, Nat.le_refl _⟩ h) (fun r6 σ5 h => ?_)
    refine P_if_eq C dX11_item_22 (tgt := 28) (by decide +kernel) (fun q7 => ?_) (fun q7 => ?_)
    · have h := h.1 q7
      refine P_aload C dX11_item_28 0 rfl ?_
      refine P_iload_n C dX11_item_30 3 rfl ?_
      refine P_ci (R_v (ci := 9) C kv_X11_item_X9_has (As := [.int a2]) rfl (kdT_0 (isT_of hv4)) rfl (fxl (fxT_0 (isT_of hv4))) (Nat.le_of_ble_eq_true rfl) dX11_item_31 ⟨Nat.le_refl _, Nat.le_refl _⟩ h) (fun r9 σ8 h => ?_)
      refine P_if_ne C dX11_item_34 (tgt := 40) (by decide +kernel) (fun q10 => ?_) (fun q10 => ?_)
      · have h := h.1 q10
        refine P_aload C dX11_item_40 0 rfl ?_
        refine P_getS C (e := ((52 + 2 * a1.toNatClampNeg) + 1)) fa_X11_item_297 (kdT_0 (isT_of hv4)) (d := 1) rfl (fxl (fxT_0 (isT_of hv4))) rfl dX11_item_42 ?_
        refine P_iload_n C dX11_item_45 3 rfl ?_
        refine P_aload C dX11_item_46 0 rfl ?_
        refine P_lload_n C dX11_item_48 4 rfl ?_
        refine P_cl (R_v (ci := 9) C kv_X11_item_X9_cut (As := [.long a3]) rfl (kdT_0 (isT_of hv4)) rfl (fxl (fxT_0 (isT_of hv4))) (Nat.le_of_ble_eq_true rfl) dX11_item_49 ⟨Nat.le_refl _, Nat.le_refl _⟩ h) (fun r12 σ11 h => ?_)
        obtain ⟨hv13, h⟩ := h
        refine P_last C (kdT_1 (isT_of hv4)) (fxl (fxT_1 (isT_of hv4))) hv13 dX11_item_52 ?_
        refine P_nm (fun σ14 eσ14 => ?_)
        have h := h σ14 eσ14
        refine P_iconst C dX11_item_53 (v := (1 : Int32)) rfl ?_
        exact P_iret C dX11_item_54 h
      · have h := h.2 q10
        refine P_bipush C dX11_item_37 (v := (-13 : Int32)) rfl ?_
        exact P_iret C dX11_item_39 h
    · have h := h.2 q7
      refine P_bipush C dX11_item_25 (v := (-11 : Int32)) rfl ?_
      exact P_iret C dX11_item_27 h
  · have h := h.2 q3
    refine P_iconst C dX11_item_7 (v := (-1 : Int32)) rfl ?_
    exact P_iret C dX11_item_8 h
theorem kf_X11_shift_X11_isTape : KF RX11 wsX11_shift (rmz 1) 285 yX11_isTape wsX11_isTape (rmz 0) 1 := ⟨_, _, _, _, gX11_shift_X11_isTape, rfl, by decide +kernel, by decide +kernel⟩
theorem fa_X11_shift_47 : FA RX11 wsX11_shift 47 11 8 "NineMowers" := by
  show _ ∧ _ ∧ _ ∧ _
  exact ⟨by decide +kernel, fun _ h => List.mem_cons_of_mem _ (List.mem_append_left _ (List.mem_append_right _ h)), List.mem_of_getElem? (i := 1) rfl, Or.inl rfl⟩
theorem kv_X11_shift_X9_isEmpty : KV RX11 wsX11_shift (rmz 1) 288 RX9 yX9_isEmpty wsX9_isEmpty (rmz 0) 0 := ⟨_, _, _, _, gX11_shift_X9_isEmpty, rfl, by decide +kernel, by decide +kernel⟩
theorem fa_X11_shift_291 : FA RX11 wsX11_shift 291 9 1 "NineMowers$Tape" := by
  show _ ∧ _ ∧ _ ∧ _
  exact ⟨by decide +kernel, fun _ h => List.mem_cons_of_mem _ (List.mem_append_right _ h), List.mem_of_getElem? (i := 2) rfl, Or.inl rfl⟩
theorem kv_X11_shift_X9_hasPart : KV RX11 wsX11_shift (rmz 1) 325 RX9 yX9_hasPart wsX9_hasPart (rmz 0) 2 := ⟨_, _, _, _, gX11_shift_X9_hasPart, rfl, by decide +kernel, by decide +kernel⟩
theorem fa_X11_shift_297 : FA RX11 wsX11_shift 297 9 0 "NineMowers$Tape" := by
  show _ ∧ _ ∧ _ ∧ _
  exact ⟨by decide +kernel, fun _ h => List.mem_cons_of_mem _ (List.mem_append_right _ h), List.mem_of_getElem? (i := 3) rfl, Or.inl rfl⟩
theorem kc_X11_shift_217 : KC RX11 wsX11_shift 217 := ⟨List.mem_of_getElem? (i := 4) rfl, List.mem_of_getElem? (i := 5) rfl, List.mem_of_getElem? (i := 6) rfl, List.mem_of_getElem? (i := 7) rfl⟩
noncomputable def K_X11_shift (l : Launch) (V : Vx) (a1 : Int32) (a2 : Int32) (a3 : Int32) (a4 : Int32) (a5 : Int32) (σ : Sg) (Qk : Int32 → Sg → Prop) : Prop := Ka l V yX11_shift wsX11_shift (rmz 1) 0 0 [.ref 0, .int a1, .int a2, .int a3, .int a4, .int a5] σ (QI V Qk)
theorem e_X11_shift {l : Launch} {V : Vx} {a1 : Int32} {a2 : Int32} {a3 : Int32} {a4 : Int32} {a5 : Int32} {σ : Sg} {Qk : Int32 → Sg → Prop} (h : ∀ M : Mx, mL M = l → mV M = V → mN M = 8 → Cx M cX11_shift (some .int) RX11 wsX11_shift (rmz 1) 0 0 (QI (mV M) Qk) → PS M 0 [(0, .ref 0), (1, .int a1), (2, .int a2), (3, .int a3), (4, .int a4), (5, .int a5)] [] σ (0, 0)) : K_X11_shift l V a1 a2 a3 a4 a5 σ Qk :=
  Ka_of (by decide +kernel) rfl rfl (Nat.le_of_ble_eq_true rfl) (fun M h1 h2 h3 C => h M h1 h2 h3 (by rw [h2]; exact C))
set_option maxRecDepth 100000 in
set_option maxHeartbeats 4000000 in
theorem s_X11_shift_0 {M : Mx} {Qk : Int32 → Sg → Prop} (C : Cx M cX11_shift (some .int) RX11 wsX11_shift (rmz 1) 0 0 (QI (mV M) Qk)) (hN : mN M = 8) {a1 : Int32} {a2 : Int32} {a3 : Int32} {a4 : Int32} {a5 : Int32} {σ : Sg} (h : K_X11_isTape (mL M) (mV M) a1 σ (fun r2 σ1 => ((r2 = 0 → Qk (-1 : Int32) σ1) ∧ (¬ r2 = 0 → K_X11_isTape (mL M) (mV M) a3 σ1 (fun r5 σ4 => ((¬ r5 = 0 → (vp_in a1 6 ∧ (vp_in a3 6 ∧ K_X9_isEmpty (mL M) (mV M) (52 + 2 * a1.toNatClampNeg) σ4 (fun r10 σ9 => ((¬ r10 = 0 → Qk (-11 : Int32) σ9) ∧ (r10 = 0 → K_X9_isEmpty (mL M) (mV M) (52 + 2 * a3.toNatClampNeg) σ9 (fun r13 σ12 => ((r13 = 0 → (((gi σ12 (52 + 2 * a1.toNatClampNeg) 1) = (gi σ12 (52 + 2 * a3.toNatClampNeg) 1) → K_X9_hasPart (mL M) (mV M) (52 + 2 * a1.toNatClampNeg) a2 a5 σ12 (fun r17 σ16 => ((r17 = 0 → Qk (-13 : Int32) σ16) ∧ (¬ r17 = 0 → K_X9_hasPart (mL M) (mV M) (52 + 2 * a3.toNatClampNeg) a4 a5 σ16 (fun r20 σ19 => ((¬ r20 = 0 → ((¬ a2 < 0 ∧ ¬ a4 < 0 ∧ ¬ a5 < 0 ∧ a2.toNatClampNeg + a5.toNatClampNeg ≤ 60 ∧ a4.toNatClampNeg + a5.toNatClampNeg ≤ 60) ∧ (∀ σ22 : Sg, σ22 = sla σ19 ((52 + 2 * a3.toNatClampNeg) + 1) (va_cpy (σ19.2.1 ((52 + 2 * a1.toNatClampNeg) + 1)) (σ19.2.1 ((52 + 2 * a3.toNatClampNeg) + 1)) a2.toNatClampNeg a4.toNatClampNeg a5.toNatClampNeg) → Qk a5 σ22))) ∧ (r20 = 0 → Qk (-13 : Int32) σ19))))))) ∧ (¬ (gi σ12 (52 + 2 * a1.toNatClampNeg) 1) = (gi σ12 (52 + 2 * a3.toNatClampNeg) 1) → Qk (-12 : Int32) σ12))) ∧ (¬ r13 = 0 → Qk (-11 : Int32) σ12))))))))) ∧ (r5 = 0 → Qk (-1 : Int32) σ4))))))) : PS M 0 [(0, .ref 0), (1, .int a1), (2, .int a2), (3, .int a3), (4, .int a4), (5, .int a5)] [] σ (0, 0) := by
  refine P_iload_n C dX11_shift_0 1 rfl ?_
  refine P_ci (R_f C kf_X11_shift_X11_isTape (As := [.int a1]) rfl (Nat.le_of_ble_eq_true rfl) dX11_shift_1 ⟨Nat.le_refl _, Nat.le_refl _⟩ h) (fun r2 σ1 h => ?_)
  refine P_if_eq C dX11_shift_4 (tgt := 14) (by decide +kernel) (fun q3 => ?_) (fun q3 => ?_)
  · have h := h.1 q3
    refine P_iconst C dX11_shift_14 (v := (-1 : Int32)) rfl ?_
    exact P_iret C dX11_shift_15 h
  · have h := h.2 q3
    refine P_iload_n C dX11_shift_7 3 rfl ?_
    refine P_ci (R_f C kf_X11_shift_X11_isTape (As := [.int a3]) rfl (Nat.le_of_ble_eq_true rfl) dX11_shift_8 ⟨Nat.le_refl _, Nat.le_refl _⟩ h) (fun r5 σ4 h => ?_)
    refine P_if_ne C dX11_shift_11 (tgt := 16) (by decide +kernel) (fun q6 => ?_) (fun q6 => ?_)
    · have h := h.1 q6
      refine P_aload_n C dX11_shift_16 0 rfl ?_
      refine P_getS C (e := 51) fa_X11_shift_47 kd_0 (d := 51) rfl (fxl fx_0) rfl dX11_shift_17 ?_
      refine P_iload_n C dX11_shift_20 1 rfl ?_
      obtain ⟨hv7, h⟩ := h
      refine P_aldTe C (e := (52 + 2 * a1.toNatClampNeg)) kd_51 (fxl fx_51) hv7 rfl dX11_shift_21 ?_
      refine P_astore C dX11_shift_22 (by rw [hN]; decide) rfl ?_
      refine P_aload_n C dX11_shift_24 1 rfl ?_
      refine P_getS C (e := 51) fa_X11_shift_47 kd_0 (d := 51) rfl (fxl fx_0) rfl dX11_shift_25 ?_
      refine P_iload_n C dX11_shift_28 4 rfl ?_
      obtain ⟨hv8, h⟩ := h
      refine P_aldTe C (e := (52 + 2 * a3.toNatClampNeg)) kd_51 (fxl fx_51) hv8 rfl dX11_shift_29 ?_
      refine P_astore C dX11_shift_30 (by rw [hN]; decide) rfl ?_
      refine P_aload C dX11_shift_32 1 rfl ?_
      refine P_ci (R_v (ci := 9) C kv_X11_shift_X9_isEmpty (As := []) rfl (kdT_0 (isT_of hv7)) rfl (fxl (fxT_0 (isT_of hv7))) (Nat.le_of_ble_eq_true rfl) dX11_shift_34 ⟨Nat.le_refl _, Nat.le_refl _⟩ h) (fun r10 σ9 h => ?_)
      refine P_if_ne C dX11_shift_37 (tgt := 48) (by decide +kernel) (fun q11 => ?_) (fun q11 => ?_)
      · have h := h.1 q11
        refine P_bipush C dX11_shift_48 (v := (-11 : Int32)) rfl ?_
        exact P_iret C dX11_shift_50 h
      · have h := h.2 q11
        refine P_aload C dX11_shift_40 0 rfl ?_
        refine P_ci (R_v (ci := 9) C kv_X11_shift_X9_isEmpty (As := []) rfl (kdT_0 (isT_of hv8)) rfl (fxl (fxT_0 (isT_of hv8))) (Nat.le_of_ble_eq_true rfl) dX11_shift_42 ⟨Nat.le_refl _, Nat.le_refl _⟩ h) (fun r13 σ12 h => ?_)
        refine P_if_eq C dX11_shift_45 (tgt := 51) (by decide +kernel) (fun q14 => ?_) (fun q14 => ?_)
        · have h := h.1 q14
          refine P_aload C dX11_shift_51 1 rfl ?_
          refine P_getI C fa_X11_shift_291 (kdT_0 (isT_of hv7)) rfl (fxl (fxT_0 (isT_of hv7))) dX11_shift_53 ?_
          refine P_aload C dX11_shift_56 0 rfl ?_
          refine P_getI C fa_X11_shift_291 (kdT_0 (isT_of hv8)) rfl (fxl (fxT_0 (isT_of hv8))) dX11_shift_58 ?_
          refine P_icmp_eq C dX11_shift_61 (tgt := 67) (by decide +kernel) (fun q15 => ?_) (fun q15 => ?_)
          · have h := h.1 q15
            refine P_aload C dX11_shift_67 1 rfl ?_
            refine P_iload_n C dX11_shift_69 4 rfl ?_
            refine P_iload C dX11_shift_70 7 rfl ?_
            refine P_ci (R_v (ci := 9) C kv_X11_shift_X9_hasPart (As := [.int a2, .int a5]) rfl (kdT_0 (isT_of hv7)) rfl (fxl (fxT_0 (isT_of hv7))) (Nat.le_of_ble_eq_true rfl) dX11_shift_72 ⟨Nat.le_refl _, Nat.le_refl _⟩ h) (fun r17 σ16 h => ?_)
            refine P_if_eq C dX11_shift_75 (tgt := 90) (by decide +kernel) (fun q18 => ?_) (fun q18 => ?_)
            · have h := h.1 q18
              refine P_bipush C dX11_shift_90 (v := (-13 : Int32)) rfl ?_
              exact P_iret C dX11_shift_92 h
            · have h := h.2 q18
              refine P_aload C dX11_shift_78 0 rfl ?_
              refine P_iload C dX11_shift_80 6 rfl ?_
              refine P_iload C dX11_shift_82 7 rfl ?_
              refine P_ci (R_v (ci := 9) C kv_X11_shift_X9_hasPart (As := [.int a4, .int a5]) rfl (kdT_0 (isT_of hv8)) rfl (fxl (fxT_0 (isT_of hv8))) (Nat.le_of_ble_eq_true rfl) dX11_shift_84 ⟨Nat.le_refl _, Nat.le_refl _⟩ h) (fun r20 σ19 h => ?_)
              refine P_if_ne C dX11_shift_87 (tgt := 93) (by decide +kernel) (fun q21 => ?_) (fun q21 => ?_)
              · have h := h.1 q21
                refine P_aload C dX11_shift_93 1 rfl ?_
                refine P_getS C (e := ((52 + 2 * a1.toNatClampNeg) + 1)) fa_X11_shift_297 (kdT_0 (isT_of hv7)) (d := 1) rfl (fxl (fxT_0 (isT_of hv7))) rfl dX11_shift_95 ?_
                refine P_iload_n C dX11_shift_98 4 rfl ?_
                refine P_aload C dX11_shift_99 0 rfl ?_
                refine P_getS C (e := ((52 + 2 * a3.toNatClampNeg) + 1)) fa_X11_shift_297 (kdT_0 (isT_of hv8)) (d := 1) rfl (fxl (fxT_0 (isT_of hv8))) rfl dX11_shift_101 ?_
                refine P_iload C dX11_shift_104 6 rfl ?_
                refine P_iload C dX11_shift_106 7 rfl ?_
                obtain ⟨⟨cq1, cq2, cq3, cq4, cq5⟩, h⟩ := h
                refine P_copyl C kc_X11_shift_217 (kdT_1 (isT_of hv7)) (fxl (fxT_1 (isT_of hv7))) (kdT_1 (isT_of hv8)) (fxl (fxT_1 (isT_of hv8))) cq1 cq2 cq3 cq4 cq5 (by decide +kernel) (Nat.le_of_ble_eq_true rfl) dX11_shift_108 ?_
                refine P_nm (fun σ22 eσ22 => ?_)
                have h := h σ22 eσ22
                refine P_iload C dX11_shift_111 7 rfl ?_
                exact P_iret C dX11_shift_113 h
              · have h := h.2 q21
                refine P_bipush C dX11_shift_90 (v := (-13 : Int32)) rfl ?_
                exact P_iret C dX11_shift_92 h
          · have h := h.2 q15
            refine P_bipush C dX11_shift_64 (v := (-12 : Int32)) rfl ?_
            exact P_iret C dX11_shift_66 h
        · have h := h.2 q14
          refine P_bipush C dX11_shift_48 (v := (-11 : Int32)) rfl ?_
          exact P_iret C dX11_shift_50 h
    · have h := h.2 q6
      refine P_iconst C dX11_shift_14 (v := (-1 : Int32)) rfl ?_
      exact P_iret C dX11_shift_15 h
theorem kf_X11_tape_X11_isTape : KF RX11 wsX11_tape (rmz 2) 285 yX11_isTape wsX11_isTape (rmz 0) 1 := ⟨_, _, _, _, gX11_tape_X11_isTape, rfl, by decide +kernel, by decide +kernel⟩
theorem fa_X11_tape_47 : FA RX11 wsX11_tape 47 11 8 "NineMowers" := by
  show _ ∧ _ ∧ _ ∧ _
  exact ⟨by decide +kernel, fun _ h => List.mem_cons_of_mem _ (List.mem_append_left _ (List.mem_append_right _ h)), List.mem_of_getElem? (i := 1) rfl, Or.inl rfl⟩
theorem kv_X11_tape_X9_becomes : KV RX11 wsX11_tape (rmz 2) 319 RX9 yX9_becomes wsX9_becomes (rmz 1) 2 := ⟨_, _, _, _, gX11_tape_X9_becomes, rfl, by decide +kernel, by decide +kernel⟩
noncomputable def K_X11_tape (l : Launch) (V : Vx) (a1 : Int32) (a2 : Int32) (a3 : Int32) (σ : Sg) (Qk : Int32 → Sg → Prop) : Prop := Ka l V yX11_tape wsX11_tape (rmz 2) 0 0 [.ref 0, .int a1, .int a2, .int a3] σ (QI V Qk)
theorem e_X11_tape {l : Launch} {V : Vx} {a1 : Int32} {a2 : Int32} {a3 : Int32} {σ : Sg} {Qk : Int32 → Sg → Prop} (h : ∀ M : Mx, mL M = l → mV M = V → mN M = 4 → Cx M cX11_tape (some .int) RX11 wsX11_tape (rmz 2) 0 0 (QI (mV M) Qk) → PS M 0 [(0, .ref 0), (1, .int a1), (2, .int a2), (3, .int a3)] [] σ (0, 0)) : K_X11_tape l V a1 a2 a3 σ Qk :=
  Ka_of (by decide +kernel) rfl rfl (Nat.le_of_ble_eq_true rfl) (fun M h1 h2 h3 C => h M h1 h2 h3 (by rw [h2]; exact C))
set_option maxRecDepth 100000 in
set_option maxHeartbeats 4000000 in
theorem s_X11_tape_0 {M : Mx} {Qk : Int32 → Sg → Prop} (C : Cx M cX11_tape (some .int) RX11 wsX11_tape (rmz 2) 0 0 (QI (mV M) Qk)) (hN : mN M = 4) {a1 : Int32} {a2 : Int32} {a3 : Int32} {σ : Sg} (h : K_X11_isTape (mL M) (mV M) a1 σ (fun r2 σ1 => ((¬ r2 = 0 → ((¬ a2 = (-1 : Int32) → ((a2 < (-1 : Int32) → Qk (-2 : Int32) σ1) ∧ (¬ a2 < (-1 : Int32) → (((4 : Int32) < a2 → Qk (-2 : Int32) σ1) ∧ (¬ (4 : Int32) < a2 → ((a3 ≤ (60 : Int32) → ((0 ≤ a3 → (vp_in a1 6 ∧ K_X9_becomes (mL M) (mV M) (52 + 2 * a1.toNatClampNeg) a2 a3 σ1 (fun σ10 => Qk (1 : Int32) σ10))) ∧ (¬ 0 ≤ a3 → Qk (-14 : Int32) σ1))) ∧ (¬ a3 ≤ (60 : Int32) → Qk (-2 : Int32) σ1))))))) ∧ (a2 = (-1 : Int32) → (vp_in a1 6 ∧ K_X9_becomes (mL M) (mV M) (52 + 2 * a1.toNatClampNeg) (-1 : Int32) (0 : Int32) σ1 (fun σ12 => Qk (1 : Int32) σ12))))) ∧ (r2 = 0 → Qk (-1 : Int32) σ1)))) : PS M 0 [(0, .ref 0), (1, .int a1), (2, .int a2), (3, .int a3)] [] σ (0, 0) := by
  refine P_iload_n C dX11_tape_0 1 rfl ?_
  refine P_ci (R_f C kf_X11_tape_X11_isTape (As := [.int a1]) rfl (Nat.le_of_ble_eq_true rfl) dX11_tape_1 ⟨Nat.le_refl _, Nat.le_refl _⟩ h) (fun r2 σ1 h => ?_)
  refine P_if_ne C dX11_tape_4 (tgt := 9) (by decide +kernel) (fun q3 => ?_) (fun q3 => ?_)
  · have h := h.1 q3
    refine P_iload_n C dX11_tape_9 2 rfl ?_
    refine P_iconst C dX11_tape_10 (v := (-1 : Int32)) rfl ?_
    refine P_icmp_ne C dX11_tape_11 (tgt := 27) (by decide +kernel) (fun q4 => ?_) (fun q4 => ?_)
    · have h := h.1 q4
      refine P_iload_n C dX11_tape_27 2 rfl ?_
      refine P_iconst C dX11_tape_28 (v := (-1 : Int32)) rfl ?_
      refine P_icmp_lt C dX11_tape_29 (tgt := 43) (by decide +kernel) (fun q5 => ?_) (fun q5 => ?_)
      · have h := h.1 q5
        refine P_bipush C dX11_tape_43 (v := (-2 : Int32)) rfl ?_
        exact P_iret C dX11_tape_45 h
      · have h := h.2 q5
        refine P_iload_n C dX11_tape_32 2 rfl ?_
        refine P_iconst C dX11_tape_33 (v := (4 : Int32)) rfl ?_
        refine P_icmp_gt C dX11_tape_34 (tgt := 43) (by decide +kernel) (fun q6 => ?_) (fun q6 => ?_)
        · have h := h.1 q6
          refine P_bipush C dX11_tape_43 (v := (-2 : Int32)) rfl ?_
          exact P_iret C dX11_tape_45 h
        · have h := h.2 q6
          refine P_iload_n C dX11_tape_37 3 rfl ?_
          refine P_bipush C dX11_tape_38 (v := (60 : Int32)) rfl ?_
          refine P_icmp_le C dX11_tape_40 (tgt := 46) (by decide +kernel) (fun q7 => ?_) (fun q7 => ?_)
          · have h := h.1 q7
            refine P_iload_n C dX11_tape_46 3 rfl ?_
            refine P_if_ge C dX11_tape_47 (tgt := 53) (by decide +kernel) (fun q8 => ?_) (fun q8 => ?_)
            · have h := h.1 q8
              refine P_aload_n C dX11_tape_53 0 rfl ?_
              refine P_getS C (e := 51) fa_X11_tape_47 kd_0 (d := 51) rfl (fxl fx_0) rfl dX11_tape_54 ?_
              refine P_iload_n C dX11_tape_57 1 rfl ?_
              obtain ⟨hv9, h⟩ := h
              refine P_aldTe C (e := (52 + 2 * a1.toNatClampNeg)) kd_51 (fxl fx_51) hv9 rfl dX11_tape_58 ?_
              refine P_iload_n C dX11_tape_59 2 rfl ?_
              refine P_iload_n C dX11_tape_60 3 rfl ?_
              refine P_cv (R_v (ci := 9) C kv_X11_tape_X9_becomes (As := [.int a2, .int a3]) rfl (kdT_0 (isT_of hv9)) rfl (fxl (fxT_0 (isT_of hv9))) (Nat.le_of_ble_eq_true rfl) dX11_tape_61 ⟨Nat.le_refl _, Nat.le_refl _⟩ h) (fun σ10 h => ?_)
              refine P_iconst C dX11_tape_64 (v := (1 : Int32)) rfl ?_
              exact P_iret C dX11_tape_65 h
            · have h := h.2 q8
              refine P_bipush C dX11_tape_50 (v := (-14 : Int32)) rfl ?_
              exact P_iret C dX11_tape_52 h
          · have h := h.2 q7
            refine P_bipush C dX11_tape_43 (v := (-2 : Int32)) rfl ?_
            exact P_iret C dX11_tape_45 h
    · have h := h.2 q4
      refine P_aload_n C dX11_tape_14 0 rfl ?_
      refine P_getS C (e := 51) fa_X11_tape_47 kd_0 (d := 51) rfl (fxl fx_0) rfl dX11_tape_15 ?_
      refine P_iload_n C dX11_tape_18 1 rfl ?_
      obtain ⟨hv11, h⟩ := h
      refine P_aldTe C (e := (52 + 2 * a1.toNatClampNeg)) kd_51 (fxl fx_51) hv11 rfl dX11_tape_19 ?_
      refine P_iconst C dX11_tape_20 (v := (-1 : Int32)) rfl ?_
      refine P_iconst C dX11_tape_21 (v := (0 : Int32)) rfl ?_
      refine P_cv (R_v (ci := 9) C kv_X11_tape_X9_becomes (As := [.int (-1 : Int32), .int (0 : Int32)]) rfl (kdT_0 (isT_of hv11)) rfl (fxl (fxT_0 (isT_of hv11))) (Nat.le_of_ble_eq_true rfl) dX11_tape_22 ⟨Nat.le_refl _, Nat.le_refl _⟩ h) (fun σ12 h => ?_)
      refine P_iconst C dX11_tape_25 (v := (1 : Int32)) rfl ?_
      exact P_iret C dX11_tape_26 h
  · have h := h.2 q3
    refine P_iconst C dX11_tape_7 (v := (-1 : Int32)) rfl ?_
    exact P_iret C dX11_tape_8 h
theorem fa_X1_strideAt_21 : FA RX1 wsX1_strideAt 21 1 2 "NineMowers$Course" := by
  show _ ∧ _ ∧ _ ∧ _
  exact ⟨by decide +kernel, fun _ h => List.mem_cons_of_mem _ (List.mem_append_left _ (List.mem_append_left _ (List.mem_append_left _ (List.mem_append_left _ (List.mem_append_left _ (List.mem_append_left _ (List.mem_append_left _ (List.mem_append_left _ (List.mem_append_right _ h))))))))), List.mem_of_getElem? (i := 1) rfl, Or.inl rfl⟩
theorem fa_X1_strideAt_11 : FA RX1 wsX1_strideAt 11 1 0 "NineMowers$Course" := by
  show _ ∧ _ ∧ _ ∧ _
  exact ⟨by decide +kernel, fun _ h => List.mem_cons_of_mem _ (List.mem_append_left _ (List.mem_append_left _ (List.mem_append_left _ (List.mem_append_left _ (List.mem_append_left _ (List.mem_append_left _ (List.mem_append_left _ (List.mem_append_left _ (List.mem_append_right _ h))))))))), List.mem_of_getElem? (i := 2) rfl, Or.inl rfl⟩
theorem kv_X1_strideAt_X1_paceAt : KV RX1 wsX1_strideAt (rmz 3) 103 RX1 yX1_paceAt wsX1_paceAt (rmz 2) 1 := ⟨_, _, _, _, gX1_strideAt_X1_paceAt, rfl, by decide +kernel, by decide +kernel⟩
theorem ku_X1_strideAt_X0_strides_106_0 : KU RX1 wsX1_strideAt (rmz 3) 106 RX0 yX0_strides wsX0_strides (rmz 1) 3 := ⟨_, _, _, _, _, _, Or.inr ⟨gX1_strideAt_X0_strides_u106X0, _, _, _, List.mem_of_getElem? (i := 40) rfl⟩, rfl, by decide +kernel, by decide +kernel⟩
theorem ku_X1_strideAt_X3_strides_106_3 : KU RX1 wsX1_strideAt (rmz 3) 106 RX3 yX3_strides wsX3_strides (rmz 1) 3 := ⟨_, _, _, _, _, _, Or.inr ⟨gX1_strideAt_X3_strides_u106X3, _, _, _, List.mem_of_getElem? (i := 40) rfl⟩, rfl, by decide +kernel, by decide +kernel⟩
theorem kv_X1_strideAt_X4_strides_106 : KV RX1 wsX1_strideAt (rmz 3) 106 RX4 yX4_strides wsX4_strides (rmz 0) 3 := ⟨_, _, _, _, gX1_strideAt_X4_strides, rfl, by decide +kernel, by decide +kernel⟩
theorem ku_X1_strideAt_X6_strides_106_6 : KU RX1 wsX1_strideAt (rmz 3) 106 RX6 yX6_strides wsX6_strides (rmz 1) 3 := ⟨_, _, _, _, _, _, Or.inr ⟨gX1_strideAt_X6_strides_u106X6, _, _, _, List.mem_of_getElem? (i := 40) rfl⟩, rfl, by decide +kernel, by decide +kernel⟩
theorem ku_X1_strideAt_X7_strides_106_7 : KU RX1 wsX1_strideAt (rmz 3) 106 RX7 yX7_strides wsX7_strides (rmz 2) 3 := ⟨_, _, _, _, _, _, Or.inr ⟨gX1_strideAt_X7_strides_u106X7, _, _, _, List.mem_of_getElem? (i := 40) rfl⟩, rfl, by decide +kernel, by decide +kernel⟩
theorem ku_X1_strideAt_X8_strides_106_8 : KU RX1 wsX1_strideAt (rmz 3) 106 RX8 yX8_strides wsX8_strides (rmz 0) 3 := ⟨_, _, _, _, _, _, Or.inr ⟨gX1_strideAt_X8_strides_u106X8, _, _, _, List.mem_of_getElem? (i := 40) rfl⟩, rfl, by decide +kernel, by decide +kernel⟩
theorem ku_X1_strideAt_X10_strides_106_10 : KU RX1 wsX1_strideAt (rmz 3) 106 RX10 yX10_strides wsX10_strides (rmz 2) 3 := ⟨_, _, _, _, _, _, Or.inr ⟨gX1_strideAt_X10_strides_u106X10, _, _, _, List.mem_of_getElem? (i := 40) rfl⟩, rfl, by decide +kernel, by decide +kernel⟩
theorem fa_X1_strideAt_31 : FA RX1 wsX1_strideAt 31 1 5 "NineMowers$Course" := by
  show _ ∧ _ ∧ _ ∧ _
  exact ⟨by decide +kernel, fun _ h => List.mem_cons_of_mem _ (List.mem_append_left _ (List.mem_append_left _ (List.mem_append_left _ (List.mem_append_left _ (List.mem_append_left _ (List.mem_append_left _ (List.mem_append_left _ (List.mem_append_left _ (List.mem_append_right _ h))))))))), List.mem_of_getElem? (i := 3) rfl, Or.inl rfl⟩
noncomputable def K_X1_strideAt (l : Launch) (V : Vx) (c0 : Nat) (a1 : Int32) (σ : Sg) (Qk : Int32 → Sg → Prop) : Prop := Ka l V yX1_strideAt wsX1_strideAt (rmz 3) 0 0 [.ref c0, .int a1] σ (QI V Qk)
theorem e_X1_strideAt {l : Launch} {V : Vx} {c0 : Nat} {a1 : Int32} {σ : Sg} {Qk : Int32 → Sg → Prop} (h : ∀ M : Mx, mL M = l → mV M = V → mN M = 4 → Cx M cX1_strideAt (some .int) RX1 wsX1_strideAt (rmz 3) 0 0 (QI (mV M) Qk) → PS M 0 [(0, .ref c0), (1, .int a1)] [] σ (0, 0)) : K_X1_strideAt l V c0 a1 σ Qk :=
  Ka_of (by decide +kernel) rfl rfl (Nat.le_of_ble_eq_true rfl) (fun M h1 h2 h3 C => h M h1 h2 h3 (by rw [h2]; exact C))
set_option maxRecDepth 100000 in
set_option maxHeartbeats 4000000 in
theorem s_X1_strideAt_0 {M : Mx} {Qk : Int32 → Sg → Prop} (C : Cx M cX1_strideAt (some .int) RX1 wsX1_strideAt (rmz 3) 0 0 (QI (mV M) Qk)) (hN : mN M = 4) {c0 : Nat} {a1 : Int32} (hc0 : isC c0) {σ : Sg} (h : (vp_in a1 6 ∧ (∀ v2 : Int32, v2 = gi σ (c0 + 2) a1.toNatClampNeg → (vp_in v2 6 ∧ (∃ (μ4 ci4 : Nat), gr σ (c0 + 1) v2.toNatClampNeg = some μ4 ∧ isMc ci4 ∧ kd μ4 = (10 + ci4, 0) ∧ μ4 ∈ ids (mV M) ∧ K_X1_paceAt (mL M) (mV M) c0 a1 σ (fun r6 σ5 => KD_strides (mL M) (mV M) ci4 μ4 r6 c0 a1 σ5 (fun r8 σ7 => (vp_in v2 6 ∧ ((¬ (gi σ7 (c0 + 4) v2.toNatClampNeg) = 0 → Qk r8 σ7) ∧ ((gi σ7 (c0 + 4) v2.toNatClampNeg) = 0 → Qk (r8 / (2 : Int32)) σ7)))))))))) : PS M 0 [(0, .ref c0), (1, .int a1)] [] σ (0, 0) := by
  refine P_aload_n C dX1_strideAt_0 0 rfl ?_
  refine P_getS C (e := (c0 + 2)) fa_X1_strideAt_21 (kdC_0 hc0) (d := 2) rfl (fxl (fxC_0 hc0)) rfl dX1_strideAt_1 ?_
  refine P_iload_n C dX1_strideAt_4 1 rfl ?_
  obtain ⟨hv1, h⟩ := h
  refine P_iald C (kdC_2 hc0) (fxl (fxC_2 hc0)) hv1 dX1_strideAt_5 ?_
  refine P_nmi (fun v2 ev2 => ?_)
  have h := h v2 ev2
  refine P_istore_n C dX1_strideAt_6 (by rw [hN]; decide) rfl ?_
  refine P_aload_n C dX1_strideAt_7 1 rfl ?_
  refine P_getS C (e := (c0 + 1)) fa_X1_strideAt_11 (kdC_0 hc0) (d := 1) rfl (fxl (fxC_0 hc0)) rfl dX1_strideAt_8 ?_
  refine P_iload_n C dX1_strideAt_11 0 rfl ?_
  obtain ⟨hv3, μ4, ci4, hrμ4, sμ4, hμ4, lμ4, h⟩ := h
  refine P_aldD C (kdC_1 hc0) (Or.inl rfl) (fxl (fxC_1 hc0)) hv3 hrμ4 dX1_strideAt_12 ?_
  refine P_aload_n C dX1_strideAt_13 1 rfl ?_
  refine P_iload_n C dX1_strideAt_14 2 rfl ?_
  refine P_ci (R_v (ci := 1) C kv_X1_strideAt_X1_paceAt (As := [.int a1]) rfl (kdC_0 hc0) rfl (fxl (fxC_0 hc0)) (Nat.le_of_ble_eq_true rfl) dX1_strideAt_15 ⟨Nat.le_refl _, Nat.le_refl _⟩ h) (fun r6 σ5 h => ?_)
  refine P_aload_n C dX1_strideAt_18 1 rfl ?_
  refine P_iload_n C dX1_strideAt_19 2 rfl ?_
  have key : ∀ Qz, KD_strides (mL M) (mV M) ci4 μ4 r6 c0 a1 σ5 Qz → RS M 20 [(2, .int v2), (0, .ref c0), (1, .int a1)] [.int a1, .ref c0, .int r6, .ref μ4] [] σ5 (0, 0) 0 0 (QI (mV M) Qz (([.ref μ4, .int r6, .ref c0, .int a1] : List Value).map (cv (mV M))).toArray) := by
    intro Qz h
    rcases sμ4 with rfl | rfl | rfl | rfl | rfl | rfl | rfl
    · exact R_u (ci := 0) C ku_X1_strideAt_X0_strides_106_0 (As := [.int r6, .ref c0, .int a1]) rfl hμ4 rfl lμ4 (Nat.le_of_ble_eq_true rfl) dX1_strideAt_20 ⟨Nat.le_refl _, Nat.le_refl _⟩ (h.1 rfl)
    · exact R_u (ci := 3) C ku_X1_strideAt_X3_strides_106_3 (As := [.int r6, .ref c0, .int a1]) rfl hμ4 rfl lμ4 (Nat.le_of_ble_eq_true rfl) dX1_strideAt_20 ⟨Nat.le_refl _, Nat.le_refl _⟩ (h.2.1 rfl)
    · exact R_v (ci := 4) C kv_X1_strideAt_X4_strides_106 (As := [.int r6, .ref c0, .int a1]) rfl hμ4 rfl lμ4 (Nat.le_of_ble_eq_true rfl) dX1_strideAt_20 ⟨Nat.le_refl _, Nat.le_refl _⟩ (h.2.2.1 rfl)
    · exact R_u (ci := 6) C ku_X1_strideAt_X6_strides_106_6 (As := [.int r6, .ref c0, .int a1]) rfl hμ4 rfl lμ4 (Nat.le_of_ble_eq_true rfl) dX1_strideAt_20 ⟨Nat.le_refl _, Nat.le_refl _⟩ (h.2.2.2.1 rfl)
    · exact R_u (ci := 7) C ku_X1_strideAt_X7_strides_106_7 (As := [.int r6, .ref c0, .int a1]) rfl hμ4 rfl lμ4 (Nat.le_of_ble_eq_true rfl) dX1_strideAt_20 ⟨Nat.le_refl _, Nat.le_refl _⟩ (h.2.2.2.2.1 rfl)
    · exact R_u (ci := 8) C ku_X1_strideAt_X8_strides_106_8 (As := [.int r6, .ref c0, .int a1]) rfl hμ4 rfl lμ4 (Nat.le_of_ble_eq_true rfl) dX1_strideAt_20 ⟨Nat.le_refl _, Nat.le_refl _⟩ (h.2.2.2.2.2.1 rfl)
    · exact R_u (ci := 10) C ku_X1_strideAt_X10_strides_106_10 (As := [.int r6, .ref c0, .int a1]) rfl hμ4 rfl lμ4 (Nat.le_of_ble_eq_true rfl) dX1_strideAt_20 ⟨Nat.le_refl _, Nat.le_refl _⟩ (h.2.2.2.2.2.2 rfl)
  refine P_ci (key _ h) (fun r8 σ7 h => ?_)
  refine P_istore_n C dX1_strideAt_23 (by rw [hN]; decide) rfl ?_
  refine P_aload_n C dX1_strideAt_24 2 rfl ?_
  refine P_getS C (e := (c0 + 4)) fa_X1_strideAt_31 (kdC_0 hc0) (d := 4) rfl (fxl (fxC_0 hc0)) rfl dX1_strideAt_25 ?_
  refine P_iload_n C dX1_strideAt_28 1 rfl ?_
  obtain ⟨hv9, h⟩ := h
  refine P_iald C (kdC_4 hc0) (fxl (fxC_4 hc0)) hv9 dX1_strideAt_29 ?_
  refine P_if_ne C dX1_strideAt_30 (tgt := 39) (by decide +kernel) (fun q10 => ?_) (fun q10 => ?_)
  · have h := h.1 q10
    refine P_iload_n C dX1_strideAt_39 0 rfl ?_
    exact P_iret C dX1_strideAt_40 h
  · have h := h.2 q10
    refine P_iload_n C dX1_strideAt_33 0 rfl ?_
    refine P_iconst C dX1_strideAt_34 (v := (2 : Int32)) rfl ?_
    refine P_idiv C dX1_strideAt_35 (by decide +kernel) ?_
    refine P_goto C dX1_strideAt_36 (tgt := 40) (by decide +kernel) ?_
    exact P_iret C dX1_strideAt_40 h
theorem fa_X11_whet_12 : FA RX11 wsX11_whet 12 11 0 "NineMowers" := by
  show _ ∧ _ ∧ _ ∧ _
  exact ⟨by decide +kernel, fun _ h => List.mem_cons_of_mem _ (List.mem_append_left _ (List.mem_append_right _ h)), List.mem_of_getElem? (i := 1) rfl, Or.inl rfl⟩
theorem fa_X11_whet_165 : FA RX11 wsX11_whet 165 1 9 "NineMowers$Course" := by
  show _ ∧ _ ∧ _ ∧ _
  exact ⟨by decide +kernel, fun _ h => List.mem_cons_of_mem _ (List.mem_append_right _ h), List.mem_of_getElem? (i := 2) rfl, Or.inl rfl⟩
theorem kv_X11_whet_X1_whetsAll : KV RX11 wsX11_whet (rmz 3) 183 RX1 yX1_whetsAll wsX1_whetsAll (rmz 2) 0 := ⟨_, _, _, _, gX11_whet_X1_whetsAll, rfl, by decide +kernel, by decide +kernel⟩
noncomputable def K_X11_whet (l : Launch) (V : Vx) (σ : Sg) (Qk : Int32 → Sg → Prop) : Prop := Ka l V yX11_whet wsX11_whet (rmz 3) 0 0 [.ref 0] σ (QI V Qk)
theorem e_X11_whet {l : Launch} {V : Vx} {σ : Sg} {Qk : Int32 → Sg → Prop} (h : ∀ M : Mx, mL M = l → mV M = V → mN M = 1 → Cx M cX11_whet (some .int) RX11 wsX11_whet (rmz 3) 0 0 (QI (mV M) Qk) → PS M 0 [(0, .ref 0)] [] σ (0, 0)) : K_X11_whet l V σ Qk :=
  Ka_of (by decide +kernel) rfl rfl (Nat.le_of_ble_eq_true rfl) (fun M h1 h2 h3 C => h M h1 h2 h3 (by rw [h2]; exact C))
set_option maxRecDepth 100000 in
set_option maxHeartbeats 4000000 in
theorem s_X11_whet_0 {M : Mx} {Qk : Int32 → Sg → Prop} (C : Cx M cX11_whet (some .int) RX11 wsX11_whet (rmz 3) 0 0 (QI (mV M) Qk)) (hN : mN M = 1) {σ : Sg} (h : (((gi σ 1 9) < (9999 : Int32) → K_X1_whetsAll (mL M) (mV M) 1 σ (fun σ2 => Qk (gi σ2 1 9) σ2)) ∧ (¬ (gi σ 1 9) < (9999 : Int32) → Qk (-3 : Int32) σ))) : PS M 0 [(0, .ref 0)] [] σ (0, 0) := by
  refine P_aload_n C dX11_whet_0 0 rfl ?_
  refine P_getS C (e := 1) fa_X11_whet_12 kd_0 (d := 1) rfl (fxl fx_0) rfl dX11_whet_1 ?_
  refine P_getI C fa_X11_whet_165 kd_1 rfl (fxl fx_1) dX11_whet_4 ?_
  refine P_sipush C dX11_whet_7 (v := (9999 : Int32)) rfl ?_
  refine P_icmp_lt C dX11_whet_10 (tgt := 16) (by decide +kernel) (fun q1 => ?_) (fun q1 => ?_)
  · have h := h.1 q1
    refine P_aload_n C dX11_whet_16 0 rfl ?_
    refine P_getS C (e := 1) fa_X11_whet_12 kd_0 (d := 1) rfl (fxl fx_0) rfl dX11_whet_17 ?_
    refine P_cv (R_v (ci := 1) C kv_X11_whet_X1_whetsAll (As := []) rfl kd_1 rfl (fxl fx_1) (Nat.le_of_ble_eq_true rfl) dX11_whet_20 ⟨Nat.le_refl _, Nat.le_refl _⟩ h) (fun σ2 h => ?_)
    refine P_aload_n C dX11_whet_23 0 rfl ?_
    refine P_getS C (e := 1) fa_X11_whet_12 kd_0 (d := 1) rfl (fxl fx_0) rfl dX11_whet_24 ?_
    refine P_getI C fa_X11_whet_165 kd_1 rfl (fxl fx_1) dX11_whet_27 ?_
    exact P_iret C dX11_whet_30 h
  · have h := h.2 q1
    refine P_bipush C dX11_whet_13 (v := (-3 : Int32)) rfl ?_
    exact P_iret C dX11_whet_15 h
theorem fa_X11_pause_12 : FA RX11 wsX11_pause 12 11 0 "NineMowers" := by
  show _ ∧ _ ∧ _ ∧ _
  exact ⟨by decide +kernel, fun _ h => List.mem_cons_of_mem _ (List.mem_append_left _ (List.mem_append_right _ h)), List.mem_of_getElem? (i := 1) rfl, Or.inl rfl⟩
theorem fa_X11_pause_165 : FA RX11 wsX11_pause 165 1 9 "NineMowers$Course" := by
  show _ ∧ _ ∧ _ ∧ _
  exact ⟨by decide +kernel, fun _ h => List.mem_cons_of_mem _ (List.mem_append_right _ h), List.mem_of_getElem? (i := 2) rfl, Or.inl rfl⟩
theorem kv_X11_pause_X1_rests : KV RX11 wsX11_pause (rmz 3) 186 RX1 yX1_rests wsX1_rests (rmz 2) 1 := ⟨_, _, _, _, gX11_pause_X1_rests, rfl, by decide +kernel, by decide +kernel⟩
noncomputable def K_X11_pause (l : Launch) (V : Vx) (a1 : Int32) (σ : Sg) (Qk : Int32 → Sg → Prop) : Prop := Ka l V yX11_pause wsX11_pause (rmz 3) 0 0 [.ref 0, .int a1] σ (QI V Qk)
theorem e_X11_pause {l : Launch} {V : Vx} {a1 : Int32} {σ : Sg} {Qk : Int32 → Sg → Prop} (h : ∀ M : Mx, mL M = l → mV M = V → mN M = 2 → Cx M cX11_pause (some .int) RX11 wsX11_pause (rmz 3) 0 0 (QI (mV M) Qk) → PS M 0 [(0, .ref 0), (1, .int a1)] [] σ (0, 0)) : K_X11_pause l V a1 σ Qk :=
  Ka_of (by decide +kernel) rfl rfl (Nat.le_of_ble_eq_true rfl) (fun M h1 h2 h3 C => h M h1 h2 h3 (by rw [h2]; exact C))
set_option maxRecDepth 100000 in
set_option maxHeartbeats 4000000 in
theorem s_X11_pause_0 {M : Mx} {Qk : Int32 → Sg → Prop} (C : Cx M cX11_pause (some .int) RX11 wsX11_pause (rmz 3) 0 0 (QI (mV M) Qk)) (hN : mN M = 2) {a1 : Int32} {σ : Sg} (h : ((a1 < (1 : Int32) → Qk (-2 : Int32) σ) ∧ (¬ a1 < (1 : Int32) → ((a1 ≤ (60 : Int32) → ((((gi σ 1 9) + a1) ≤ (9999 : Int32) → K_X1_rests (mL M) (mV M) 1 a1 σ (fun σ4 => Qk (gi σ4 1 9) σ4)) ∧ (¬ ((gi σ 1 9) + a1) ≤ (9999 : Int32) → Qk (-3 : Int32) σ))) ∧ (¬ a1 ≤ (60 : Int32) → Qk (-2 : Int32) σ))))) : PS M 0 [(0, .ref 0), (1, .int a1)] [] σ (0, 0) := by
  refine P_iload_n C dX11_pause_0 1 rfl ?_
  refine P_iconst C dX11_pause_1 (v := (1 : Int32)) rfl ?_
  refine P_icmp_lt C dX11_pause_2 (tgt := 11) (by decide +kernel) (fun q1 => ?_) (fun q1 => ?_)
  · have h := h.1 q1
    refine P_bipush C dX11_pause_11 (v := (-2 : Int32)) rfl ?_
    exact P_iret C dX11_pause_13 h
  · have h := h.2 q1
    refine P_iload_n C dX11_pause_5 1 rfl ?_
    refine P_bipush C dX11_pause_6 (v := (60 : Int32)) rfl ?_
    refine P_icmp_le C dX11_pause_8 (tgt := 14) (by decide +kernel) (fun q2 => ?_) (fun q2 => ?_)
    · have h := h.1 q2
      refine P_aload_n C dX11_pause_14 0 rfl ?_
      refine P_getS C (e := 1) fa_X11_pause_12 kd_0 (d := 1) rfl (fxl fx_0) rfl dX11_pause_15 ?_
      refine P_getI C fa_X11_pause_165 kd_1 rfl (fxl fx_1) dX11_pause_18 ?_
      refine P_iload_n C dX11_pause_21 1 rfl ?_
      refine P_iadd C dX11_pause_22 ?_
      refine P_sipush C dX11_pause_23 (v := (9999 : Int32)) rfl ?_
      refine P_icmp_le C dX11_pause_26 (tgt := 32) (by decide +kernel) (fun q3 => ?_) (fun q3 => ?_)
      · have h := h.1 q3
        refine P_aload_n C dX11_pause_32 0 rfl ?_
        refine P_getS C (e := 1) fa_X11_pause_12 kd_0 (d := 1) rfl (fxl fx_0) rfl dX11_pause_33 ?_
        refine P_iload_n C dX11_pause_36 1 rfl ?_
        refine P_cv (R_v (ci := 1) C kv_X11_pause_X1_rests (As := [.int a1]) rfl kd_1 rfl (fxl fx_1) (Nat.le_of_ble_eq_true rfl) dX11_pause_37 ⟨Nat.le_refl _, Nat.le_refl _⟩ h) (fun σ4 h => ?_)
        refine P_aload_n C dX11_pause_40 0 rfl ?_
        refine P_getS C (e := 1) fa_X11_pause_12 kd_0 (d := 1) rfl (fxl fx_0) rfl dX11_pause_41 ?_
        refine P_getI C fa_X11_pause_165 kd_1 rfl (fxl fx_1) dX11_pause_44 ?_
        exact P_iret C dX11_pause_47 h
      · have h := h.2 q3
        refine P_bipush C dX11_pause_29 (v := (-3 : Int32)) rfl ?_
        exact P_iret C dX11_pause_31 h
    · have h := h.2 q2
      refine P_bipush C dX11_pause_11 (v := (-2 : Int32)) rfl ?_
      exact P_iret C dX11_pause_13 h
theorem fa_X11_image_18 : FA RX11 wsX11_image 18 11 1 "NineMowers" := by
  show _ ∧ _ ∧ _ ∧ _
  exact ⟨by decide +kernel, fun _ h => List.mem_cons_of_mem _ (List.mem_append_left _ (List.mem_append_left _ (List.mem_append_right _ h))), List.mem_of_getElem? (i := 1) rfl, Or.inl rfl⟩
theorem fa_X11_image_12 : FA RX11 wsX11_image 12 11 0 "NineMowers" := by
  show _ ∧ _ ∧ _ ∧ _
  exact ⟨by decide +kernel, fun _ h => List.mem_cons_of_mem _ (List.mem_append_left _ (List.mem_append_left _ (List.mem_append_right _ h))), List.mem_of_getElem? (i := 2) rfl, Or.inl rfl⟩
theorem kv_X11_image_X1_becomes : KV RX11 wsX11_image (rmz 3) 189 RX1 yX1_becomes wsX1_becomes (rmz 1) 1 := ⟨_, _, _, _, gX11_image_X1_becomes, rfl, by decide +kernel, by decide +kernel⟩
theorem kv_X11_image_X1_becomesTold : KV RX11 wsX11_image (rmz 3) 301 RX1 yX1_becomesTold wsX1_becomesTold (rmz 2) 1 := ⟨_, _, _, _, gX11_image_X1_becomesTold, rfl, by decide +kernel, by decide +kernel⟩
theorem pa_X11_image_24 : PA RX11 wsX11_image 24 11 3 "NineMowers" .boolean := by
  show _ ∧ _ ∧ _ ∧ _ ∧ _ ∧ _ ∧ _ ∧ _
  exact ⟨by decide +kernel, fun _ h => List.mem_cons_of_mem _ (List.mem_append_left _ (List.mem_append_left _ (List.mem_append_right _ h))), List.mem_of_getElem? (i := 3) rfl, rfl, rfl, by decide +kernel, ⟨tyX11, tyX11_ok⟩, nmX11⟩
theorem fa_X11_image_76 : FA RX11 wsX11_image 76 1 1 "NineMowers$Course" := by
  show _ ∧ _ ∧ _ ∧ _
  exact ⟨by decide +kernel, fun _ h => List.mem_cons_of_mem _ (List.mem_append_left _ (List.mem_append_right _ h)), List.mem_of_getElem? (i := 4) rfl, Or.inl rfl⟩
noncomputable def K_X11_image (l : Launch) (V : Vx) (σ : Sg) (Qk : Int32 → Sg → Prop) : Prop := Ka l V yX11_image wsX11_image (rmz 3) 0 0 [.ref 0] σ (QI V Qk)
theorem e_X11_image {l : Launch} {V : Vx} {σ : Sg} {Qk : Int32 → Sg → Prop} (h : ∀ M : Mx, mL M = l → mV M = V → mN M = 1 → Cx M cX11_image (some .int) RX11 wsX11_image (rmz 3) 0 0 (QI (mV M) Qk) → PS M 0 [(0, .ref 0)] [] σ (0, 0)) : K_X11_image l V σ Qk :=
  Ka_of (by decide +kernel) rfl rfl (Nat.le_of_ble_eq_true rfl) (fun M h1 h2 h3 C => h M h1 h2 h3 (by rw [h2]; exact C))
set_option maxRecDepth 100000 in
set_option maxHeartbeats 4000000 in
theorem s_X11_image_0 {M : Mx} {Qk : Int32 → Sg → Prop} (C : Cx M cX11_image (some .int) RX11 wsX11_image (rmz 3) 0 0 (QI (mV M) Qk)) (hN : mN M = 1) {σ : Sg} (h : K_X1_becomes (mL M) (mV M) 17 1 σ (fun σ1 => K_X1_becomesTold (mL M) (mV M) 17 1 σ1 (fun σ2 => (∀ σ3 : Sg, σ3 = si σ2 0 3 (1 : Int32) → Qk (gi σ3 1 1) σ3)))) : PS M 0 [(0, .ref 0)] [] σ (0, 0) := by
  refine P_aload_n C dX11_image_0 0 rfl ?_
  refine P_getS C (e := 17) fa_X11_image_18 kd_0 (d := 17) rfl (fxl fx_0) rfl dX11_image_1 ?_
  refine P_aload_n C dX11_image_4 0 rfl ?_
  refine P_getS C (e := 1) fa_X11_image_12 kd_0 (d := 1) rfl (fxl fx_0) rfl dX11_image_5 ?_
  refine P_cv (R_v (ci := 1) C kv_X11_image_X1_becomes (As := [.ref 1]) rfl kd_17 rfl (fxl fx_17) (Nat.le_of_ble_eq_true rfl) dX11_image_8 ⟨Nat.le_refl _, Nat.le_refl _⟩ h) (fun σ1 h => ?_)
  refine P_aload_n C dX11_image_11 0 rfl ?_
  refine P_getS C (e := 17) fa_X11_image_18 kd_0 (d := 17) rfl (fxl fx_0) rfl dX11_image_12 ?_
  refine P_aload_n C dX11_image_15 0 rfl ?_
  refine P_getS C (e := 1) fa_X11_image_12 kd_0 (d := 1) rfl (fxl fx_0) rfl dX11_image_16 ?_
  refine P_cv (R_v (ci := 1) C kv_X11_image_X1_becomesTold (As := [.ref 1]) rfl kd_17 rfl (fxl fx_17) (Nat.le_of_ble_eq_true rfl) dX11_image_19 ⟨Nat.le_refl _, Nat.le_refl _⟩ h) (fun σ2 h => ?_)
  refine P_aload_n C dX11_image_22 0 rfl ?_
  refine P_iconst C dX11_image_23 (v := (1 : Int32)) rfl ?_
  refine P_putZ C pa_X11_image_24 kd_0 rfl (fxl fx_0) (by decide +kernel) (by decide +kernel) dX11_image_24 ?_
  refine P_nm (fun σ3 eσ3 => ?_)
  have h := h σ3 eσ3
  refine P_aload_n C dX11_image_27 0 rfl ?_
  refine P_getS C (e := 1) fa_X11_image_12 kd_0 (d := 1) rfl (fxl fx_0) rfl dX11_image_28 ?_
  refine P_getI C fa_X11_image_76 kd_1 rfl (fxl fx_1) dX11_image_31 ?_
  exact P_iret C dX11_image_34 h
theorem fa_X11_undo_24 : FA RX11 wsX11_undo 24 11 3 "NineMowers" := by
  show _ ∧ _ ∧ _ ∧ _
  exact ⟨by decide +kernel, fun _ h => List.mem_cons_of_mem _ (List.mem_append_left _ (List.mem_append_left _ (List.mem_append_right _ h))), List.mem_of_getElem? (i := 1) rfl, Or.inl rfl⟩
theorem fa_X11_undo_12 : FA RX11 wsX11_undo 12 11 0 "NineMowers" := by
  show _ ∧ _ ∧ _ ∧ _
  exact ⟨by decide +kernel, fun _ h => List.mem_cons_of_mem _ (List.mem_append_left _ (List.mem_append_left _ (List.mem_append_right _ h))), List.mem_of_getElem? (i := 2) rfl, Or.inl rfl⟩
theorem fa_X11_undo_18 : FA RX11 wsX11_undo 18 11 1 "NineMowers" := by
  show _ ∧ _ ∧ _ ∧ _
  exact ⟨by decide +kernel, fun _ h => List.mem_cons_of_mem _ (List.mem_append_left _ (List.mem_append_left _ (List.mem_append_right _ h))), List.mem_of_getElem? (i := 3) rfl, Or.inl rfl⟩
theorem kv_X11_undo_X1_becomes : KV RX11 wsX11_undo (rmz 3) 189 RX1 yX1_becomes wsX1_becomes (rmz 1) 1 := ⟨_, _, _, _, gX11_undo_X1_becomes, rfl, by decide +kernel, by decide +kernel⟩
theorem kv_X11_undo_X1_becomesTold : KV RX11 wsX11_undo (rmz 3) 301 RX1 yX1_becomesTold wsX1_becomesTold (rmz 2) 1 := ⟨_, _, _, _, gX11_undo_X1_becomesTold, rfl, by decide +kernel, by decide +kernel⟩
theorem fa_X11_undo_76 : FA RX11 wsX11_undo 76 1 1 "NineMowers$Course" := by
  show _ ∧ _ ∧ _ ∧ _
  exact ⟨by decide +kernel, fun _ h => List.mem_cons_of_mem _ (List.mem_append_left _ (List.mem_append_right _ h)), List.mem_of_getElem? (i := 4) rfl, Or.inl rfl⟩
noncomputable def K_X11_undo (l : Launch) (V : Vx) (σ : Sg) (Qk : Int32 → Sg → Prop) : Prop := Ka l V yX11_undo wsX11_undo (rmz 3) 0 0 [.ref 0] σ (QI V Qk)
theorem e_X11_undo {l : Launch} {V : Vx} {σ : Sg} {Qk : Int32 → Sg → Prop} (h : ∀ M : Mx, mL M = l → mV M = V → mN M = 1 → Cx M cX11_undo (some .int) RX11 wsX11_undo (rmz 3) 0 0 (QI (mV M) Qk) → PS M 0 [(0, .ref 0)] [] σ (0, 0)) : K_X11_undo l V σ Qk :=
  Ka_of (by decide +kernel) rfl rfl (Nat.le_of_ble_eq_true rfl) (fun M h1 h2 h3 C => h M h1 h2 h3 (by rw [h2]; exact C))
set_option maxRecDepth 100000 in
set_option maxHeartbeats 4000000 in
theorem s_X11_undo_0 {M : Mx} {Qk : Int32 → Sg → Prop} (C : Cx M cX11_undo (some .int) RX11 wsX11_undo (rmz 3) 0 0 (QI (mV M) Qk)) (hN : mN M = 1) {σ : Sg} (h : ((¬ (gi σ 0 3) = 0 → K_X1_becomes (mL M) (mV M) 1 17 σ (fun σ2 => K_X1_becomesTold (mL M) (mV M) 1 17 σ2 (fun σ3 => Qk (gi σ3 1 1) σ3))) ∧ ((gi σ 0 3) = 0 → Qk (-3 : Int32) σ))) : PS M 0 [(0, .ref 0)] [] σ (0, 0) := by
  refine P_aload_n C dX11_undo_0 0 rfl ?_
  refine P_getI C fa_X11_undo_24 kd_0 rfl (fxl fx_0) dX11_undo_1 ?_
  refine P_if_ne C dX11_undo_4 (tgt := 10) (by decide +kernel) (fun q1 => ?_) (fun q1 => ?_)
  · have h := h.1 q1
    refine P_aload_n C dX11_undo_10 0 rfl ?_
    refine P_getS C (e := 1) fa_X11_undo_12 kd_0 (d := 1) rfl (fxl fx_0) rfl dX11_undo_11 ?_
    refine P_aload_n C dX11_undo_14 0 rfl ?_
    refine P_getS C (e := 17) fa_X11_undo_18 kd_0 (d := 17) rfl (fxl fx_0) rfl dX11_undo_15 ?_
    refine P_cv (R_v (ci := 1) C kv_X11_undo_X1_becomes (As := [.ref 17]) rfl kd_1 rfl (fxl fx_1) (Nat.le_of_ble_eq_true rfl) dX11_undo_18 ⟨Nat.le_refl _, Nat.le_refl _⟩ h) (fun σ2 h => ?_)
    refine P_aload_n C dX11_undo_21 0 rfl ?_
    refine P_getS C (e := 1) fa_X11_undo_12 kd_0 (d := 1) rfl (fxl fx_0) rfl dX11_undo_22 ?_
    refine P_aload_n C dX11_undo_25 0 rfl ?_
    refine P_getS C (e := 17) fa_X11_undo_18 kd_0 (d := 17) rfl (fxl fx_0) rfl dX11_undo_26 ?_
    refine P_cv (R_v (ci := 1) C kv_X11_undo_X1_becomesTold (As := [.ref 17]) rfl kd_1 rfl (fxl fx_1) (Nat.le_of_ble_eq_true rfl) dX11_undo_29 ⟨Nat.le_refl _, Nat.le_refl _⟩ h) (fun σ3 h => ?_)
    refine P_aload_n C dX11_undo_32 0 rfl ?_
    refine P_getS C (e := 1) fa_X11_undo_12 kd_0 (d := 1) rfl (fxl fx_0) rfl dX11_undo_33 ?_
    refine P_getI C fa_X11_undo_76 kd_1 rfl (fxl fx_1) dX11_undo_36 ?_
    exact P_iret C dX11_undo_39 h
  · have h := h.2 q1
    refine P_bipush C dX11_undo_7 (v := (-3 : Int32)) rfl ?_
    exact P_iret C dX11_undo_9 h
theorem fa_X1_goesMinute_25 : FA RX1 wsX1_goesMinute 25 1 3 "NineMowers$Course" := by
  show _ ∧ _ ∧ _ ∧ _
  exact ⟨by decide +kernel, fun _ h => List.mem_cons_of_mem _ (List.mem_append_left _ (List.mem_append_left _ (List.mem_append_left _ (List.mem_append_left _ (List.mem_append_left _ (List.mem_append_left _ (List.mem_append_left _ (List.mem_append_left _ (List.mem_append_right _ h))))))))), List.mem_of_getElem? (i := 1) rfl, Or.inl rfl⟩
theorem fa_X1_goesMinute_68 : FA RX1 wsX1_goesMinute 68 1 15 "NineMowers$Course" := by
  show _ ∧ _ ∧ _ ∧ _
  exact ⟨by decide +kernel, fun _ h => List.mem_cons_of_mem _ (List.mem_append_left _ (List.mem_append_left _ (List.mem_append_left _ (List.mem_append_left _ (List.mem_append_left _ (List.mem_append_left _ (List.mem_append_left _ (List.mem_append_left _ (List.mem_append_right _ h))))))))), List.mem_of_getElem? (i := 2) rfl, Or.inl rfl⟩
theorem kv_X1_goesMinute_X1_strideAt : KV RX1 wsX1_goesMinute (rmz 4) 115 RX1 yX1_strideAt wsX1_strideAt (rmz 3) 1 := ⟨_, _, _, _, gX1_goesMinute_X1_strideAt, rfl, by decide +kernel, by decide +kernel⟩
theorem fa_X1_goesMinute_43 : FA RX1 wsX1_goesMinute 43 1 9 "NineMowers$Course" := by
  show _ ∧ _ ∧ _ ∧ _
  exact ⟨by decide +kernel, fun _ h => List.mem_cons_of_mem _ (List.mem_append_left _ (List.mem_append_left _ (List.mem_append_left _ (List.mem_append_left _ (List.mem_append_left _ (List.mem_append_left _ (List.mem_append_left _ (List.mem_append_left _ (List.mem_append_right _ h))))))))), List.mem_of_getElem? (i := 6) rfl, Or.inl rfl⟩
theorem pa_X1_goesMinute_43 : PA RX1 wsX1_goesMinute 43 1 9 "NineMowers$Course" .int := by
  show _ ∧ _ ∧ _ ∧ _ ∧ _ ∧ _ ∧ _ ∧ _
  exact ⟨by decide +kernel, fun _ h => List.mem_cons_of_mem _ (List.mem_append_left _ (List.mem_append_left _ (List.mem_append_left _ (List.mem_append_left _ (List.mem_append_left _ (List.mem_append_left _ (List.mem_append_left _ (List.mem_append_left _ (List.mem_append_right _ h))))))))), List.mem_of_getElem? (i := 6) rfl, rfl, rfl, by decide +kernel, ⟨tyX1, tyX1_ok⟩, nmX1⟩
theorem fa_X1_goesMinute_21 : FA RX1 wsX1_goesMinute 21 1 2 "NineMowers$Course" := by
  show _ ∧ _ ∧ _ ∧ _
  exact ⟨by decide +kernel, fun _ h => List.mem_cons_of_mem _ (List.mem_append_left _ (List.mem_append_left _ (List.mem_append_left _ (List.mem_append_left _ (List.mem_append_left _ (List.mem_append_left _ (List.mem_append_left _ (List.mem_append_left _ (List.mem_append_right _ h))))))))), List.mem_of_getElem? (i := 3) rfl, Or.inl rfl⟩
theorem fa_X1_goesMinute_37 : FA RX1 wsX1_goesMinute 37 1 7 "NineMowers$Course" := by
  show _ ∧ _ ∧ _ ∧ _
  exact ⟨by decide +kernel, fun _ h => List.mem_cons_of_mem _ (List.mem_append_left _ (List.mem_append_left _ (List.mem_append_left _ (List.mem_append_left _ (List.mem_append_left _ (List.mem_append_left _ (List.mem_append_left _ (List.mem_append_left _ (List.mem_append_right _ h))))))))), List.mem_of_getElem? (i := 4) rfl, Or.inl rfl⟩
theorem kv_X1_goesMinute_X1_roomAt : KV RX1 wsX1_goesMinute (rmz 4) 118 RX1 yX1_roomAt wsX1_roomAt (rmz 1) 1 := ⟨_, _, _, _, gX1_goesMinute_X1_roomAt, rfl, by decide +kernel, by decide +kernel⟩
theorem fa_X1_goesMinute_28 : FA RX1 wsX1_goesMinute 28 1 4 "NineMowers$Course" := by
  show _ ∧ _ ∧ _ ∧ _
  exact ⟨by decide +kernel, fun _ h => List.mem_cons_of_mem _ (List.mem_append_left _ (List.mem_append_left _ (List.mem_append_left _ (List.mem_append_left _ (List.mem_append_left _ (List.mem_append_left _ (List.mem_append_left _ (List.mem_append_left _ (List.mem_append_right _ h))))))))), List.mem_of_getElem? (i := 5) rfl, Or.inl rfl⟩
theorem kv_X1_goesMinute_X1_wears : KV RX1 wsX1_goesMinute (rmz 4) 121 RX1 yX1_wears wsX1_wears (rmz 1) 2 := ⟨_, _, _, _, gX1_goesMinute_X1_wears, rfl, by decide +kernel, by decide +kernel⟩
noncomputable def K_X1_goesMinute (l : Launch) (V : Vx) (c0 : Nat) (σ : Sg) (Qk : Int32 → Sg → Prop) : Prop := Ka l V yX1_goesMinute wsX1_goesMinute (rmz 4) 0 0 [.ref c0] σ (QI V Qk)
theorem e_X1_goesMinute {l : Launch} {V : Vx} {c0 : Nat} {σ : Sg} {Qk : Int32 → Sg → Prop} (h : ∀ M : Mx, mL M = l → mV M = V → mN M = 5 → Cx M cX1_goesMinute (some .int) RX1 wsX1_goesMinute (rmz 4) 0 0 (QI (mV M) Qk) → PS M 0 [(0, .ref c0)] [] σ (0, 0)) : K_X1_goesMinute l V c0 σ Qk :=
  Ka_of (by decide +kernel) rfl rfl (Nat.le_of_ble_eq_true rfl) (fun M h1 h2 h3 C => h M h1 h2 h3 (by rw [h2]; exact C))
set_option maxRecDepth 100000 in
set_option maxHeartbeats 4000000 in
theorem s_X1_goesMinute_0 {M : Mx} {Qk : Int32 → Sg → Prop} (C : Cx M cX1_goesMinute (some .int) RX1 wsX1_goesMinute (rmz 4) 0 0 (QI (mV M) Qk)) (hN : mN M = 5) {c0 : Nat} (hc0 : isC c0) {σ : Sg} (h : PS M 2 [(0, .ref c0), (1, .int (0 : Int32))] [] σ (0, 0)) : PS M 0 [(0, .ref c0)] [] σ (0, 0) := by
  refine P_iconst C dX1_goesMinute_0 (v := (0 : Int32)) rfl ?_
  refine P_istore_n C dX1_goesMinute_1 (by rw [hN]; decide) rfl ?_
  exact P_sub [1, 0] rfl h
set_option maxRecDepth 100000 in
set_option maxHeartbeats 4000000 in
theorem s_X1_goesMinute_2 {M : Mx} {Qk : Int32 → Sg → Prop} (C : Cx M cX1_goesMinute (some .int) RX1 wsX1_goesMinute (rmz 4) 0 0 (QI (mV M) Qk)) (hN : mN M = 5) {x0 : Nat} {x1 : Int32} (hx0 : isC x0) {σ : Sg} (h : (((gi σ x0 3) ≤ x1 → PS M 31 [(0, .ref x0), (1, .int (0 : Int32)), (2, .int (0 : Int32))] [] σ (0, 0)) ∧ (¬ (gi σ x0 3) ≤ x1 → K_X1_strideAt (mL M) (mV M) x0 x1 σ (fun r3 σ2 => (vp_in x1 6 ∧ (∀ σ5 : Sg, σ5 = si σ2 (x0 + 14) x1.toNatClampNeg r3 → (∀ v6 : Int32, v6 = x1 + 1 → PS M 2 [(0, .ref x0), (1, .int v6)] [] σ5 (0, 0)))))))) : PS M 2 [(0, .ref x0), (1, .int x1)] [] σ (0, 0) := by
  refine P_iload_n C dX1_goesMinute_2 1 rfl ?_
  refine P_aload_n C dX1_goesMinute_3 0 rfl ?_
  refine P_getI C fa_X1_goesMinute_25 (kdC_0 hx0) rfl (fxl (fxC_0 hx0)) dX1_goesMinute_4 ?_
  refine P_icmp_ge C dX1_goesMinute_7 (tgt := 27) (by decide +kernel) (fun q1 => ?_) (fun q1 => ?_)
  · have h := h.1 q1
    refine P_iconst C dX1_goesMinute_27 (v := (0 : Int32)) rfl ?_
    refine P_istore_n C dX1_goesMinute_28 (by rw [hN]; decide) rfl ?_
    refine P_iconst C dX1_goesMinute_29 (v := (0 : Int32)) rfl ?_
    refine P_istore_n C dX1_goesMinute_30 (by rw [hN]; decide) rfl ?_
    exact P_sub [2, 1, 0] rfl h
  · have h := h.2 q1
    refine P_aload_n C dX1_goesMinute_10 0 rfl ?_
    refine P_getS C (e := (x0 + 14)) fa_X1_goesMinute_68 (kdC_0 hx0) (d := 14) rfl (fxl (fxC_0 hx0)) rfl dX1_goesMinute_11 ?_
    refine P_iload_n C dX1_goesMinute_14 1 rfl ?_
    refine P_aload_n C dX1_goesMinute_15 0 rfl ?_
    refine P_iload_n C dX1_goesMinute_16 1 rfl ?_
    refine P_ci (R_v (ci := 1) C kv_X1_goesMinute_X1_strideAt (As := [.int x1]) rfl (kdC_0 hx0) rfl (fxl (fxC_0 hx0)) (Nat.le_of_ble_eq_true rfl) dX1_goesMinute_17 ⟨Nat.le_refl _, Nat.le_refl _⟩ h) (fun r3 σ2 h => ?_)
    obtain ⟨hv4, h⟩ := h
    refine P_iast C (kdC_14 hx0) (fxl (fxC_14 hx0)) hv4 dX1_goesMinute_20 ?_
    refine P_nm (fun σ5 eσ5 => ?_)
    have h := h σ5 eσ5
    obtain ⟨v6, ev6⟩ : ∃ v : Int32, v = x1 + 1 := ⟨_, rfl⟩
    have h := h v6 ev6
    refine P_iinc (v := v6) C dX1_goesMinute_21 1 rfl (by rw [ev6]; rfl) (by rw [hN]; decide) rfl ?_
    refine P_goto C dX1_goesMinute_24 (tgt := 2) (by decide +kernel) ?_
    exact P_sub [1, 0] rfl h
set_option maxRecDepth 100000 in
set_option maxHeartbeats 4000000 in
theorem s_X1_goesMinute_31 {M : Mx} {Qk : Int32 → Sg → Prop} (C : Cx M cX1_goesMinute (some .int) RX1 wsX1_goesMinute (rmz 4) 0 0 (QI (mV M) Qk)) (hN : mN M = 5) {x0 : Nat} {x1 : Int32} {x2 : Int32} (hx0 : isC x0) {σ : Sg} (h : (((gi σ x0 3) ≤ x2 → (∀ σ2 : Sg, σ2 = si σ x0 9 ((gi σ x0 9) + (1 : Int32)) → Qk x1 σ2)) ∧ (¬ (gi σ x0 3) ≤ x2 → (vp_in x2 6 ∧ (∀ v4 : Int32, v4 = gi σ (x0 + 2) x2.toNatClampNeg → (vp_in v4 6 ∧ (((gi σ (x0 + 6) v4.toNatClampNeg) ≤ 0 → K_X1_roomAt (mL M) (mV M) x0 x2 σ (fun r8 σ7 => (vp_in x2 6 ∧ (((gi σ7 (x0 + 14) x2.toNatClampNeg) ≤ r8 → PS M 95 [(0, .ref x0), (1, .int x1), (2, .int x2), (3, .int v4), (4, .int r8)] [] σ7 (0, 0)) ∧ (¬ (gi σ7 (x0 + 14) x2.toNatClampNeg) ≤ r8 → (∀ v11 : Int32, v11 = x1 ||| ((1 : Int32) <<< (v4 &&& 31)) → PS M 95 [(0, .ref x0), (1, .int v11), (2, .int x2), (3, .int v4), (4, .int r8)] [] σ7 (0, 0))))))) ∧ (¬ (gi σ (x0 + 6) v4.toNatClampNeg) ≤ 0 → (vp_in v4 6 ∧ (vp_in v4 6 ∧ (∀ σ14 : Sg, σ14 = si σ (x0 + 6) v4.toNatClampNeg ((gi σ (x0 + 6) v4.toNatClampNeg) - (1 : Int32)) → PS M 95 [(0, .ref x0), (1, .int x1), (2, .int x2), (3, .int v4), (4, .int (0 : Int32))] [] σ14 (0, 0)))))))))))) : PS M 31 [(0, .ref x0), (1, .int x1), (2, .int x2)] [] σ (0, 0) := by
  refine P_iload_n C dX1_goesMinute_31 2 rfl ?_
  refine P_aload_n C dX1_goesMinute_32 0 rfl ?_
  refine P_getI C fa_X1_goesMinute_25 (kdC_0 hx0) rfl (fxl (fxC_0 hx0)) dX1_goesMinute_33 ?_
  refine P_icmp_ge C dX1_goesMinute_36 (tgt := 127) (by decide +kernel) (fun q1 => ?_) (fun q1 => ?_)
  · have h := h.1 q1
    refine P_aload_n C dX1_goesMinute_127 0 rfl ?_
    refine P_dup C dX1_goesMinute_128 rfl ?_
    refine P_getI C fa_X1_goesMinute_43 (kdC_0 hx0) rfl (fxl (fxC_0 hx0)) dX1_goesMinute_129 ?_
    refine P_iconst C dX1_goesMinute_132 (v := (1 : Int32)) rfl ?_
    refine P_iadd C dX1_goesMinute_133 ?_
    refine P_putI C pa_X1_goesMinute_43 (kdC_0 hx0) rfl (fxl (fxC_0 hx0)) dX1_goesMinute_134 ?_
    refine P_nm (fun σ2 eσ2 => ?_)
    have h := h σ2 eσ2
    refine P_iload_n C dX1_goesMinute_137 1 rfl ?_
    exact P_iret C dX1_goesMinute_138 h
  · have h := h.2 q1
    refine P_aload_n C dX1_goesMinute_39 0 rfl ?_
    refine P_getS C (e := (x0 + 2)) fa_X1_goesMinute_21 (kdC_0 hx0) (d := 2) rfl (fxl (fxC_0 hx0)) rfl dX1_goesMinute_40 ?_
    refine P_iload_n C dX1_goesMinute_43 2 rfl ?_
    obtain ⟨hv3, h⟩ := h
    refine P_iald C (kdC_2 hx0) (fxl (fxC_2 hx0)) hv3 dX1_goesMinute_44 ?_
    refine P_nmi (fun v4 ev4 => ?_)
    have h := h v4 ev4
    refine P_istore_n C dX1_goesMinute_45 (by rw [hN]; decide) rfl ?_
    refine P_iconst C dX1_goesMinute_46 (v := (0 : Int32)) rfl ?_
    refine P_istore C dX1_goesMinute_47 (by rw [hN]; decide) rfl ?_
    refine P_aload_n C dX1_goesMinute_49 2 rfl ?_
    refine P_getS C (e := (x0 + 6)) fa_X1_goesMinute_37 (kdC_0 hx0) (d := 6) rfl (fxl (fxC_0 hx0)) rfl dX1_goesMinute_50 ?_
    refine P_iload_n C dX1_goesMinute_53 1 rfl ?_
    obtain ⟨hv5, h⟩ := h
    refine P_iald C (kdC_6 hx0) (fxl (fxC_6 hx0)) hv5 dX1_goesMinute_54 ?_
    refine P_if_le C dX1_goesMinute_55 (tgt := 71) (by decide +kernel) (fun q6 => ?_) (fun q6 => ?_)
    · have h := h.1 q6
      refine P_aload_n C dX1_goesMinute_71 2 rfl ?_
      refine P_iload_n C dX1_goesMinute_72 4 rfl ?_
      refine P_ci (R_v (ci := 1) C kv_X1_goesMinute_X1_roomAt (As := [.int x2]) rfl (kdC_0 hx0) rfl (fxl (fxC_0 hx0)) (Nat.le_of_ble_eq_true rfl) dX1_goesMinute_73 ⟨Nat.le_refl _, Nat.le_refl _⟩ h) (fun r8 σ7 h => ?_)
      refine P_istore C dX1_goesMinute_76 (by rw [hN]; decide) rfl ?_
      refine P_iload C dX1_goesMinute_78 0 rfl ?_
      refine P_aload_n C dX1_goesMinute_80 2 rfl ?_
      refine P_getS C (e := (x0 + 14)) fa_X1_goesMinute_68 (kdC_0 hx0) (d := 14) rfl (fxl (fxC_0 hx0)) rfl dX1_goesMinute_81 ?_
      refine P_iload_n C dX1_goesMinute_84 4 rfl ?_
      obtain ⟨hv9, h⟩ := h
      refine P_iald C (kdC_14 hx0) (fxl (fxC_14 hx0)) hv9 dX1_goesMinute_85 ?_
      refine P_icmp_ge C dX1_goesMinute_86 (tgt := 95) (by decide +kernel) (fun q10 => ?_) (fun q10 => ?_)
      · have h := h.1 q10
        exact P_sub [2, 3, 4, 1, 0] rfl h
      · have h := h.2 q10
        refine P_iload_n C dX1_goesMinute_89 3 rfl ?_
        refine P_iconst C dX1_goesMinute_90 (v := (1 : Int32)) rfl ?_
        refine P_iload_n C dX1_goesMinute_91 1 rfl ?_
        refine P_ishl C dX1_goesMinute_92 ?_
        refine P_ior C dX1_goesMinute_93 ?_
        refine P_nmi (fun v11 ev11 => ?_)
        have h := h v11 ev11
        refine P_istore_n C dX1_goesMinute_94 (by rw [hN]; decide) rfl ?_
        exact P_sub [3, 0, 4, 2, 1] rfl h
    · have h := h.2 q6
      refine P_aload_n C dX1_goesMinute_58 2 rfl ?_
      refine P_getS C (e := (x0 + 6)) fa_X1_goesMinute_37 (kdC_0 hx0) (d := 6) rfl (fxl (fxC_0 hx0)) rfl dX1_goesMinute_59 ?_
      refine P_iload_n C dX1_goesMinute_62 1 rfl ?_
      refine P_dup2 C dX1_goesMinute_63 rfl rfl ?_
      obtain ⟨hv12, h⟩ := h
      refine P_iald C (kdC_6 hx0) (fxl (fxC_6 hx0)) hv12 dX1_goesMinute_64 ?_
      refine P_iconst C dX1_goesMinute_65 (v := (1 : Int32)) rfl ?_
      refine P_isub C dX1_goesMinute_66 ?_
      obtain ⟨hv13, h⟩ := h
      refine P_iast C (kdC_6 hx0) (fxl (fxC_6 hx0)) hv13 dX1_goesMinute_67 ?_
      refine P_nm (fun σ14 eσ14 => ?_)
      have h := h σ14 eσ14
      refine P_goto C dX1_goesMinute_68 (tgt := 95) (by decide +kernel) ?_
      exact P_sub [2, 3, 4, 1, 0] rfl h
set_option maxRecDepth 100000 in
set_option maxHeartbeats 4000000 in
theorem s_X1_goesMinute_95 {M : Mx} {Qk : Int32 → Sg → Prop} (C : Cx M cX1_goesMinute (some .int) RX1 wsX1_goesMinute (rmz 4) 0 0 (QI (mV M) Qk)) (hN : mN M = 5) {x0 : Nat} {x1 : Int32} {x2 : Int32} {x3 : Int32} {x4 : Int32} (hx0 : isC x0) {σ : Sg} (h : (vp_in x3 6 ∧ (vp_in x3 6 ∧ (∀ σ3 : Sg, σ3 = si σ (x0 + 3) x3.toNatClampNeg ((gi σ (x0 + 3) x3.toNatClampNeg) + x4) → ((x4 ≤ 0 → K_X1_wears (mL M) (mV M) x0 x3 (0 : Int32) σ3 (fun σ5 => (∀ v6 : Int32, v6 = x2 + 1 → PS M 31 [(0, .ref x0), (1, .int x1), (2, .int v6)] [] σ5 (0, 0)))) ∧ (¬ x4 ≤ 0 → K_X1_wears (mL M) (mV M) x0 x3 (1 : Int32) σ3 (fun σ7 => (∀ v8 : Int32, v8 = x2 + 1 → PS M 31 [(0, .ref x0), (1, .int x1), (2, .int v8)] [] σ7 (0, 0))))))))) : PS M 95 [(0, .ref x0), (1, .int x1), (2, .int x2), (3, .int x3), (4, .int x4)] [] σ (0, 0) := by
  refine P_aload_n C dX1_goesMinute_95 0 rfl ?_
  refine P_getS C (e := (x0 + 3)) fa_X1_goesMinute_28 (kdC_0 hx0) (d := 3) rfl (fxl (fxC_0 hx0)) rfl dX1_goesMinute_96 ?_
  refine P_iload_n C dX1_goesMinute_99 3 rfl ?_
  refine P_dup2 C dX1_goesMinute_100 rfl rfl ?_
  obtain ⟨hv1, h⟩ := h
  refine P_iald C (kdC_3 hx0) (fxl (fxC_3 hx0)) hv1 dX1_goesMinute_101 ?_
  refine P_iload C dX1_goesMinute_102 4 rfl ?_
  refine P_iadd C dX1_goesMinute_104 ?_
  obtain ⟨hv2, h⟩ := h
  refine P_iast C (kdC_3 hx0) (fxl (fxC_3 hx0)) hv2 dX1_goesMinute_105 ?_
  refine P_nm (fun σ3 eσ3 => ?_)
  have h := h σ3 eσ3
  refine P_aload_n C dX1_goesMinute_106 0 rfl ?_
  refine P_iload_n C dX1_goesMinute_107 3 rfl ?_
  refine P_iload C dX1_goesMinute_108 4 rfl ?_
  refine P_if_le C dX1_goesMinute_110 (tgt := 117) (by decide +kernel) (fun q4 => ?_) (fun q4 => ?_)
  · have h := h.1 q4
    refine P_iconst C dX1_goesMinute_117 (v := (0 : Int32)) rfl ?_
    refine P_cv (R_v (ci := 1) C kv_X1_goesMinute_X1_wears (As := [.int x3, .int (0 : Int32)]) rfl (kdC_0 hx0) rfl (fxl (fxC_0 hx0)) (Nat.le_of_ble_eq_true rfl) dX1_goesMinute_118 ⟨Nat.le_refl _, Nat.le_refl _⟩ h) (fun σ5 h => ?_)
    obtain ⟨v6, ev6⟩ : ∃ v : Int32, v = x2 + 1 := ⟨_, rfl⟩
    have h := h v6 ev6
    refine P_iinc (v := v6) C dX1_goesMinute_121 2 rfl (by rw [ev6]; rfl) (by rw [hN]; decide) rfl ?_
    refine P_goto C dX1_goesMinute_124 (tgt := 31) (by decide +kernel) ?_
    exact P_sub [1, 2, 0] rfl h
  · have h := h.2 q4
    refine P_iconst C dX1_goesMinute_113 (v := (1 : Int32)) rfl ?_
    refine P_goto C dX1_goesMinute_114 (tgt := 118) (by decide +kernel) ?_
    refine P_cv (R_v (ci := 1) C kv_X1_goesMinute_X1_wears (As := [.int x3, .int (1 : Int32)]) rfl (kdC_0 hx0) rfl (fxl (fxC_0 hx0)) (Nat.le_of_ble_eq_true rfl) dX1_goesMinute_118 ⟨Nat.le_refl _, Nat.le_refl _⟩ h) (fun σ7 h => ?_)
    obtain ⟨v8, ev8⟩ : ∃ v : Int32, v = x2 + 1 := ⟨_, rfl⟩
    have h := h v8 ev8
    refine P_iinc (v := v8) C dX1_goesMinute_121 2 rfl (by rw [ev8]; rfl) (by rw [hN]; decide) rfl ?_
    refine P_goto C dX1_goesMinute_124 (tgt := 31) (by decide +kernel) ?_
    exact P_sub [1, 2, 0] rfl h
theorem kv_X11_of_X11_isMower : KV RX11 wsX11_of (rmz 4) 110 RX11 yX11_isMower wsX11_isMower (rmz 0) 1 := ⟨_, _, _, _, gX11_of_X11_isMower, rfl, by decide +kernel, by decide +kernel⟩
theorem fa_X11_of_12 : FA RX11 wsX11_of 12 11 0 "NineMowers" := by
  show _ ∧ _ ∧ _ ∧ _
  exact ⟨by decide +kernel, fun _ h => List.mem_cons_of_mem _ (List.mem_append_left _ (List.mem_append_left _ (List.mem_append_left _ (List.mem_append_left _ (List.mem_append_left _ (List.mem_append_left _ (List.mem_append_left _ (List.mem_append_left _ (List.mem_append_left _ (List.mem_append_right _ h)))))))))), List.mem_of_getElem? (i := 1) rfl, Or.inl rfl⟩
theorem fa_X11_of_114 : FA RX11 wsX11_of 114 1 0 "NineMowers$Course" := by
  show _ ∧ _ ∧ _ ∧ _
  exact ⟨by decide +kernel, fun _ h => List.mem_cons_of_mem _ (List.mem_append_left _ (List.mem_append_left _ (List.mem_append_left _ (List.mem_append_left _ (List.mem_append_left _ (List.mem_append_left _ (List.mem_append_left _ (List.mem_append_left _ (List.mem_append_right _ h))))))))), List.mem_of_getElem? (i := 2) rfl, Or.inl rfl⟩
theorem fa_X11_of_118 : FA RX11 wsX11_of 118 4 0 "NineMowers$Mower" := by
  show _ ∧ _ ∧ _ ∧ _
  exact ⟨by decide +kernel, fun _ h => List.mem_cons_of_mem _ (List.mem_append_left _ (List.mem_append_left _ (List.mem_append_left _ (List.mem_append_left _ (List.mem_append_left _ (List.mem_append_right _ h)))))), List.mem_of_getElem? (i := 3) rfl, Or.inl rfl⟩
theorem fa_X11_of_121 : FA RX11 wsX11_of 121 4 2 "NineMowers$Mower" := by
  show _ ∧ _ ∧ _ ∧ _
  exact ⟨by decide +kernel, fun _ h => List.mem_cons_of_mem _ (List.mem_append_left _ (List.mem_append_left _ (List.mem_append_left _ (List.mem_append_left _ (List.mem_append_left _ (List.mem_append_right _ h)))))), List.mem_of_getElem? (i := 4) rfl, Or.inl rfl⟩
theorem fa_X11_of_124 : FA RX11 wsX11_of 124 1 4 "NineMowers$Course" := by
  show _ ∧ _ ∧ _ ∧ _
  exact ⟨by decide +kernel, fun _ h => List.mem_cons_of_mem _ (List.mem_append_left _ (List.mem_append_left _ (List.mem_append_left _ (List.mem_append_left _ (List.mem_append_left _ (List.mem_append_left _ (List.mem_append_left _ (List.mem_append_left _ (List.mem_append_right _ h))))))))), List.mem_of_getElem? (i := 5) rfl, Or.inl rfl⟩
theorem fa_X11_of_127 : FA RX11 wsX11_of 127 1 5 "NineMowers$Course" := by
  show _ ∧ _ ∧ _ ∧ _
  exact ⟨by decide +kernel, fun _ h => List.mem_cons_of_mem _ (List.mem_append_left _ (List.mem_append_left _ (List.mem_append_left _ (List.mem_append_left _ (List.mem_append_left _ (List.mem_append_left _ (List.mem_append_left _ (List.mem_append_left _ (List.mem_append_right _ h))))))))), List.mem_of_getElem? (i := 6) rfl, Or.inl rfl⟩
theorem fa_X11_of_130 : FA RX11 wsX11_of 130 1 6 "NineMowers$Course" := by
  show _ ∧ _ ∧ _ ∧ _
  exact ⟨by decide +kernel, fun _ h => List.mem_cons_of_mem _ (List.mem_append_left _ (List.mem_append_left _ (List.mem_append_left _ (List.mem_append_left _ (List.mem_append_left _ (List.mem_append_left _ (List.mem_append_left _ (List.mem_append_left _ (List.mem_append_right _ h))))))))), List.mem_of_getElem? (i := 7) rfl, Or.inl rfl⟩
theorem fa_X11_of_133 : FA RX11 wsX11_of 133 1 7 "NineMowers$Course" := by
  show _ ∧ _ ∧ _ ∧ _
  exact ⟨by decide +kernel, fun _ h => List.mem_cons_of_mem _ (List.mem_append_left _ (List.mem_append_left _ (List.mem_append_left _ (List.mem_append_left _ (List.mem_append_left _ (List.mem_append_left _ (List.mem_append_left _ (List.mem_append_left _ (List.mem_append_right _ h))))))))), List.mem_of_getElem? (i := 8) rfl, Or.inl rfl⟩
theorem kv_X11_of_X1_placeOf : KV RX11 wsX11_of (rmz 4) 136 RX1 yX1_placeOf wsX1_placeOf (rmz 0) 1 := ⟨_, _, _, _, gX11_of_X1_placeOf, rfl, by decide +kernel, by decide +kernel⟩
theorem kv_X11_of_X1_paceAt : KV RX11 wsX11_of (rmz 4) 140 RX1 yX1_paceAt wsX1_paceAt (rmz 2) 1 := ⟨_, _, _, _, gX11_of_X1_paceAt, rfl, by decide +kernel, by decide +kernel⟩
theorem kv_X11_of_X1_strideAt : KV RX11 wsX11_of (rmz 4) 143 RX1 yX1_strideAt wsX1_strideAt (rmz 3) 1 := ⟨_, _, _, _, gX11_of_X1_strideAt, rfl, by decide +kernel, by decide +kernel⟩
noncomputable def K_X11_of (l : Launch) (V : Vx) (a1 : Int32) (a2 : Int32) (σ : Sg) (Qk : Int32 → Sg → Prop) : Prop := Ka l V yX11_of wsX11_of (rmz 4) 0 0 [.ref 0, .int a1, .int a2] σ (QI V Qk)
theorem e_X11_of {l : Launch} {V : Vx} {a1 : Int32} {a2 : Int32} {σ : Sg} {Qk : Int32 → Sg → Prop} (h : ∀ M : Mx, mL M = l → mV M = V → mN M = 3 → Cx M cX11_of (some .int) RX11 wsX11_of (rmz 4) 0 0 (QI (mV M) Qk) → PS M 0 [(0, .ref 0), (1, .int a1), (2, .int a2)] [] σ (0, 0)) : K_X11_of l V a1 a2 σ Qk :=
  Ka_of (by decide +kernel) rfl rfl (Nat.le_of_ble_eq_true rfl) (fun M h1 h2 h3 C => h M h1 h2 h3 (by rw [h2]; exact C))
set_option maxRecDepth 100000 in
set_option maxHeartbeats 4000000 in
theorem s_X11_of_0 {M : Mx} {Qk : Int32 → Sg → Prop} (C : Cx M cX11_of (some .int) RX11 wsX11_of (rmz 4) 0 0 (QI (mV M) Qk)) (hN : mN M = 3) {a1 : Int32} {a2 : Int32} {σ : Sg} (h : K_X11_isMower (mL M) (mV M) a1 σ (fun r2 σ1 => ((¬ r2 = 0 → ((a2.toInt < 0 ∨ 8 < a2.toInt → Qk (-1 : Int32) σ1) ∧ (a2.toInt = 0 → (vp_in a1 6 ∧ (∃ (μ6 ci6 : Nat), gr σ1 2 a1.toNatClampNeg = some μ6 ∧ isMc ci6 ∧ kd μ6 = (10 + ci6, 0) ∧ μ6 ∈ ids (mV M) ∧ Qk (gi σ1 μ6 0) σ1))) ∧ (a2.toInt = 1 → (vp_in a1 6 ∧ (∃ (μ8 ci8 : Nat), gr σ1 2 a1.toNatClampNeg = some μ8 ∧ isMc ci8 ∧ kd μ8 = (10 + ci8, 0) ∧ μ8 ∈ ids (mV M) ∧ Qk (gi σ1 μ8 2) σ1))) ∧ (a2.toInt = 2 → (vp_in a1 6 ∧ Qk (gi σ1 4 a1.toNatClampNeg) σ1)) ∧ (a2.toInt = 3 → (vp_in a1 6 ∧ Qk (gi σ1 5 a1.toNatClampNeg) σ1)) ∧ (a2.toInt = 4 → (vp_in a1 6 ∧ Qk (gi σ1 6 a1.toNatClampNeg) σ1)) ∧ (a2.toInt = 5 → (vp_in a1 6 ∧ Qk (gi σ1 7 a1.toNatClampNeg) σ1)) ∧ (a2.toInt = 6 → K_X1_placeOf (mL M) (mV M) 1 a1 σ1 (fun r14 σ13 => Qk r14 σ13)) ∧ (a2.toInt = 7 → K_X1_placeOf (mL M) (mV M) 1 a1 σ1 (fun r16 σ15 => K_X1_paceAt (mL M) (mV M) 1 r16 σ15 (fun r18 σ17 => Qk r18 σ17))) ∧ (a2.toInt = 8 → K_X1_placeOf (mL M) (mV M) 1 a1 σ1 (fun r20 σ19 => K_X1_strideAt (mL M) (mV M) 1 r20 σ19 (fun r22 σ21 => Qk r22 σ21))))) ∧ (r2 = 0 → Qk (-1 : Int32) σ1)))) : PS M 0 [(0, .ref 0), (1, .int a1), (2, .int a2)] [] σ (0, 0) := by
  refine P_aload_n C dX11_of_0 0 rfl ?_
  refine P_iload_n C dX11_of_1 1 rfl ?_
  refine P_ci (R_v (ci := 11) C kv_X11_of_X11_isMower (As := [.int a1]) rfl kd_0 rfl (fxl fx_0) (Nat.le_of_ble_eq_true rfl) dX11_of_2 ⟨Nat.le_refl _, Nat.le_refl _⟩ h) (fun r2 σ1 h => ?_)
  refine P_if_ne C dX11_of_5 (tgt := 10) (by decide +kernel) (fun q3 => ?_) (fun q3 => ?_)
  · have h := h.1 q3
    refine P_iload_n C dX11_of_10 2 rfl ?_
    refine P_tsw C dX11_of_11 167 (by decide +kernel) (fun q4 => ?_) (by decide +kernel) (fun i off ho q4 => ?_)
    · have h := h.1 q4
      refine P_iconst C dX11_of_167 (v := (-1 : Int32)) rfl ?_
      exact P_iret C dX11_of_168 h
    · rcases i with _ | _ | _ | _ | _ | _ | _ | _ | _ | i
      · obtain rfl : (49 : Int) = off := Option.some.inj ho
        refine ⟨?_, by decide +kernel⟩
        show PS M 60 _ _ _ _
        have h := h.2.1 (by have q := q4; simp at q; omega)
        refine P_aload_n C dX11_of_60 0 rfl ?_
        refine P_getS C (e := 1) fa_X11_of_12 kd_0 (d := 1) rfl (fxl fx_0) rfl dX11_of_61 ?_
        refine P_getS C (e := 2) fa_X11_of_114 kd_1 (d := 1) rfl (fxl fx_1) rfl dX11_of_64 ?_
        refine P_iload_n C dX11_of_67 1 rfl ?_
        obtain ⟨hv5, μ6, ci6, hrμ6, sμ6, hμ6, lμ6, h⟩ := h
        refine P_aldD C kd_2 (Or.inl rfl) (fxl fx_2) hv5 hrμ6 dX11_of_68 ?_
        refine P_getM C fa_X11_of_118 (by decide +kernel) sμ6 hμ6 lμ6 dX11_of_69 ?_
        exact P_iret C dX11_of_72 h
      · obtain rfl : (62 : Int) = off := Option.some.inj ho
        refine ⟨?_, by decide +kernel⟩
        show PS M 73 _ _ _ _
        have h := h.2.2.1 (by have q := q4; simp at q; omega)
        refine P_aload_n C dX11_of_73 0 rfl ?_
        refine P_getS C (e := 1) fa_X11_of_12 kd_0 (d := 1) rfl (fxl fx_0) rfl dX11_of_74 ?_
        refine P_getS C (e := 2) fa_X11_of_114 kd_1 (d := 1) rfl (fxl fx_1) rfl dX11_of_77 ?_
        refine P_iload_n C dX11_of_80 1 rfl ?_
        obtain ⟨hv7, μ8, ci8, hrμ8, sμ8, hμ8, lμ8, h⟩ := h
        refine P_aldD C kd_2 (Or.inl rfl) (fxl fx_2) hv7 hrμ8 dX11_of_81 ?_
        refine P_getM C fa_X11_of_121 (by decide +kernel) sμ8 hμ8 lμ8 dX11_of_82 ?_
        exact P_iret C dX11_of_85 h
      · obtain rfl : (75 : Int) = off := Option.some.inj ho
        refine ⟨?_, by decide +kernel⟩
        show PS M 86 _ _ _ _
        have h := h.2.2.2.1 (by have q := q4; simp at q; omega)
        refine P_aload_n C dX11_of_86 0 rfl ?_
        refine P_getS C (e := 1) fa_X11_of_12 kd_0 (d := 1) rfl (fxl fx_0) rfl dX11_of_87 ?_
        refine P_getS C (e := 4) fa_X11_of_124 kd_1 (d := 3) rfl (fxl fx_1) rfl dX11_of_90 ?_
        refine P_iload_n C dX11_of_93 1 rfl ?_
        obtain ⟨hv9, h⟩ := h
        refine P_iald C kd_4 (fxl fx_4) hv9 dX11_of_94 ?_
        exact P_iret C dX11_of_95 h
      · obtain rfl : (85 : Int) = off := Option.some.inj ho
        refine ⟨?_, by decide +kernel⟩
        show PS M 96 _ _ _ _
        have h := h.2.2.2.2.1 (by have q := q4; simp at q; omega)
        refine P_aload_n C dX11_of_96 0 rfl ?_
        refine P_getS C (e := 1) fa_X11_of_12 kd_0 (d := 1) rfl (fxl fx_0) rfl dX11_of_97 ?_
        refine P_getS C (e := 5) fa_X11_of_127 kd_1 (d := 4) rfl (fxl fx_1) rfl dX11_of_100 ?_
        refine P_iload_n C dX11_of_103 1 rfl ?_
        obtain ⟨hv10, h⟩ := h
        refine P_iald C kd_5 (fxl fx_5) hv10 dX11_of_104 ?_
        exact P_iret C dX11_of_105 h
      · obtain rfl : (95 : Int) = off := Option.some.inj ho
        refine ⟨?_, by decide +kernel⟩
        show PS M 106 _ _ _ _
        have h := h.2.2.2.2.2.1 (by have q := q4; simp at q; omega)
        refine P_aload_n C dX11_of_106 0 rfl ?_
        refine P_getS C (e := 1) fa_X11_of_12 kd_0 (d := 1) rfl (fxl fx_0) rfl dX11_of_107 ?_
        refine P_getS C (e := 6) fa_X11_of_130 kd_1 (d := 5) rfl (fxl fx_1) rfl dX11_of_110 ?_
        refine P_iload_n C dX11_of_113 1 rfl ?_
        obtain ⟨hv11, h⟩ := h
        refine P_iald C kd_6 (fxl fx_6) hv11 dX11_of_114 ?_
        exact P_iret C dX11_of_115 h
      · obtain rfl : (105 : Int) = off := Option.some.inj ho
        refine ⟨?_, by decide +kernel⟩
        show PS M 116 _ _ _ _
        have h := h.2.2.2.2.2.2.1 (by have q := q4; simp at q; omega)
        refine P_aload_n C dX11_of_116 0 rfl ?_
        refine P_getS C (e := 1) fa_X11_of_12 kd_0 (d := 1) rfl (fxl fx_0) rfl dX11_of_117 ?_
        refine P_getS C (e := 7) fa_X11_of_133 kd_1 (d := 6) rfl (fxl fx_1) rfl dX11_of_120 ?_
        refine P_iload_n C dX11_of_123 1 rfl ?_
        obtain ⟨hv12, h⟩ := h
        refine P_iald C kd_7 (fxl fx_7) hv12 dX11_of_124 ?_
        exact P_iret C dX11_of_125 h
      · obtain rfl : (115 : Int) = off := Option.some.inj ho
        refine ⟨?_, by decide +kernel⟩
        show PS M 126 _ _ _ _
        have h := h.2.2.2.2.2.2.2.1 (by have q := q4; simp at q; omega)
        refine P_aload_n C dX11_of_126 0 rfl ?_
        refine P_getS C (e := 1) fa_X11_of_12 kd_0 (d := 1) rfl (fxl fx_0) rfl dX11_of_127 ?_
        refine P_iload_n C dX11_of_130 1 rfl ?_
        refine P_ci (R_v (ci := 1) C kv_X11_of_X1_placeOf (As := [.int a1]) rfl kd_1 rfl (fxl fx_1) (Nat.le_of_ble_eq_true rfl) dX11_of_131 ⟨Nat.le_refl _, Nat.le_refl _⟩ h) (fun r14 σ13 h => ?_)
        exact P_iret C dX11_of_134 h
      · obtain rfl : (124 : Int) = off := Option.some.inj ho
        refine ⟨?_, by decide +kernel⟩
        show PS M 135 _ _ _ _
        have h := h.2.2.2.2.2.2.2.2.1 (by have q := q4; simp at q; omega)
        refine P_aload_n C dX11_of_135 0 rfl ?_
        refine P_getS C (e := 1) fa_X11_of_12 kd_0 (d := 1) rfl (fxl fx_0) rfl dX11_of_136 ?_
        refine P_aload_n C dX11_of_139 0 rfl ?_
        refine P_getS C (e := 1) fa_X11_of_12 kd_0 (d := 1) rfl (fxl fx_0) rfl dX11_of_140 ?_
        refine P_iload_n C dX11_of_143 1 rfl ?_
        refine P_ci (R_v (ci := 1) C kv_X11_of_X1_placeOf (As := [.int a1]) rfl kd_1 rfl (fxl fx_1) (Nat.le_of_ble_eq_true rfl) dX11_of_144 ⟨Nat.le_refl _, Nat.le_refl _⟩ h) (fun r16 σ15 h => ?_)
        refine P_ci (R_v (ci := 1) C kv_X11_of_X1_paceAt (As := [.int r16]) rfl kd_1 rfl (fxl fx_1) (Nat.le_of_ble_eq_true rfl) dX11_of_147 ⟨Nat.le_refl _, Nat.le_refl _⟩ h) (fun r18 σ17 h => ?_)
        exact P_iret C dX11_of_150 h
      · obtain rfl : (140 : Int) = off := Option.some.inj ho
        refine ⟨?_, by decide +kernel⟩
        show PS M 151 _ _ _ _
        have h := h.2.2.2.2.2.2.2.2.2 (by have q := q4; simp at q; omega)
        refine P_aload_n C dX11_of_151 0 rfl ?_
        refine P_getS C (e := 1) fa_X11_of_12 kd_0 (d := 1) rfl (fxl fx_0) rfl dX11_of_152 ?_
        refine P_aload_n C dX11_of_155 0 rfl ?_
        refine P_getS C (e := 1) fa_X11_of_12 kd_0 (d := 1) rfl (fxl fx_0) rfl dX11_of_156 ?_
        refine P_iload_n C dX11_of_159 1 rfl ?_
        refine P_ci (R_v (ci := 1) C kv_X11_of_X1_placeOf (As := [.int a1]) rfl kd_1 rfl (fxl fx_1) (Nat.le_of_ble_eq_true rfl) dX11_of_160 ⟨Nat.le_refl _, Nat.le_refl _⟩ h) (fun r20 σ19 h => ?_)
        refine P_ci (R_v (ci := 1) C kv_X11_of_X1_strideAt (As := [.int r20]) rfl kd_1 rfl (fxl fx_1) (Nat.le_of_ble_eq_true rfl) dX11_of_163 ⟨Nat.le_refl _, Nat.le_refl _⟩ h) (fun r22 σ21 h => ?_)
        exact P_iret C dX11_of_166 h
      · exact absurd (Array.getElem?_eq_some_iff.mp ho).1 (Nat.not_lt.mpr (by show 9 ≤ _; omega))
  · have h := h.2 q3
    refine P_iconst C dX11_of_8 (v := (-1 : Int32)) rfl ?_
    exact P_iret C dX11_of_9 h
theorem kv_X1_goes_X1_goesMinute : KV RX1 wsX1_goes (rmz 5) 112 RX1 yX1_goesMinute wsX1_goesMinute (rmz 4) 0 := ⟨_, _, _, _, gX1_goes_X1_goesMinute, rfl, by decide +kernel, by decide +kernel⟩
noncomputable def K_X1_goes (l : Launch) (V : Vx) (c0 : Nat) (a1 : Int32) (σ : Sg) (Qk : Sg → Prop) : Prop := Ka l V yX1_goes wsX1_goes (rmz 5) 0 0 [.ref c0, .int a1] σ (QV V Qk)
theorem e_X1_goes {l : Launch} {V : Vx} {c0 : Nat} {a1 : Int32} {σ : Sg} {Qk : Sg → Prop} (h : ∀ M : Mx, mL M = l → mV M = V → mN M = 3 → Cx M cX1_goes none RX1 wsX1_goes (rmz 5) 0 0 (QV (mV M) Qk) → PS M 0 [(0, .ref c0), (1, .int a1)] [] σ (0, 0)) : K_X1_goes l V c0 a1 σ Qk :=
  Ka_of (by decide +kernel) rfl rfl (Nat.le_of_ble_eq_true rfl) (fun M h1 h2 h3 C => h M h1 h2 h3 (by rw [h2]; exact C))
set_option maxRecDepth 100000 in
set_option maxHeartbeats 4000000 in
theorem s_X1_goes_0 {M : Mx} {Qk : Sg → Prop} (C : Cx M cX1_goes none RX1 wsX1_goes (rmz 5) 0 0 (QV (mV M) Qk)) (hN : mN M = 3) {c0 : Nat} {a1 : Int32} (hc0 : isC c0) {σ : Sg} (h : PS M 2 [(0, .ref c0), (1, .int a1), (2, .int (0 : Int32))] [] σ (0, 0)) : PS M 0 [(0, .ref c0), (1, .int a1)] [] σ (0, 0) := by
  refine P_iconst C dX1_goes_0 (v := (0 : Int32)) rfl ?_
  refine P_istore_n C dX1_goes_1 (by rw [hN]; decide) rfl ?_
  exact P_sub [1, 2, 0] rfl h
set_option maxRecDepth 100000 in
set_option maxHeartbeats 4000000 in
theorem s_X1_goes_2 {M : Mx} {Qk : Sg → Prop} (C : Cx M cX1_goes none RX1 wsX1_goes (rmz 5) 0 0 (QV (mV M) Qk)) (hN : mN M = 3) {x0 : Nat} {x1 : Int32} {x2 : Int32} (hx0 : isC x0) {σ : Sg} (h : ((x1 ≤ x2 → Qk σ) ∧ (¬ x1 ≤ x2 → K_X1_goesMinute (mL M) (mV M) x0 σ (fun r3 σ2 => (∀ v4 : Int32, v4 = x2 + 1 → PS M 2 [(0, .ref x0), (1, .int x1), (2, .int v4)] [] σ2 (0, 0)))))) : PS M 2 [(0, .ref x0), (1, .int x1), (2, .int x2)] [] σ (0, 0) := by
  refine P_iload_n C dX1_goes_2 2 rfl ?_
  refine P_iload_n C dX1_goes_3 1 rfl ?_
  refine P_icmp_ge C dX1_goes_4 (tgt := 18) (by decide +kernel) (fun q1 => ?_) (fun q1 => ?_)
  · have h := h.1 q1
    exact P_vret C dX1_goes_18 h
  · have h := h.2 q1
    refine P_aload_n C dX1_goes_7 0 rfl ?_
    refine P_ci (R_v (ci := 1) C kv_X1_goes_X1_goesMinute (As := []) rfl (kdC_0 hx0) rfl (fxl (fxC_0 hx0)) (Nat.le_of_ble_eq_true rfl) dX1_goes_8 ⟨Nat.le_refl _, Nat.le_refl _⟩ h) (fun r3 σ2 h => ?_)
    refine P_pop C dX1_goes_11 rfl ?_
    obtain ⟨v4, ev4⟩ : ∃ v : Int32, v = x2 + 1 := ⟨_, rfl⟩
    have h := h v4 ev4
    refine P_iinc (v := v4) C dX1_goes_12 2 rfl (by rw [ev4]; rfl) (by rw [hN]; decide) rfl ?_
    refine P_goto C dX1_goes_15 (tgt := 2) (by decide +kernel) ?_
    exact P_sub [1, 2, 0] rfl h
theorem fa_X11_minute_12 : FA RX11 wsX11_minute 12 11 0 "NineMowers" := by
  show _ ∧ _ ∧ _ ∧ _
  exact ⟨by decide +kernel, fun _ h => List.mem_cons_of_mem _ (List.mem_append_left _ (List.mem_append_left _ (List.mem_append_left _ (List.mem_append_left _ (List.mem_append_left _ (List.mem_append_left _ (List.mem_append_left _ (List.mem_append_left _ (List.mem_append_left _ (List.mem_append_right _ h)))))))))), List.mem_of_getElem? (i := 1) rfl, Or.inl rfl⟩
theorem fa_X11_minute_165 : FA RX11 wsX11_minute 165 1 9 "NineMowers$Course" := by
  show _ ∧ _ ∧ _ ∧ _
  exact ⟨by decide +kernel, fun _ h => List.mem_cons_of_mem _ (List.mem_append_left _ (List.mem_append_left _ (List.mem_append_left _ (List.mem_append_left _ (List.mem_append_left _ (List.mem_append_left _ (List.mem_append_left _ (List.mem_append_left _ (List.mem_append_right _ h))))))))), List.mem_of_getElem? (i := 2) rfl, Or.inl rfl⟩
theorem kv_X11_minute_X1_goesMinute : KV RX11 wsX11_minute (rmz 5) 180 RX1 yX1_goesMinute wsX1_goesMinute (rmz 4) 0 := ⟨_, _, _, _, gX11_minute_X1_goesMinute, rfl, by decide +kernel, by decide +kernel⟩
noncomputable def K_X11_minute (l : Launch) (V : Vx) (σ : Sg) (Qk : Int32 → Sg → Prop) : Prop := Ka l V yX11_minute wsX11_minute (rmz 5) 0 0 [.ref 0] σ (QI V Qk)
theorem e_X11_minute {l : Launch} {V : Vx} {σ : Sg} {Qk : Int32 → Sg → Prop} (h : ∀ M : Mx, mL M = l → mV M = V → mN M = 1 → Cx M cX11_minute (some .int) RX11 wsX11_minute (rmz 5) 0 0 (QI (mV M) Qk) → PS M 0 [(0, .ref 0)] [] σ (0, 0)) : K_X11_minute l V σ Qk :=
  Ka_of (by decide +kernel) rfl rfl (Nat.le_of_ble_eq_true rfl) (fun M h1 h2 h3 C => h M h1 h2 h3 (by rw [h2]; exact C))
set_option maxRecDepth 100000 in
set_option maxHeartbeats 4000000 in
theorem s_X11_minute_0 {M : Mx} {Qk : Int32 → Sg → Prop} (C : Cx M cX11_minute (some .int) RX11 wsX11_minute (rmz 5) 0 0 (QI (mV M) Qk)) (hN : mN M = 1) {σ : Sg} (h : (((gi σ 1 9) < (9999 : Int32) → K_X1_goesMinute (mL M) (mV M) 1 σ (fun r3 σ2 => Qk r3 σ2)) ∧ (¬ (gi σ 1 9) < (9999 : Int32) → Qk (-3 : Int32) σ))) : PS M 0 [(0, .ref 0)] [] σ (0, 0) := by
  refine P_aload_n C dX11_minute_0 0 rfl ?_
  refine P_getS C (e := 1) fa_X11_minute_12 kd_0 (d := 1) rfl (fxl fx_0) rfl dX11_minute_1 ?_
  refine P_getI C fa_X11_minute_165 kd_1 rfl (fxl fx_1) dX11_minute_4 ?_
  refine P_sipush C dX11_minute_7 (v := (9999 : Int32)) rfl ?_
  refine P_icmp_lt C dX11_minute_10 (tgt := 18) (by decide +kernel) (fun q1 => ?_) (fun q1 => ?_)
  · have h := h.1 q1
    refine P_aload_n C dX11_minute_18 0 rfl ?_
    refine P_getS C (e := 1) fa_X11_minute_12 kd_0 (d := 1) rfl (fxl fx_0) rfl dX11_minute_19 ?_
    refine P_ci (R_v (ci := 1) C kv_X11_minute_X1_goesMinute (As := []) rfl kd_1 rfl (fxl fx_1) (Nat.le_of_ble_eq_true rfl) dX11_minute_22 ⟨Nat.le_refl _, Nat.le_refl _⟩ h) (fun r3 σ2 h => ?_)
    exact P_iret C dX11_minute_25 h
  · have h := h.2 q1
    refine P_bipush C dX11_minute_13 (v := (-3 : Int32)) rfl ?_
    refine P_goto C dX11_minute_15 (tgt := 25) (by decide +kernel) ?_
    exact P_iret C dX11_minute_25 h
theorem fa_X11_heldTimes_21 : FA RX11 wsX11_heldTimes 21 11 2 "NineMowers" := by
  show _ ∧ _ ∧ _ ∧ _
  exact ⟨by decide +kernel, fun _ h => List.mem_cons_of_mem _ (List.mem_append_left _ (List.mem_append_left _ (List.mem_append_left _ (List.mem_append_left _ (List.mem_append_left _ (List.mem_append_left _ (List.mem_append_left _ (List.mem_append_left _ (List.mem_append_left _ (List.mem_append_right _ h)))))))))), List.mem_of_getElem? (i := 1) rfl, Or.inl rfl⟩
theorem kv_X11_heldTimes_X1_goesMinute : KV RX11 wsX11_heldTimes (rmz 5) 180 RX1 yX1_goesMinute wsX1_goesMinute (rmz 4) 0 := ⟨_, _, _, _, gX11_heldTimes_X1_goesMinute, rfl, by decide +kernel, by decide +kernel⟩
noncomputable def K_X11_heldTimes (l : Launch) (V : Vx) (a1 : Int32) (a2 : Int32) (σ : Sg) (Qk : Int32 → Sg → Prop) : Prop := Ka l V yX11_heldTimes wsX11_heldTimes (rmz 5) 0 0 [.ref 0, .int a1, .int a2] σ (QI V Qk)
theorem e_X11_heldTimes {l : Launch} {V : Vx} {a1 : Int32} {a2 : Int32} {σ : Sg} {Qk : Int32 → Sg → Prop} (h : ∀ M : Mx, mL M = l → mV M = V → mN M = 5 → Cx M cX11_heldTimes (some .int) RX11 wsX11_heldTimes (rmz 5) 0 0 (QI (mV M) Qk) → PS M 0 [(0, .ref 0), (1, .int a1), (2, .int a2)] [] σ (0, 0)) : K_X11_heldTimes l V a1 a2 σ Qk :=
  Ka_of (by decide +kernel) rfl rfl (Nat.le_of_ble_eq_true rfl) (fun M h1 h2 h3 C => h M h1 h2 h3 (by rw [h2]; exact C))
set_option maxRecDepth 100000 in
set_option maxHeartbeats 4000000 in
theorem s_X11_heldTimes_0 {M : Mx} {Qk : Int32 → Sg → Prop} (C : Cx M cX11_heldTimes (some .int) RX11 wsX11_heldTimes (rmz 5) 0 0 (QI (mV M) Qk)) (hN : mN M = 5) {a1 : Int32} {a2 : Int32} {σ : Sg} (h : PS M 5 [(0, .ref 0), (1, .int a1), (2, .int a2), (3, .int (0 : Int32)), (4, .int (0 : Int32))] [] σ (0, 0)) : PS M 0 [(0, .ref 0), (1, .int a1), (2, .int a2)] [] σ (0, 0) := by
  refine P_iconst C dX11_heldTimes_0 (v := (0 : Int32)) rfl ?_
  refine P_istore_n C dX11_heldTimes_1 (by rw [hN]; decide) rfl ?_
  refine P_iconst C dX11_heldTimes_2 (v := (0 : Int32)) rfl ?_
  refine P_istore C dX11_heldTimes_3 (by rw [hN]; decide) rfl ?_
  exact P_sub [2, 3, 4, 1, 0] rfl h
set_option maxRecDepth 100000 in
set_option maxHeartbeats 4000000 in
theorem s_X11_heldTimes_5 {M : Mx} {Qk : Int32 → Sg → Prop} (C : Cx M cX11_heldTimes (some .int) RX11 wsX11_heldTimes (rmz 5) 0 0 (QI (mV M) Qk)) (hN : mN M = 5) {x1 : Int32} {x2 : Int32} {x3 : Int32} {x4 : Int32} {σ : Sg} (h : ((x2 ≤ x4 → Qk x3 σ) ∧ (¬ x2 ≤ x4 → K_X1_goesMinute (mL M) (mV M) 33 σ (fun r3 σ2 => (∀ v4 : Int32, v4 = x3 + ((r3 >>> (x1 &&& 31)) &&& (1 : Int32)) → (∀ v5 : Int32, v5 = x4 + 1 → PS M 5 [(0, .ref 0), (1, .int x1), (2, .int x2), (3, .int v4), (4, .int v5)] [] σ2 (0, 0))))))) : PS M 5 [(0, .ref 0), (1, .int x1), (2, .int x2), (3, .int x3), (4, .int x4)] [] σ (0, 0) := by
  refine P_iload C dX11_heldTimes_5 4 rfl ?_
  refine P_iload_n C dX11_heldTimes_7 2 rfl ?_
  refine P_icmp_ge C dX11_heldTimes_8 (tgt := 31) (by decide +kernel) (fun q1 => ?_) (fun q1 => ?_)
  · have h := h.1 q1
    refine P_iload_n C dX11_heldTimes_31 3 rfl ?_
    exact P_iret C dX11_heldTimes_32 h
  · have h := h.2 q1
    refine P_iload_n C dX11_heldTimes_11 3 rfl ?_
    refine P_aload_n C dX11_heldTimes_12 0 rfl ?_
    refine P_getS C (e := 33) fa_X11_heldTimes_21 kd_0 (d := 33) rfl (fxl fx_0) rfl dX11_heldTimes_13 ?_
    refine P_ci (R_v (ci := 1) C kv_X11_heldTimes_X1_goesMinute (As := []) rfl kd_33 rfl (fxl fx_33) (Nat.le_of_ble_eq_true rfl) dX11_heldTimes_16 ⟨Nat.le_refl _, Nat.le_refl _⟩ h) (fun r3 σ2 h => ?_)
    refine P_iload_n C dX11_heldTimes_19 1 rfl ?_
    refine P_ishr C dX11_heldTimes_20 ?_
    refine P_iconst C dX11_heldTimes_21 (v := (1 : Int32)) rfl ?_
    refine P_iand C dX11_heldTimes_22 ?_
    refine P_iadd C dX11_heldTimes_23 ?_
    refine P_nmi (fun v4 ev4 => ?_)
    have h := h v4 ev4
    refine P_istore_n C dX11_heldTimes_24 (by rw [hN]; decide) rfl ?_
    obtain ⟨v5, ev5⟩ : ∃ v : Int32, v = x4 + 1 := ⟨_, rfl⟩
    have h := h v5 ev5
    refine P_iinc (v := v5) C dX11_heldTimes_25 4 rfl (by rw [ev5]; rfl) (by rw [hN]; decide) rfl ?_
    refine P_goto C dX11_heldTimes_28 (tgt := 5) (by decide +kernel) ?_
    exact P_sub [2, 3, 4, 1, 0] rfl h
theorem fa_X11_done_21 : FA RX11 wsX11_done 21 11 2 "NineMowers" := by
  show _ ∧ _ ∧ _ ∧ _
  exact ⟨by decide +kernel, fun _ h => List.mem_cons_of_mem _ (List.mem_append_left _ (List.mem_append_left _ (List.mem_append_left _ (List.mem_append_left _ (List.mem_append_left _ (List.mem_append_left _ (List.mem_append_left _ (List.mem_append_left _ (List.mem_append_left _ (List.mem_append_right _ h)))))))))), List.mem_of_getElem? (i := 1) rfl, Or.inl rfl⟩
theorem fa_X11_done_12 : FA RX11 wsX11_done 12 11 0 "NineMowers" := by
  show _ ∧ _ ∧ _ ∧ _
  exact ⟨by decide +kernel, fun _ h => List.mem_cons_of_mem _ (List.mem_append_left _ (List.mem_append_left _ (List.mem_append_left _ (List.mem_append_left _ (List.mem_append_left _ (List.mem_append_left _ (List.mem_append_left _ (List.mem_append_left _ (List.mem_append_left _ (List.mem_append_right _ h)))))))))), List.mem_of_getElem? (i := 2) rfl, Or.inl rfl⟩
theorem kv_X11_done_X1_becomes : KV RX11 wsX11_done (rmz 5) 189 RX1 yX1_becomes wsX1_becomes (rmz 1) 1 := ⟨_, _, _, _, gX11_done_X1_becomes, rfl, by decide +kernel, by decide +kernel⟩
theorem kv_X11_done_X1_isDone : KV RX11 wsX11_done (rmz 5) 202 RX1 yX1_isDone wsX1_isDone (rmz 0) 0 := ⟨_, _, _, _, gX11_done_X1_isDone, rfl, by decide +kernel, by decide +kernel⟩
theorem kv_X11_done_X1_goesMinute : KV RX11 wsX11_done (rmz 5) 180 RX1 yX1_goesMinute wsX1_goesMinute (rmz 4) 0 := ⟨_, _, _, _, gX11_done_X1_goesMinute, rfl, by decide +kernel, by decide +kernel⟩
noncomputable def K_X11_done (l : Launch) (V : Vx) (σ : Sg) (Qk : Int32 → Sg → Prop) : Prop := Ka l V yX11_done wsX11_done (rmz 5) 0 0 [.ref 0] σ (QI V Qk)
theorem e_X11_done {l : Launch} {V : Vx} {σ : Sg} {Qk : Int32 → Sg → Prop} (h : ∀ M : Mx, mL M = l → mV M = V → mN M = 2 → Cx M cX11_done (some .int) RX11 wsX11_done (rmz 5) 0 0 (QI (mV M) Qk) → PS M 0 [(0, .ref 0)] [] σ (0, 0)) : K_X11_done l V σ Qk :=
  Ka_of (by decide +kernel) rfl rfl (Nat.le_of_ble_eq_true rfl) (fun M h1 h2 h3 C => h M h1 h2 h3 (by rw [h2]; exact C))
set_option maxRecDepth 100000 in
set_option maxHeartbeats 4000000 in
theorem s_X11_done_0 {M : Mx} {Qk : Int32 → Sg → Prop} (C : Cx M cX11_done (some .int) RX11 wsX11_done (rmz 5) 0 0 (QI (mV M) Qk)) (hN : mN M = 2) {σ : Sg} (h : K_X1_becomes (mL M) (mV M) 33 1 σ (fun σ1 => PS M 13 [(0, .ref 0), (1, .int (0 : Int32))] [] σ1 (0, 0))) : PS M 0 [(0, .ref 0)] [] σ (0, 0) := by
  refine P_aload_n C dX11_done_0 0 rfl ?_
  refine P_getS C (e := 33) fa_X11_done_21 kd_0 (d := 33) rfl (fxl fx_0) rfl dX11_done_1 ?_
  refine P_aload_n C dX11_done_4 0 rfl ?_
  refine P_getS C (e := 1) fa_X11_done_12 kd_0 (d := 1) rfl (fxl fx_0) rfl dX11_done_5 ?_
  refine P_cv (R_v (ci := 1) C kv_X11_done_X1_becomes (As := [.ref 1]) rfl kd_33 rfl (fxl fx_33) (Nat.le_of_ble_eq_true rfl) dX11_done_8 ⟨Nat.le_refl _, Nat.le_refl _⟩ h) (fun σ1 h => ?_)
  refine P_iconst C dX11_done_11 (v := (0 : Int32)) rfl ?_
  refine P_istore_n C dX11_done_12 (by rw [hN]; decide) rfl ?_
  exact P_sub [1, 0] rfl h
set_option maxRecDepth 100000 in
set_option maxHeartbeats 4000000 in
theorem s_X11_done_13 {M : Mx} {Qk : Int32 → Sg → Prop} (C : Cx M cX11_done (some .int) RX11 wsX11_done (rmz 5) 0 0 (QI (mV M) Qk)) (hN : mN M = 2) {x1 : Int32} {σ : Sg} (h : (((120 : Int32) < x1 → Qk (-5 : Int32) σ) ∧ (¬ (120 : Int32) < x1 → K_X1_isDone (mL M) (mV M) 33 σ (fun r3 σ2 => ((r3 = 0 → K_X1_goesMinute (mL M) (mV M) 33 σ2 (fun r6 σ5 => (∀ v7 : Int32, v7 = x1 + 1 → PS M 13 [(0, .ref 0), (1, .int v7)] [] σ5 (0, 0)))) ∧ (¬ r3 = 0 → Qk x1 σ2)))))) : PS M 13 [(0, .ref 0), (1, .int x1)] [] σ (0, 0) := by
  refine P_iload_n C dX11_done_13 1 rfl ?_
  refine P_bipush C dX11_done_14 (v := (120 : Int32)) rfl ?_
  refine P_icmp_gt C dX11_done_16 (tgt := 45) (by decide +kernel) (fun q1 => ?_) (fun q1 => ?_)
  · have h := h.1 q1
    refine P_bipush C dX11_done_45 (v := (-5 : Int32)) rfl ?_
    exact P_iret C dX11_done_47 h
  · have h := h.2 q1
    refine P_aload_n C dX11_done_19 0 rfl ?_
    refine P_getS C (e := 33) fa_X11_done_21 kd_0 (d := 33) rfl (fxl fx_0) rfl dX11_done_20 ?_
    refine P_ci (R_v (ci := 1) C kv_X11_done_X1_isDone (As := []) rfl kd_33 rfl (fxl fx_33) (Nat.le_of_ble_eq_true rfl) dX11_done_23 ⟨Nat.le_refl _, Nat.le_refl _⟩ h) (fun r3 σ2 h => ?_)
    refine P_if_eq C dX11_done_26 (tgt := 31) (by decide +kernel) (fun q4 => ?_) (fun q4 => ?_)
    · have h := h.1 q4
      refine P_aload_n C dX11_done_31 0 rfl ?_
      refine P_getS C (e := 33) fa_X11_done_21 kd_0 (d := 33) rfl (fxl fx_0) rfl dX11_done_32 ?_
      refine P_ci (R_v (ci := 1) C kv_X11_done_X1_goesMinute (As := []) rfl kd_33 rfl (fxl fx_33) (Nat.le_of_ble_eq_true rfl) dX11_done_35 ⟨Nat.le_refl _, Nat.le_refl _⟩ h) (fun r6 σ5 h => ?_)
      refine P_pop C dX11_done_38 rfl ?_
      obtain ⟨v7, ev7⟩ : ∃ v : Int32, v = x1 + 1 := ⟨_, rfl⟩
      have h := h v7 ev7
      refine P_iinc (v := v7) C dX11_done_39 1 rfl (by rw [ev7]; rfl) (by rw [hN]; decide) rfl ?_
      refine P_goto C dX11_done_42 (tgt := 13) (by decide +kernel) ?_
      exact P_sub [1, 0] rfl h
    · have h := h.2 q4
      refine P_iload_n C dX11_done_29 1 rfl ?_
      exact P_iret C dX11_done_30 h
theorem fa_X11_totalInOrder_21 : FA RX11 wsX11_totalInOrder 21 11 2 "NineMowers" := by
  show _ ∧ _ ∧ _ ∧ _
  exact ⟨by decide +kernel, fun _ h => List.mem_cons_of_mem _ (List.mem_append_left _ (List.mem_append_left _ (List.mem_append_left _ (List.mem_append_left _ (List.mem_append_left _ (List.mem_append_left _ (List.mem_append_left _ (List.mem_append_left _ (List.mem_append_left _ (List.mem_append_right _ h)))))))))), List.mem_of_getElem? (i := 1) rfl, Or.inl rfl⟩
theorem fa_X11_totalInOrder_12 : FA RX11 wsX11_totalInOrder 12 11 0 "NineMowers" := by
  show _ ∧ _ ∧ _ ∧ _
  exact ⟨by decide +kernel, fun _ h => List.mem_cons_of_mem _ (List.mem_append_left _ (List.mem_append_left _ (List.mem_append_left _ (List.mem_append_left _ (List.mem_append_left _ (List.mem_append_left _ (List.mem_append_left _ (List.mem_append_left _ (List.mem_append_left _ (List.mem_append_right _ h)))))))))), List.mem_of_getElem? (i := 2) rfl, Or.inl rfl⟩
theorem kv_X11_totalInOrder_X1_becomes : KV RX11 wsX11_totalInOrder (rmz 5) 189 RX1 yX1_becomes wsX1_becomes (rmz 1) 1 := ⟨_, _, _, _, gX11_totalInOrder_X1_becomes, rfl, by decide +kernel, by decide +kernel⟩
theorem fa_X11_totalInOrder_76 : FA RX11 wsX11_totalInOrder 76 1 1 "NineMowers$Course" := by
  show _ ∧ _ ∧ _ ∧ _
  exact ⟨by decide +kernel, fun _ h => List.mem_cons_of_mem _ (List.mem_append_left _ (List.mem_append_left _ (List.mem_append_left _ (List.mem_append_left _ (List.mem_append_left _ (List.mem_append_left _ (List.mem_append_left _ (List.mem_append_left _ (List.mem_append_right _ h))))))))), List.mem_of_getElem? (i := 3) rfl, Or.inl rfl⟩
theorem fa_X11_totalInOrder_177 : FA RX11 wsX11_totalInOrder 177 1 2 "NineMowers$Course" := by
  show _ ∧ _ ∧ _ ∧ _
  exact ⟨by decide +kernel, fun _ h => List.mem_cons_of_mem _ (List.mem_append_left _ (List.mem_append_left _ (List.mem_append_left _ (List.mem_append_left _ (List.mem_append_left _ (List.mem_append_left _ (List.mem_append_left _ (List.mem_append_left _ (List.mem_append_right _ h))))))))), List.mem_of_getElem? (i := 4) rfl, Or.inl rfl⟩
theorem fa_X11_totalInOrder_60 : FA RX11 wsX11_totalInOrder 60 11 10 "NineMowers" := by
  show _ ∧ _ ∧ _ ∧ _
  exact ⟨by decide +kernel, fun _ h => List.mem_cons_of_mem _ (List.mem_append_left _ (List.mem_append_left _ (List.mem_append_left _ (List.mem_append_left _ (List.mem_append_left _ (List.mem_append_left _ (List.mem_append_left _ (List.mem_append_left _ (List.mem_append_left _ (List.mem_append_right _ h)))))))))), List.mem_of_getElem? (i := 5) rfl, Or.inl rfl⟩
theorem fa_X11_totalInOrder_124 : FA RX11 wsX11_totalInOrder 124 1 4 "NineMowers$Course" := by
  show _ ∧ _ ∧ _ ∧ _
  exact ⟨by decide +kernel, fun _ h => List.mem_cons_of_mem _ (List.mem_append_left _ (List.mem_append_left _ (List.mem_append_left _ (List.mem_append_left _ (List.mem_append_left _ (List.mem_append_left _ (List.mem_append_left _ (List.mem_append_left _ (List.mem_append_right _ h))))))))), List.mem_of_getElem? (i := 6) rfl, Or.inl rfl⟩
theorem kv_X11_totalInOrder_X1_allAt : KV RX11 wsX11_totalInOrder (rmz 5) 199 RX1 yX1_allAt wsX1_allAt (rmz 0) 0 := ⟨_, _, _, _, gX11_totalInOrder_X1_allAt, rfl, by decide +kernel, by decide +kernel⟩
theorem kv_X11_totalInOrder_X1_goesMinute : KV RX11 wsX11_totalInOrder (rmz 5) 180 RX1 yX1_goesMinute wsX1_goesMinute (rmz 4) 0 := ⟨_, _, _, _, gX11_totalInOrder_X1_goesMinute, rfl, by decide +kernel, by decide +kernel⟩
noncomputable def K_X11_totalInOrder (l : Launch) (V : Vx) (a1 : Int32) (σ : Sg) (Qk : Int32 → Sg → Prop) : Prop := Ka l V yX11_totalInOrder wsX11_totalInOrder (rmz 5) 0 0 [.ref 0, .int a1] σ (QI V Qk)
theorem e_X11_totalInOrder {l : Launch} {V : Vx} {a1 : Int32} {σ : Sg} {Qk : Int32 → Sg → Prop} (h : ∀ M : Mx, mL M = l → mV M = V → mN M = 3 → Cx M cX11_totalInOrder (some .int) RX11 wsX11_totalInOrder (rmz 5) 0 0 (QI (mV M) Qk) → PS M 0 [(0, .ref 0), (1, .int a1)] [] σ (0, 0)) : K_X11_totalInOrder l V a1 σ Qk :=
  Ka_of (by decide +kernel) rfl rfl (Nat.le_of_ble_eq_true rfl) (fun M h1 h2 h3 C => h M h1 h2 h3 (by rw [h2]; exact C))
set_option maxRecDepth 100000 in
set_option maxHeartbeats 4000000 in
theorem s_X11_totalInOrder_0 {M : Mx} {Qk : Int32 → Sg → Prop} (C : Cx M cX11_totalInOrder (some .int) RX11 wsX11_totalInOrder (rmz 5) 0 0 (QI (mV M) Qk)) (hN : mN M = 3) {a1 : Int32} {σ : Sg} (h : K_X1_becomes (mL M) (mV M) 33 1 σ (fun σ1 => PS M 13 [(0, .ref 0), (1, .int a1), (2, .int (0 : Int32))] [] σ1 (0, 0))) : PS M 0 [(0, .ref 0), (1, .int a1)] [] σ (0, 0) := by
  refine P_aload_n C dX11_totalInOrder_0 0 rfl ?_
  refine P_getS C (e := 33) fa_X11_totalInOrder_21 kd_0 (d := 33) rfl (fxl fx_0) rfl dX11_totalInOrder_1 ?_
  refine P_aload_n C dX11_totalInOrder_4 0 rfl ?_
  refine P_getS C (e := 1) fa_X11_totalInOrder_12 kd_0 (d := 1) rfl (fxl fx_0) rfl dX11_totalInOrder_5 ?_
  refine P_cv (R_v (ci := 1) C kv_X11_totalInOrder_X1_becomes (As := [.ref 1]) rfl kd_33 rfl (fxl fx_33) (Nat.le_of_ble_eq_true rfl) dX11_totalInOrder_8 ⟨Nat.le_refl _, Nat.le_refl _⟩ h) (fun σ1 h => ?_)
  refine P_iconst C dX11_totalInOrder_11 (v := (0 : Int32)) rfl ?_
  refine P_istore_n C dX11_totalInOrder_12 (by rw [hN]; decide) rfl ?_
  exact P_sub [1, 2, 0] rfl h
set_option maxRecDepth 100000 in
set_option maxHeartbeats 4000000 in
theorem s_X11_totalInOrder_13 {M : Mx} {Qk : Int32 → Sg → Prop} (C : Cx M cX11_totalInOrder (some .int) RX11 wsX11_totalInOrder (rmz 5) 0 0 (QI (mV M) Qk)) (hN : mN M = 3) {x1 : Int32} {x2 : Int32} {σ : Sg} (h : (((gi σ 33 1) ≤ x2 → PS M 62 [(0, .ref 0), (1, .int x1), (2, .int (0 : Int32))] [] σ (0, 0)) ∧ (¬ (gi σ 33 1) ≤ x2 → (((5 : Int32) ≤ x2 → PS M 62 [(0, .ref 0), (1, .int x1), (2, .int (0 : Int32))] [] σ (0, 0)) ∧ (¬ (5 : Int32) ≤ x2 → (vp_in x2 5 ∧ (vp_in x2 6 ∧ (∀ σ5 : Sg, σ5 = si σ 35 x2.toNatClampNeg (gi σ 66 x2.toNatClampNeg) → (vp_in x2 6 ∧ (∀ σ7 : Sg, σ7 = si σ5 36 x2.toNatClampNeg (0 : Int32) → (∀ v8 : Int32, v8 = x2 + 1 → PS M 13 [(0, .ref 0), (1, .int x1), (2, .int v8)] [] σ7 (0, 0)))))))))))) : PS M 13 [(0, .ref 0), (1, .int x1), (2, .int x2)] [] σ (0, 0) := by
  refine P_iload_n C dX11_totalInOrder_13 2 rfl ?_
  refine P_aload_n C dX11_totalInOrder_14 0 rfl ?_
  refine P_getS C (e := 33) fa_X11_totalInOrder_21 kd_0 (d := 33) rfl (fxl fx_0) rfl dX11_totalInOrder_15 ?_
  refine P_getI C fa_X11_totalInOrder_76 kd_33 rfl (fxl fx_33) dX11_totalInOrder_18 ?_
  refine P_icmp_ge C dX11_totalInOrder_21 (tgt := 60) (by decide +kernel) (fun q1 => ?_) (fun q1 => ?_)
  · have h := h.1 q1
    refine P_iconst C dX11_totalInOrder_60 (v := (0 : Int32)) rfl ?_
    refine P_istore_n C dX11_totalInOrder_61 (by rw [hN]; decide) rfl ?_
    exact P_sub [1, 2, 0] rfl h
  · have h := h.2 q1
    refine P_iload_n C dX11_totalInOrder_24 2 rfl ?_
    refine P_iconst C dX11_totalInOrder_25 (v := (5 : Int32)) rfl ?_
    refine P_icmp_ge C dX11_totalInOrder_26 (tgt := 60) (by decide +kernel) (fun q2 => ?_) (fun q2 => ?_)
    · have h := h.1 q2
      refine P_iconst C dX11_totalInOrder_60 (v := (0 : Int32)) rfl ?_
      refine P_istore_n C dX11_totalInOrder_61 (by rw [hN]; decide) rfl ?_
      exact P_sub [1, 2, 0] rfl h
    · have h := h.2 q2
      refine P_aload_n C dX11_totalInOrder_29 0 rfl ?_
      refine P_getS C (e := 33) fa_X11_totalInOrder_21 kd_0 (d := 33) rfl (fxl fx_0) rfl dX11_totalInOrder_30 ?_
      refine P_getS C (e := 35) fa_X11_totalInOrder_177 kd_33 (d := 2) rfl (fxl fx_33) rfl dX11_totalInOrder_33 ?_
      refine P_iload_n C dX11_totalInOrder_36 2 rfl ?_
      refine P_aload_n C dX11_totalInOrder_37 0 rfl ?_
      refine P_getS C (e := 66) fa_X11_totalInOrder_60 kd_0 (d := 66) rfl (fxl fx_0) rfl dX11_totalInOrder_38 ?_
      refine P_iload_n C dX11_totalInOrder_41 2 rfl ?_
      obtain ⟨hv3, h⟩ := h
      refine P_iald C kd_66 (fxl fx_66) hv3 dX11_totalInOrder_42 ?_
      obtain ⟨hv4, h⟩ := h
      refine P_iast C kd_35 (fxl fx_35) hv4 dX11_totalInOrder_43 ?_
      refine P_nm (fun σ5 eσ5 => ?_)
      have h := h σ5 eσ5
      refine P_aload_n C dX11_totalInOrder_44 0 rfl ?_
      refine P_getS C (e := 33) fa_X11_totalInOrder_21 kd_0 (d := 33) rfl (fxl fx_0) rfl dX11_totalInOrder_45 ?_
      refine P_getS C (e := 36) fa_X11_totalInOrder_124 kd_33 (d := 3) rfl (fxl fx_33) rfl dX11_totalInOrder_48 ?_
      refine P_iload_n C dX11_totalInOrder_51 2 rfl ?_
      refine P_iconst C dX11_totalInOrder_52 (v := (0 : Int32)) rfl ?_
      obtain ⟨hv6, h⟩ := h
      refine P_iast C kd_36 (fxl fx_36) hv6 dX11_totalInOrder_53 ?_
      refine P_nm (fun σ7 eσ7 => ?_)
      have h := h σ7 eσ7
      obtain ⟨v8, ev8⟩ : ∃ v : Int32, v = x2 + 1 := ⟨_, rfl⟩
      have h := h v8 ev8
      refine P_iinc (v := v8) C dX11_totalInOrder_54 2 rfl (by rw [ev8]; rfl) (by rw [hN]; decide) rfl ?_
      refine P_goto C dX11_totalInOrder_57 (tgt := 13) (by decide +kernel) ?_
      exact P_sub [1, 2, 0] rfl h
set_option maxRecDepth 100000 in
set_option maxHeartbeats 4000000 in
theorem s_X11_totalInOrder_62 {M : Mx} {Qk : Int32 → Sg → Prop} (C : Cx M cX11_totalInOrder (some .int) RX11 wsX11_totalInOrder (rmz 5) 0 0 (QI (mV M) Qk)) (hN : mN M = 3) {x1 : Int32} {x2 : Int32} {σ : Sg} (h : ((x1 ≤ x2 → K_X1_allAt (mL M) (mV M) 33 σ (fun r3 σ2 => Qk r3 σ2)) ∧ (¬ x1 ≤ x2 → K_X1_goesMinute (mL M) (mV M) 33 σ (fun r5 σ4 => (∀ v6 : Int32, v6 = x2 + 1 → PS M 62 [(0, .ref 0), (1, .int x1), (2, .int v6)] [] σ4 (0, 0)))))) : PS M 62 [(0, .ref 0), (1, .int x1), (2, .int x2)] [] σ (0, 0) := by
  refine P_iload_n C dX11_totalInOrder_62 2 rfl ?_
  refine P_iload_n C dX11_totalInOrder_63 1 rfl ?_
  refine P_icmp_ge C dX11_totalInOrder_64 (tgt := 81) (by decide +kernel) (fun q1 => ?_) (fun q1 => ?_)
  · have h := h.1 q1
    refine P_aload_n C dX11_totalInOrder_81 0 rfl ?_
    refine P_getS C (e := 33) fa_X11_totalInOrder_21 kd_0 (d := 33) rfl (fxl fx_0) rfl dX11_totalInOrder_82 ?_
    refine P_ci (R_v (ci := 1) C kv_X11_totalInOrder_X1_allAt (As := []) rfl kd_33 rfl (fxl fx_33) (Nat.le_of_ble_eq_true rfl) dX11_totalInOrder_85 ⟨Nat.le_refl _, Nat.le_refl _⟩ h) (fun r3 σ2 h => ?_)
    exact P_iret C dX11_totalInOrder_88 h
  · have h := h.2 q1
    refine P_aload_n C dX11_totalInOrder_67 0 rfl ?_
    refine P_getS C (e := 33) fa_X11_totalInOrder_21 kd_0 (d := 33) rfl (fxl fx_0) rfl dX11_totalInOrder_68 ?_
    refine P_ci (R_v (ci := 1) C kv_X11_totalInOrder_X1_goesMinute (As := []) rfl kd_33 rfl (fxl fx_33) (Nat.le_of_ble_eq_true rfl) dX11_totalInOrder_71 ⟨Nat.le_refl _, Nat.le_refl _⟩ h) (fun r5 σ4 h => ?_)
    refine P_pop C dX11_totalInOrder_74 rfl ?_
    obtain ⟨v6, ev6⟩ : ∃ v : Int32, v = x2 + 1 := ⟨_, rfl⟩
    have h := h v6 ev6
    refine P_iinc (v := v6) C dX11_totalInOrder_75 2 rfl (by rw [ev6]; rfl) (by rw [hN]; decide) rfl ?_
    refine P_goto C dX11_totalInOrder_78 (tgt := 62) (by decide +kernel) ?_
    exact P_sub [1, 2, 0] rfl h
theorem fa_X11_totalBy_21 : FA RX11 wsX11_totalBy 21 11 2 "NineMowers" := by
  show _ ∧ _ ∧ _ ∧ _
  exact ⟨by decide +kernel, fun _ h => List.mem_cons_of_mem _ (List.mem_append_left _ (List.mem_append_left _ (List.mem_append_left _ (List.mem_append_left _ (List.mem_append_left _ (List.mem_append_left _ (List.mem_append_left _ (List.mem_append_left _ (List.mem_append_left _ (List.mem_append_right _ h)))))))))), List.mem_of_getElem? (i := 1) rfl, Or.inl rfl⟩
theorem fa_X11_totalBy_12 : FA RX11 wsX11_totalBy 12 11 0 "NineMowers" := by
  show _ ∧ _ ∧ _ ∧ _
  exact ⟨by decide +kernel, fun _ h => List.mem_cons_of_mem _ (List.mem_append_left _ (List.mem_append_left _ (List.mem_append_left _ (List.mem_append_left _ (List.mem_append_left _ (List.mem_append_left _ (List.mem_append_left _ (List.mem_append_left _ (List.mem_append_left _ (List.mem_append_right _ h)))))))))), List.mem_of_getElem? (i := 2) rfl, Or.inl rfl⟩
theorem kv_X11_totalBy_X1_becomes : KV RX11 wsX11_totalBy (rmz 5) 189 RX1 yX1_becomes wsX1_becomes (rmz 1) 1 := ⟨_, _, _, _, gX11_totalBy_X1_becomes, rfl, by decide +kernel, by decide +kernel⟩
theorem pa_X11_totalBy_238 : PA RX11 wsX11_totalBy 238 1 11 "NineMowers$Course" .int := by
  show _ ∧ _ ∧ _ ∧ _ ∧ _ ∧ _ ∧ _ ∧ _
  exact ⟨by decide +kernel, fun _ h => List.mem_cons_of_mem _ (List.mem_append_left _ (List.mem_append_left _ (List.mem_append_left _ (List.mem_append_left _ (List.mem_append_left _ (List.mem_append_left _ (List.mem_append_left _ (List.mem_append_left _ (List.mem_append_right _ h))))))))), List.mem_of_getElem? (i := 3) rfl, rfl, rfl, by decide +kernel, ⟨tyX1, tyX1_ok⟩, nmX1⟩
theorem kv_X11_totalBy_X11_isMower : KV RX11 wsX11_totalBy (rmz 5) 110 RX11 yX11_isMower wsX11_isMower (rmz 0) 1 := ⟨_, _, _, _, gX11_totalBy_X11_isMower, rfl, by decide +kernel, by decide +kernel⟩
theorem fa_X11_totalBy_133 : FA RX11 wsX11_totalBy 133 1 7 "NineMowers$Course" := by
  show _ ∧ _ ∧ _ ∧ _
  exact ⟨by decide +kernel, fun _ h => List.mem_cons_of_mem _ (List.mem_append_left _ (List.mem_append_left _ (List.mem_append_left _ (List.mem_append_left _ (List.mem_append_left _ (List.mem_append_left _ (List.mem_append_left _ (List.mem_append_left _ (List.mem_append_right _ h))))))))), List.mem_of_getElem? (i := 4) rfl, Or.inl rfl⟩
theorem kv_X11_totalBy_X1_allAt : KV RX11 wsX11_totalBy (rmz 5) 199 RX1 yX1_allAt wsX1_allAt (rmz 0) 0 := ⟨_, _, _, _, gX11_totalBy_X1_allAt, rfl, by decide +kernel, by decide +kernel⟩
theorem kv_X11_totalBy_X1_rests : KV RX11 wsX11_totalBy (rmz 5) 186 RX1 yX1_rests wsX1_rests (rmz 2) 1 := ⟨_, _, _, _, gX11_totalBy_X1_rests, rfl, by decide +kernel, by decide +kernel⟩
theorem kv_X11_totalBy_X1_goesMinute : KV RX11 wsX11_totalBy (rmz 5) 180 RX1 yX1_goesMinute wsX1_goesMinute (rmz 4) 0 := ⟨_, _, _, _, gX11_totalBy_X1_goesMinute, rfl, by decide +kernel, by decide +kernel⟩
theorem kf_X11_totalBy_X11_whetsIn : KF RX11 wsX11_totalBy (rmz 5) 241 yX11_whetsIn wsX11_whetsIn (rmz 0) 2 := ⟨_, _, _, _, gX11_totalBy_X11_whetsIn, rfl, by decide +kernel, by decide +kernel⟩
theorem kv_X11_totalBy_X1_whetsAll : KV RX11 wsX11_totalBy (rmz 5) 183 RX1 yX1_whetsAll wsX1_whetsAll (rmz 2) 0 := ⟨_, _, _, _, gX11_totalBy_X1_whetsAll, rfl, by decide +kernel, by decide +kernel⟩
noncomputable def K_X11_totalBy (l : Launch) (V : Vx) (a1 : Int32) (a2 : Int32) (a3 : Int32) (σ : Sg) (Qk : Int32 → Sg → Prop) : Prop := Ka l V yX11_totalBy wsX11_totalBy (rmz 5) 0 0 [.ref 0, .int a1, .int a2, .int a3] σ (QI V Qk)
theorem e_X11_totalBy {l : Launch} {V : Vx} {a1 : Int32} {a2 : Int32} {a3 : Int32} {σ : Sg} {Qk : Int32 → Sg → Prop} (h : ∀ M : Mx, mL M = l → mV M = V → mN M = 5 → Cx M cX11_totalBy (some .int) RX11 wsX11_totalBy (rmz 5) 0 0 (QI (mV M) Qk) → PS M 0 [(0, .ref 0), (1, .int a1), (2, .int a2), (3, .int a3)] [] σ (0, 0)) : K_X11_totalBy l V a1 a2 a3 σ Qk :=
  Ka_of (by decide +kernel) rfl rfl (Nat.le_of_ble_eq_true rfl) (fun M h1 h2 h3 C => h M h1 h2 h3 (by rw [h2]; exact C))
set_option maxRecDepth 100000 in
set_option maxHeartbeats 4000000 in
theorem s_X11_totalBy_0 {M : Mx} {Qk : Int32 → Sg → Prop} (C : Cx M cX11_totalBy (some .int) RX11 wsX11_totalBy (rmz 5) 0 0 (QI (mV M) Qk)) (hN : mN M = 5) {a1 : Int32} {a2 : Int32} {a3 : Int32} {σ : Sg} (h : K_X1_becomes (mL M) (mV M) 33 1 σ (fun σ1 => ((¬ a1 = (1 : Int32) → PS M 24 [(0, .ref 0), (1, .int a1), (2, .int a2), (3, .int a3)] [] σ1 (0, 0)) ∧ (a1 = (1 : Int32) → (∀ σ3 : Sg, σ3 = si σ1 33 11 a3 → PS M 24 [(0, .ref 0), (1, .int a1), (2, .int a2), (3, .int a3)] [] σ3 (0, 0)))))) : PS M 0 [(0, .ref 0), (1, .int a1), (2, .int a2), (3, .int a3)] [] σ (0, 0) := by
  refine P_aload_n C dX11_totalBy_0 0 rfl ?_
  refine P_getS C (e := 33) fa_X11_totalBy_21 kd_0 (d := 33) rfl (fxl fx_0) rfl dX11_totalBy_1 ?_
  refine P_aload_n C dX11_totalBy_4 0 rfl ?_
  refine P_getS C (e := 1) fa_X11_totalBy_12 kd_0 (d := 1) rfl (fxl fx_0) rfl dX11_totalBy_5 ?_
  refine P_cv (R_v (ci := 1) C kv_X11_totalBy_X1_becomes (As := [.ref 1]) rfl kd_33 rfl (fxl fx_33) (Nat.le_of_ble_eq_true rfl) dX11_totalBy_8 ⟨Nat.le_refl _, Nat.le_refl _⟩ h) (fun σ1 h => ?_)
  refine P_iload_n C dX11_totalBy_11 1 rfl ?_
  refine P_iconst C dX11_totalBy_12 (v := (1 : Int32)) rfl ?_
  refine P_icmp_ne C dX11_totalBy_13 (tgt := 24) (by decide +kernel) (fun q2 => ?_) (fun q2 => ?_)
  · have h := h.1 q2
    exact P_sub [0, 1, 2, 3] rfl h
  · have h := h.2 q2
    refine P_aload_n C dX11_totalBy_16 0 rfl ?_
    refine P_getS C (e := 33) fa_X11_totalBy_21 kd_0 (d := 33) rfl (fxl fx_0) rfl dX11_totalBy_17 ?_
    refine P_iload_n C dX11_totalBy_20 3 rfl ?_
    refine P_putI C pa_X11_totalBy_238 kd_33 rfl (fxl fx_33) dX11_totalBy_21 ?_
    refine P_nm (fun σ3 eσ3 => ?_)
    have h := h σ3 eσ3
    exact P_sub [0, 1, 2, 3] rfl h
set_option maxRecDepth 100000 in
set_option maxHeartbeats 4000000 in
theorem s_X11_totalBy_24 {M : Mx} {Qk : Int32 → Sg → Prop} (C : Cx M cX11_totalBy (some .int) RX11 wsX11_totalBy (rmz 5) 0 0 (QI (mV M) Qk)) (hN : mN M = 5) {x1 : Int32} {x2 : Int32} {x3 : Int32} {σ : Sg} (h : ((¬ x1 = (2 : Int32) → PS M 53 [(0, .ref 0), (1, .int x1), (2, .int x2), (3, .int x3), (4, .int (0 : Int32))] [] σ (0, 0)) ∧ (x1 = (2 : Int32) → K_X11_isMower (mL M) (mV M) x3 σ (fun r3 σ2 => ((r3 = 0 → PS M 53 [(0, .ref 0), (1, .int x1), (2, .int x2), (3, .int x3), (4, .int (0 : Int32))] [] σ2 (0, 0)) ∧ (¬ r3 = 0 → (vp_in x3 6 ∧ (vp_in x3 6 ∧ (∀ σ7 : Sg, σ7 = si σ2 39 x3.toNatClampNeg ((gi σ2 39 x3.toNatClampNeg) + (5 : Int32)) → PS M 53 [(0, .ref 0), (1, .int x1), (2, .int x2), (3, .int x3), (4, .int (0 : Int32))] [] σ7 (0, 0)))))))))) : PS M 24 [(0, .ref 0), (1, .int x1), (2, .int x2), (3, .int x3)] [] σ (0, 0) := by
  refine P_iload_n C dX11_totalBy_24 1 rfl ?_
  refine P_iconst C dX11_totalBy_25 (v := (2 : Int32)) rfl ?_
  refine P_icmp_ne C dX11_totalBy_26 (tgt := 50) (by decide +kernel) (fun q1 => ?_) (fun q1 => ?_)
  · have h := h.1 q1
    refine P_iconst C dX11_totalBy_50 (v := (0 : Int32)) rfl ?_
    refine P_istore C dX11_totalBy_51 (by rw [hN]; decide) rfl ?_
    exact P_sub [1, 2, 3, 4, 0] rfl h
  · have h := h.2 q1
    refine P_aload_n C dX11_totalBy_29 0 rfl ?_
    refine P_iload_n C dX11_totalBy_30 3 rfl ?_
    refine P_ci (R_v (ci := 11) C kv_X11_totalBy_X11_isMower (As := [.int x3]) rfl kd_0 rfl (fxl fx_0) (Nat.le_of_ble_eq_true rfl) dX11_totalBy_31 ⟨Nat.le_refl _, Nat.le_refl _⟩ h) (fun r3 σ2 h => ?_)
    refine P_if_eq C dX11_totalBy_34 (tgt := 50) (by decide +kernel) (fun q4 => ?_) (fun q4 => ?_)
    · have h := h.1 q4
      refine P_iconst C dX11_totalBy_50 (v := (0 : Int32)) rfl ?_
      refine P_istore C dX11_totalBy_51 (by rw [hN]; decide) rfl ?_
      exact P_sub [1, 2, 3, 4, 0] rfl h
    · have h := h.2 q4
      refine P_aload_n C dX11_totalBy_37 0 rfl ?_
      refine P_getS C (e := 33) fa_X11_totalBy_21 kd_0 (d := 33) rfl (fxl fx_0) rfl dX11_totalBy_38 ?_
      refine P_getS C (e := 39) fa_X11_totalBy_133 kd_33 (d := 6) rfl (fxl fx_33) rfl dX11_totalBy_41 ?_
      refine P_iload_n C dX11_totalBy_44 3 rfl ?_
      refine P_dup2 C dX11_totalBy_45 rfl rfl ?_
      obtain ⟨hv5, h⟩ := h
      refine P_iald C kd_39 (fxl fx_39) hv5 dX11_totalBy_46 ?_
      refine P_iconst C dX11_totalBy_47 (v := (5 : Int32)) rfl ?_
      refine P_iadd C dX11_totalBy_48 ?_
      obtain ⟨hv6, h⟩ := h
      refine P_iast C kd_39 (fxl fx_39) hv6 dX11_totalBy_49 ?_
      refine P_nm (fun σ7 eσ7 => ?_)
      have h := h σ7 eσ7
      refine P_iconst C dX11_totalBy_50 (v := (0 : Int32)) rfl ?_
      refine P_istore C dX11_totalBy_51 (by rw [hN]; decide) rfl ?_
      exact P_sub [1, 2, 3, 4, 0] rfl h
set_option maxRecDepth 100000 in
set_option maxHeartbeats 4000000 in
theorem s_X11_totalBy_53 {M : Mx} {Qk : Int32 → Sg → Prop} (C : Cx M cX11_totalBy (some .int) RX11 wsX11_totalBy (rmz 5) 0 0 (QI (mV M) Qk)) (hN : mN M = 5) {x1 : Int32} {x2 : Int32} {x3 : Int32} {x4 : Int32} {σ : Sg} (h : ((x2 ≤ x4 → K_X1_allAt (mL M) (mV M) 33 σ (fun r3 σ2 => Qk r3 σ2)) ∧ (¬ x2 ≤ x4 → ((¬ x1 = (3 : Int32) → PS M 78 [(0, .ref 0), (1, .int x1), (2, .int x2), (3, .int x3), (4, .int x4)] [] σ (0, 0)) ∧ (x1 = (3 : Int32) → ((¬ x4 = x3 → PS M 78 [(0, .ref 0), (1, .int x1), (2, .int x2), (3, .int x3), (4, .int x4)] [] σ (0, 0)) ∧ (x4 = x3 → K_X1_rests (mL M) (mV M) 33 (5 : Int32) σ (fun σ6 => PS M 78 [(0, .ref 0), (1, .int x1), (2, .int x2), (3, .int x3), (4, .int x4)] [] σ6 (0, 0))))))))) : PS M 53 [(0, .ref 0), (1, .int x1), (2, .int x2), (3, .int x3), (4, .int x4)] [] σ (0, 0) := by
  refine P_iload C dX11_totalBy_53 4 rfl ?_
  refine P_iload_n C dX11_totalBy_55 2 rfl ?_
  refine P_icmp_ge C dX11_totalBy_56 (tgt := 117) (by decide +kernel) (fun q1 => ?_) (fun q1 => ?_)
  · have h := h.1 q1
    refine P_aload_n C dX11_totalBy_117 0 rfl ?_
    refine P_getS C (e := 33) fa_X11_totalBy_21 kd_0 (d := 33) rfl (fxl fx_0) rfl dX11_totalBy_118 ?_
    refine P_ci (R_v (ci := 1) C kv_X11_totalBy_X1_allAt (As := []) rfl kd_33 rfl (fxl fx_33) (Nat.le_of_ble_eq_true rfl) dX11_totalBy_121 ⟨Nat.le_refl _, Nat.le_refl _⟩ h) (fun r3 σ2 h => ?_)
    exact P_iret C dX11_totalBy_124 h
  · have h := h.2 q1
    refine P_iload_n C dX11_totalBy_59 1 rfl ?_
    refine P_iconst C dX11_totalBy_60 (v := (3 : Int32)) rfl ?_
    refine P_icmp_ne C dX11_totalBy_61 (tgt := 78) (by decide +kernel) (fun q4 => ?_) (fun q4 => ?_)
    · have h := h.1 q4
      exact P_sub [0, 1, 2, 3, 4] rfl h
    · have h := h.2 q4
      refine P_iload C dX11_totalBy_64 4 rfl ?_
      refine P_iload_n C dX11_totalBy_66 3 rfl ?_
      refine P_icmp_ne C dX11_totalBy_67 (tgt := 78) (by decide +kernel) (fun q5 => ?_) (fun q5 => ?_)
      · have h := h.1 q5
        exact P_sub [0, 1, 2, 3, 4] rfl h
      · have h := h.2 q5
        refine P_aload_n C dX11_totalBy_70 0 rfl ?_
        refine P_getS C (e := 33) fa_X11_totalBy_21 kd_0 (d := 33) rfl (fxl fx_0) rfl dX11_totalBy_71 ?_
        refine P_iconst C dX11_totalBy_74 (v := (5 : Int32)) rfl ?_
        refine P_cv (R_v (ci := 1) C kv_X11_totalBy_X1_rests (As := [.int (5 : Int32)]) rfl kd_33 rfl (fxl fx_33) (Nat.le_of_ble_eq_true rfl) dX11_totalBy_75 ⟨Nat.le_refl _, Nat.le_refl _⟩ h) (fun σ6 h => ?_)
        exact P_sub [0, 1, 2, 3, 4] rfl h
set_option maxRecDepth 100000 in
set_option maxHeartbeats 4000000 in
theorem s_X11_totalBy_78 {M : Mx} {Qk : Int32 → Sg → Prop} (C : Cx M cX11_totalBy (some .int) RX11 wsX11_totalBy (rmz 5) 0 0 (QI (mV M) Qk)) (hN : mN M = 5) {x1 : Int32} {x2 : Int32} {x3 : Int32} {x4 : Int32} {σ : Sg} (h : ((¬ x1 = 0 → K_X1_goesMinute (mL M) (mV M) 33 σ (fun r3 σ2 => (∀ v4 : Int32, v4 = x4 + 1 → PS M 53 [(0, .ref 0), (1, .int x1), (2, .int x2), (3, .int x3), (4, .int v4)] [] σ2 (0, 0)))) ∧ (x1 = 0 → K_X11_whetsIn (mL M) (mV M) (x4 + (1 : Int32)) x3 σ (fun r6 σ5 => ((r6 = 0 → K_X1_goesMinute (mL M) (mV M) 33 σ5 (fun r9 σ8 => (∀ v10 : Int32, v10 = x4 + 1 → PS M 53 [(0, .ref 0), (1, .int x1), (2, .int x2), (3, .int x3), (4, .int v10)] [] σ8 (0, 0)))) ∧ (¬ r6 = 0 → K_X1_whetsAll (mL M) (mV M) 33 σ5 (fun σ11 => (∀ v12 : Int32, v12 = x4 + 1 → PS M 53 [(0, .ref 0), (1, .int x1), (2, .int x2), (3, .int x3), (4, .int v12)] [] σ11 (0, 0))))))))) : PS M 78 [(0, .ref 0), (1, .int x1), (2, .int x2), (3, .int x3), (4, .int x4)] [] σ (0, 0) := by
  refine P_iload_n C dX11_totalBy_78 1 rfl ?_
  refine P_if_ne C dX11_totalBy_79 (tgt := 103) (by decide +kernel) (fun q1 => ?_) (fun q1 => ?_)
  · have h := h.1 q1
    refine P_aload_n C dX11_totalBy_103 0 rfl ?_
    refine P_getS C (e := 33) fa_X11_totalBy_21 kd_0 (d := 33) rfl (fxl fx_0) rfl dX11_totalBy_104 ?_
    refine P_ci (R_v (ci := 1) C kv_X11_totalBy_X1_goesMinute (As := []) rfl kd_33 rfl (fxl fx_33) (Nat.le_of_ble_eq_true rfl) dX11_totalBy_107 ⟨Nat.le_refl _, Nat.le_refl _⟩ h) (fun r3 σ2 h => ?_)
    refine P_pop C dX11_totalBy_110 rfl ?_
    obtain ⟨v4, ev4⟩ : ∃ v : Int32, v = x4 + 1 := ⟨_, rfl⟩
    have h := h v4 ev4
    refine P_iinc (v := v4) C dX11_totalBy_111 4 rfl (by rw [ev4]; rfl) (by rw [hN]; decide) rfl ?_
    refine P_goto C dX11_totalBy_114 (tgt := 53) (by decide +kernel) ?_
    exact P_sub [1, 2, 3, 4, 0] rfl h
  · have h := h.2 q1
    refine P_iload C dX11_totalBy_82 4 rfl ?_
    refine P_iconst C dX11_totalBy_84 (v := (1 : Int32)) rfl ?_
    refine P_iadd C dX11_totalBy_85 ?_
    refine P_iload_n C dX11_totalBy_86 3 rfl ?_
    refine P_ci (R_f C kf_X11_totalBy_X11_whetsIn (As := [.int (x4 + (1 : Int32)), .int x3]) rfl (Nat.le_of_ble_eq_true rfl) dX11_totalBy_87 ⟨Nat.le_refl _, Nat.le_refl _⟩ h) (fun r6 σ5 h => ?_)
    refine P_if_eq C dX11_totalBy_90 (tgt := 103) (by decide +kernel) (fun q7 => ?_) (fun q7 => ?_)
    · have h := h.1 q7
      refine P_aload_n C dX11_totalBy_103 0 rfl ?_
      refine P_getS C (e := 33) fa_X11_totalBy_21 kd_0 (d := 33) rfl (fxl fx_0) rfl dX11_totalBy_104 ?_
      refine P_ci (R_v (ci := 1) C kv_X11_totalBy_X1_goesMinute (As := []) rfl kd_33 rfl (fxl fx_33) (Nat.le_of_ble_eq_true rfl) dX11_totalBy_107 ⟨Nat.le_refl _, Nat.le_refl _⟩ h) (fun r9 σ8 h => ?_)
      refine P_pop C dX11_totalBy_110 rfl ?_
      obtain ⟨v10, ev10⟩ : ∃ v : Int32, v = x4 + 1 := ⟨_, rfl⟩
      have h := h v10 ev10
      refine P_iinc (v := v10) C dX11_totalBy_111 4 rfl (by rw [ev10]; rfl) (by rw [hN]; decide) rfl ?_
      refine P_goto C dX11_totalBy_114 (tgt := 53) (by decide +kernel) ?_
      exact P_sub [1, 2, 3, 4, 0] rfl h
    · have h := h.2 q7
      refine P_aload_n C dX11_totalBy_93 0 rfl ?_
      refine P_getS C (e := 33) fa_X11_totalBy_21 kd_0 (d := 33) rfl (fxl fx_0) rfl dX11_totalBy_94 ?_
      refine P_cv (R_v (ci := 1) C kv_X11_totalBy_X1_whetsAll (As := []) rfl kd_33 rfl (fxl fx_33) (Nat.le_of_ble_eq_true rfl) dX11_totalBy_97 ⟨Nat.le_refl _, Nat.le_refl _⟩ h) (fun σ11 h => ?_)
      refine P_goto C dX11_totalBy_100 (tgt := 111) (by decide +kernel) ?_
      obtain ⟨v12, ev12⟩ : ∃ v : Int32, v = x4 + 1 := ⟨_, rfl⟩
      have h := h v12 ev12
      refine P_iinc (v := v12) C dX11_totalBy_111 4 rfl (by rw [ev12]; rfl) (by rw [hN]; decide) rfl ?_
      refine P_goto C dX11_totalBy_114 (tgt := 53) (by decide +kernel) ?_
      exact P_sub [1, 2, 3, 4, 0] rfl h
theorem kv_X11_allSeenIsSo_X11_seenIsSo : KV RX11 wsX11_allSeenIsSo (rmz 5) 267 RX11 yX11_seenIsSo wsX11_seenIsSo (rmz 0) 1 := ⟨_, _, _, _, gX11_allSeenIsSo_X11_seenIsSo, rfl, by decide +kernel, by decide +kernel⟩
theorem fa_X11_allSeenIsSo_21 : FA RX11 wsX11_allSeenIsSo 21 11 2 "NineMowers" := by
  show _ ∧ _ ∧ _ ∧ _
  exact ⟨by decide +kernel, fun _ h => List.mem_cons_of_mem _ (List.mem_append_left _ (List.mem_append_left _ (List.mem_append_left _ (List.mem_append_left _ (List.mem_append_left _ (List.mem_append_left _ (List.mem_append_left _ (List.mem_append_left _ (List.mem_append_left _ (List.mem_append_left _ (List.mem_append_right _ h))))))))))), List.mem_of_getElem? (i := 1) rfl, Or.inl rfl⟩
theorem kv_X11_allSeenIsSo_X1_goesMinute : KV RX11 wsX11_allSeenIsSo (rmz 5) 180 RX1 yX1_goesMinute wsX1_goesMinute (rmz 4) 0 := ⟨_, _, _, _, gX11_allSeenIsSo_X1_goesMinute, rfl, by decide +kernel, by decide +kernel⟩
noncomputable def K_X11_allSeenIsSo (l : Launch) (V : Vx) (σ : Sg) (Qk : Int32 → Sg → Prop) : Prop := Ka l V yX11_allSeenIsSo wsX11_allSeenIsSo (rmz 5) 0 0 [.ref 0] σ (QI V Qk)
theorem e_X11_allSeenIsSo {l : Launch} {V : Vx} {σ : Sg} {Qk : Int32 → Sg → Prop} (h : ∀ M : Mx, mL M = l → mV M = V → mN M = 2 → Cx M cX11_allSeenIsSo (some .boolean) RX11 wsX11_allSeenIsSo (rmz 5) 0 0 (QI (mV M) Qk) → PS M 0 [(0, .ref 0)] [] σ (0, 0)) : K_X11_allSeenIsSo l V σ Qk :=
  Ka_of (by decide +kernel) rfl rfl (Nat.le_of_ble_eq_true rfl) (fun M h1 h2 h3 C => h M h1 h2 h3 (by rw [h2]; exact C))
set_option maxRecDepth 100000 in
set_option maxHeartbeats 4000000 in
theorem s_X11_allSeenIsSo_0 {M : Mx} {Qk : Int32 → Sg → Prop} (C : Cx M cX11_allSeenIsSo (some .boolean) RX11 wsX11_allSeenIsSo (rmz 5) 0 0 (QI (mV M) Qk)) (hN : mN M = 2) {σ : Sg} (h : PS M 2 [(0, .ref 0), (1, .int (0 : Int32))] [] σ (0, 0)) : PS M 0 [(0, .ref 0)] [] σ (0, 0) := by
  refine P_iconst C dX11_allSeenIsSo_0 (v := (0 : Int32)) rfl ?_
  refine P_istore_n C dX11_allSeenIsSo_1 (by rw [hN]; decide) rfl ?_
  exact P_sub [1, 0] rfl h
set_option maxRecDepth 100000 in
set_option maxHeartbeats 4000000 in
theorem s_X11_allSeenIsSo_2 {M : Mx} {Qk : Int32 → Sg → Prop} (C : Cx M cX11_allSeenIsSo (some .boolean) RX11 wsX11_allSeenIsSo (rmz 5) 0 0 (QI (mV M) Qk)) (hN : mN M = 2) {x1 : Int32} {σ : Sg} (h : (((30 : Int32) < x1 → Qk (1 : Int32) σ) ∧ (¬ (30 : Int32) < x1 → K_X11_seenIsSo (mL M) (mV M) x1 σ (fun r3 σ2 => ((¬ r3 = 0 → K_X1_goesMinute (mL M) (mV M) 33 σ2 (fun r6 σ5 => (∀ v7 : Int32, v7 = x1 + 1 → PS M 2 [(0, .ref 0), (1, .int v7)] [] σ5 (0, 0)))) ∧ (r3 = 0 → Qk (0 : Int32) σ2)))))) : PS M 2 [(0, .ref 0), (1, .int x1)] [] σ (0, 0) := by
  refine P_iload_n C dX11_allSeenIsSo_2 1 rfl ?_
  refine P_bipush C dX11_allSeenIsSo_3 (v := (30 : Int32)) rfl ?_
  refine P_icmp_gt C dX11_allSeenIsSo_5 (tgt := 32) (by decide +kernel) (fun q1 => ?_) (fun q1 => ?_)
  · have h := h.1 q1
    refine P_iconst C dX11_allSeenIsSo_32 (v := (1 : Int32)) rfl ?_
    exact P_zret C (by decide +kernel) dX11_allSeenIsSo_33 h
  · have h := h.2 q1
    refine P_aload_n C dX11_allSeenIsSo_8 0 rfl ?_
    refine P_iload_n C dX11_allSeenIsSo_9 1 rfl ?_
    refine P_ci (R_v (ci := 11) C kv_X11_allSeenIsSo_X11_seenIsSo (As := [.int x1]) rfl kd_0 rfl (fxl fx_0) (Nat.le_of_ble_eq_true rfl) dX11_allSeenIsSo_10 ⟨Nat.le_refl _, Nat.le_refl _⟩ h) (fun r3 σ2 h => ?_)
    refine P_if_ne C dX11_allSeenIsSo_13 (tgt := 18) (by decide +kernel) (fun q4 => ?_) (fun q4 => ?_)
    · have h := h.1 q4
      refine P_aload_n C dX11_allSeenIsSo_18 0 rfl ?_
      refine P_getS C (e := 33) fa_X11_allSeenIsSo_21 kd_0 (d := 33) rfl (fxl fx_0) rfl dX11_allSeenIsSo_19 ?_
      refine P_ci (R_v (ci := 1) C kv_X11_allSeenIsSo_X1_goesMinute (As := []) rfl kd_33 rfl (fxl fx_33) (Nat.le_of_ble_eq_true rfl) dX11_allSeenIsSo_22 ⟨Nat.le_refl _, Nat.le_refl _⟩ h) (fun r6 σ5 h => ?_)
      refine P_pop C dX11_allSeenIsSo_25 rfl ?_
      obtain ⟨v7, ev7⟩ : ∃ v : Int32, v = x1 + 1 := ⟨_, rfl⟩
      have h := h v7 ev7
      refine P_iinc (v := v7) C dX11_allSeenIsSo_26 1 rfl (by rw [ev7]; rfl) (by rw [hN]; decide) rfl ?_
      refine P_goto C dX11_allSeenIsSo_29 (tgt := 2) (by decide +kernel) ?_
      exact P_sub [1, 0] rfl h
    · have h := h.2 q4
      refine P_iconst C dX11_allSeenIsSo_16 (v := (0 : Int32)) rfl ?_
      exact P_zret C (by decide +kernel) dX11_allSeenIsSo_17 h
theorem fa_X11_planned_21 : FA RX11 wsX11_planned 21 11 2 "NineMowers" := by
  show _ ∧ _ ∧ _ ∧ _
  exact ⟨by decide +kernel, fun _ h => List.mem_cons_of_mem _ (List.mem_append_left _ (List.mem_append_left _ (List.mem_append_left _ (List.mem_append_left _ (List.mem_append_left _ (List.mem_append_left _ (List.mem_append_left _ (List.mem_append_left _ (List.mem_append_left _ (List.mem_append_left _ (List.mem_append_right _ h))))))))))), List.mem_of_getElem? (i := 1) rfl, Or.inl rfl⟩
theorem fa_X11_planned_12 : FA RX11 wsX11_planned 12 11 0 "NineMowers" := by
  show _ ∧ _ ∧ _ ∧ _
  exact ⟨by decide +kernel, fun _ h => List.mem_cons_of_mem _ (List.mem_append_left _ (List.mem_append_left _ (List.mem_append_left _ (List.mem_append_left _ (List.mem_append_left _ (List.mem_append_left _ (List.mem_append_left _ (List.mem_append_left _ (List.mem_append_left _ (List.mem_append_left _ (List.mem_append_right _ h))))))))))), List.mem_of_getElem? (i := 2) rfl, Or.inl rfl⟩
theorem kv_X11_planned_X1_becomes : KV RX11 wsX11_planned (rmz 5) 189 RX1 yX1_becomes wsX1_becomes (rmz 1) 1 := ⟨_, _, _, _, gX11_planned_X1_becomes, rfl, by decide +kernel, by decide +kernel⟩
theorem fa_X11_planned_279 : FA RX11 wsX11_planned 279 1 13 "NineMowers$Course" := by
  show _ ∧ _ ∧ _ ∧ _
  exact ⟨by decide +kernel, fun _ h => List.mem_cons_of_mem _ (List.mem_append_left _ (List.mem_append_left _ (List.mem_append_left _ (List.mem_append_left _ (List.mem_append_left _ (List.mem_append_left _ (List.mem_append_left _ (List.mem_append_left _ (List.mem_append_left _ (List.mem_append_right _ h)))))))))), List.mem_of_getElem? (i := 3) rfl, Or.inl rfl⟩
theorem fa_X11_planned_256 : FA RX11 wsX11_planned 256 5 1 "NineMowers$Numbers" := by
  show _ ∧ _ ∧ _ ∧ _
  exact ⟨by decide +kernel, fun _ h => List.mem_cons_of_mem _ (List.mem_append_left _ (List.mem_append_left _ (List.mem_append_left _ (List.mem_append_left _ (List.mem_append_left _ (List.mem_append_left _ (List.mem_append_left _ (List.mem_append_left _ (List.mem_append_right _ h))))))))), List.mem_of_getElem? (i := 4) rfl, Or.inl rfl⟩
theorem kv_X11_planned_X1_allAt : KV RX11 wsX11_planned (rmz 5) 199 RX1 yX1_allAt wsX1_allAt (rmz 0) 0 := ⟨_, _, _, _, gX11_planned_X1_allAt, rfl, by decide +kernel, by decide +kernel⟩
theorem fa_X11_planned_270 : FA RX11 wsX11_planned 270 5 0 "NineMowers$Numbers" := by
  show _ ∧ _ ∧ _ ∧ _
  exact ⟨by decide +kernel, fun _ h => List.mem_cons_of_mem _ (List.mem_append_left _ (List.mem_append_left _ (List.mem_append_left _ (List.mem_append_left _ (List.mem_append_left _ (List.mem_append_left _ (List.mem_append_left _ (List.mem_append_left _ (List.mem_append_right _ h))))))))), List.mem_of_getElem? (i := 5) rfl, Or.inl rfl⟩
theorem kv_X11_planned_X1_rests : KV RX11 wsX11_planned (rmz 5) 186 RX1 yX1_rests wsX1_rests (rmz 2) 1 := ⟨_, _, _, _, gX11_planned_X1_rests, rfl, by decide +kernel, by decide +kernel⟩
theorem kv_X11_planned_X1_whetsAll : KV RX11 wsX11_planned (rmz 5) 183 RX1 yX1_whetsAll wsX1_whetsAll (rmz 2) 0 := ⟨_, _, _, _, gX11_planned_X1_whetsAll, rfl, by decide +kernel, by decide +kernel⟩
theorem kv_X11_planned_X1_goesMinute : KV RX11 wsX11_planned (rmz 5) 180 RX1 yX1_goesMinute wsX1_goesMinute (rmz 4) 0 := ⟨_, _, _, _, gX11_planned_X1_goesMinute, rfl, by decide +kernel, by decide +kernel⟩
noncomputable def K_X11_planned (l : Launch) (V : Vx) (σ : Sg) (Qk : Int32 → Sg → Prop) : Prop := Ka l V yX11_planned wsX11_planned (rmz 5) 0 0 [.ref 0] σ (QI V Qk)
theorem e_X11_planned {l : Launch} {V : Vx} {σ : Sg} {Qk : Int32 → Sg → Prop} (h : ∀ M : Mx, mL M = l → mV M = V → mN M = 3 → Cx M cX11_planned (some .int) RX11 wsX11_planned (rmz 5) 0 0 (QI (mV M) Qk) → PS M 0 [(0, .ref 0)] [] σ (0, 0)) : K_X11_planned l V σ Qk :=
  Ka_of (by decide +kernel) rfl rfl (Nat.le_of_ble_eq_true rfl) (fun M h1 h2 h3 C => h M h1 h2 h3 (by rw [h2]; exact C))
set_option maxRecDepth 100000 in
set_option maxHeartbeats 4000000 in
theorem s_X11_planned_0 {M : Mx} {Qk : Int32 → Sg → Prop} (C : Cx M cX11_planned (some .int) RX11 wsX11_planned (rmz 5) 0 0 (QI (mV M) Qk)) (hN : mN M = 3) {σ : Sg} (h : K_X1_becomes (mL M) (mV M) 33 1 σ (fun σ1 => PS M 13 [(0, .ref 0), (1, .int (0 : Int32))] [] σ1 (0, 0))) : PS M 0 [(0, .ref 0)] [] σ (0, 0) := by
  refine P_aload_n C dX11_planned_0 0 rfl ?_
  refine P_getS C (e := 33) fa_X11_planned_21 kd_0 (d := 33) rfl (fxl fx_0) rfl dX11_planned_1 ?_
  refine P_aload_n C dX11_planned_4 0 rfl ?_
  refine P_getS C (e := 1) fa_X11_planned_12 kd_0 (d := 1) rfl (fxl fx_0) rfl dX11_planned_5 ?_
  refine P_cv (R_v (ci := 1) C kv_X11_planned_X1_becomes (As := [.ref 1]) rfl kd_33 rfl (fxl fx_33) (Nat.le_of_ble_eq_true rfl) dX11_planned_8 ⟨Nat.le_refl _, Nat.le_refl _⟩ h) (fun σ1 h => ?_)
  refine P_iconst C dX11_planned_11 (v := (0 : Int32)) rfl ?_
  refine P_istore_n C dX11_planned_12 (by rw [hN]; decide) rfl ?_
  exact P_sub [1, 0] rfl h
set_option maxRecDepth 100000 in
set_option maxHeartbeats 4000000 in
theorem s_X11_planned_13 {M : Mx} {Qk : Int32 → Sg → Prop} (C : Cx M cX11_planned (some .int) RX11 wsX11_planned (rmz 5) 0 0 (QI (mV M) Qk)) (hN : mN M = 3) {x1 : Int32} {σ : Sg} (h : (((gi σ 11 1) ≤ x1 → K_X1_allAt (mL M) (mV M) 33 σ (fun r3 σ2 => Qk r3 σ2)) ∧ (¬ (gi σ 11 1) ≤ x1 → (vp_in x1 10 ∧ (∀ v5 : Int32, v5 = gi σ 12 x1.toNatClampNeg → ((¬ v5 = 0 → ((¬ v5 = (1 : Int32) → K_X1_rests (mL M) (mV M) 33 (1 : Int32) σ (fun σ8 => (∀ v9 : Int32, v9 = x1 + 1 → PS M 13 [(0, .ref 0), (1, .int v9)] [] σ8 (0, 0)))) ∧ (v5 = (1 : Int32) → K_X1_whetsAll (mL M) (mV M) 33 σ (fun σ10 => (∀ v11 : Int32, v11 = x1 + 1 → PS M 13 [(0, .ref 0), (1, .int v11)] [] σ10 (0, 0)))))) ∧ (v5 = 0 → K_X1_goesMinute (mL M) (mV M) 33 σ (fun r13 σ12 => (∀ v14 : Int32, v14 = x1 + 1 → PS M 13 [(0, .ref 0), (1, .int v14)] [] σ12 (0, 0)))))))))) : PS M 13 [(0, .ref 0), (1, .int x1)] [] σ (0, 0) := by
  refine P_iload_n C dX11_planned_13 1 rfl ?_
  refine P_aload_n C dX11_planned_14 0 rfl ?_
  refine P_getS C (e := 1) fa_X11_planned_12 kd_0 (d := 1) rfl (fxl fx_0) rfl dX11_planned_15 ?_
  refine P_getS C (e := 11) fa_X11_planned_279 kd_1 (d := 10) rfl (fxl fx_1) rfl dX11_planned_18 ?_
  refine P_getI C fa_X11_planned_256 kd_11 rfl (fxl fx_11) dX11_planned_21 ?_
  refine P_icmp_ge C dX11_planned_24 (tgt := 84) (by decide +kernel) (fun q1 => ?_) (fun q1 => ?_)
  · have h := h.1 q1
    refine P_aload_n C dX11_planned_84 0 rfl ?_
    refine P_getS C (e := 33) fa_X11_planned_21 kd_0 (d := 33) rfl (fxl fx_0) rfl dX11_planned_85 ?_
    refine P_ci (R_v (ci := 1) C kv_X11_planned_X1_allAt (As := []) rfl kd_33 rfl (fxl fx_33) (Nat.le_of_ble_eq_true rfl) dX11_planned_88 ⟨Nat.le_refl _, Nat.le_refl _⟩ h) (fun r3 σ2 h => ?_)
    exact P_iret C dX11_planned_91 h
  · have h := h.2 q1
    refine P_aload_n C dX11_planned_27 0 rfl ?_
    refine P_getS C (e := 1) fa_X11_planned_12 kd_0 (d := 1) rfl (fxl fx_0) rfl dX11_planned_28 ?_
    refine P_getS C (e := 11) fa_X11_planned_279 kd_1 (d := 10) rfl (fxl fx_1) rfl dX11_planned_31 ?_
    refine P_getS C (e := 12) fa_X11_planned_270 kd_11 (d := 1) rfl (fxl fx_11) rfl dX11_planned_34 ?_
    refine P_iload_n C dX11_planned_37 1 rfl ?_
    obtain ⟨hv4, h⟩ := h
    refine P_iald C kd_12 (fxl fx_12) hv4 dX11_planned_38 ?_
    refine P_nmi (fun v5 ev5 => ?_)
    have h := h v5 ev5
    refine P_istore_n C dX11_planned_39 (by rw [hN]; decide) rfl ?_
    refine P_iload_n C dX11_planned_40 0 rfl ?_
    refine P_if_ne C dX11_planned_41 (tgt := 55) (by decide +kernel) (fun q6 => ?_) (fun q6 => ?_)
    · have h := h.1 q6
      refine P_iload_n C dX11_planned_55 0 rfl ?_
      refine P_iconst C dX11_planned_56 (v := (1 : Int32)) rfl ?_
      refine P_icmp_ne C dX11_planned_57 (tgt := 70) (by decide +kernel) (fun q7 => ?_) (fun q7 => ?_)
      · have h := h.1 q7
        refine P_aload_n C dX11_planned_70 1 rfl ?_
        refine P_getS C (e := 33) fa_X11_planned_21 kd_0 (d := 33) rfl (fxl fx_0) rfl dX11_planned_71 ?_
        refine P_iconst C dX11_planned_74 (v := (1 : Int32)) rfl ?_
        refine P_cv (R_v (ci := 1) C kv_X11_planned_X1_rests (As := [.int (1 : Int32)]) rfl kd_33 rfl (fxl fx_33) (Nat.le_of_ble_eq_true rfl) dX11_planned_75 ⟨Nat.le_refl _, Nat.le_refl _⟩ h) (fun σ8 h => ?_)
        obtain ⟨v9, ev9⟩ : ∃ v : Int32, v = x1 + 1 := ⟨_, rfl⟩
        have h := h v9 ev9
        refine P_iinc (v := v9) C dX11_planned_78 2 rfl (by rw [ev9]; rfl) (by rw [hN]; decide) rfl ?_
        refine P_goto C dX11_planned_81 (tgt := 13) (by decide +kernel) ?_
        exact P_sub [2, 0] rfl h
      · have h := h.2 q7
        refine P_aload_n C dX11_planned_60 1 rfl ?_
        refine P_getS C (e := 33) fa_X11_planned_21 kd_0 (d := 33) rfl (fxl fx_0) rfl dX11_planned_61 ?_
        refine P_cv (R_v (ci := 1) C kv_X11_planned_X1_whetsAll (As := []) rfl kd_33 rfl (fxl fx_33) (Nat.le_of_ble_eq_true rfl) dX11_planned_64 ⟨Nat.le_refl _, Nat.le_refl _⟩ h) (fun σ10 h => ?_)
        refine P_goto C dX11_planned_67 (tgt := 78) (by decide +kernel) ?_
        obtain ⟨v11, ev11⟩ : ∃ v : Int32, v = x1 + 1 := ⟨_, rfl⟩
        have h := h v11 ev11
        refine P_iinc (v := v11) C dX11_planned_78 2 rfl (by rw [ev11]; rfl) (by rw [hN]; decide) rfl ?_
        refine P_goto C dX11_planned_81 (tgt := 13) (by decide +kernel) ?_
        exact P_sub [2, 0] rfl h
    · have h := h.2 q6
      refine P_aload_n C dX11_planned_44 1 rfl ?_
      refine P_getS C (e := 33) fa_X11_planned_21 kd_0 (d := 33) rfl (fxl fx_0) rfl dX11_planned_45 ?_
      refine P_ci (R_v (ci := 1) C kv_X11_planned_X1_goesMinute (As := []) rfl kd_33 rfl (fxl fx_33) (Nat.le_of_ble_eq_true rfl) dX11_planned_48 ⟨Nat.le_refl _, Nat.le_refl _⟩ h) (fun r13 σ12 h => ?_)
      refine P_pop C dX11_planned_51 rfl ?_
      refine P_goto C dX11_planned_52 (tgt := 78) (by decide +kernel) ?_
      obtain ⟨v14, ev14⟩ : ∃ v : Int32, v = x1 + 1 := ⟨_, rfl⟩
      have h := h v14 ev14
      refine P_iinc (v := v14) C dX11_planned_78 2 rfl (by rw [ev14]; rfl) (by rw [hN]; decide) rfl ?_
      refine P_goto C dX11_planned_81 (tgt := 13) (by decide +kernel) ?_
      exact P_sub [2, 0] rfl h
theorem fa_X11_looked_21 : FA RX11 wsX11_looked 21 11 2 "NineMowers" := by
  show _ ∧ _ ∧ _ ∧ _
  exact ⟨by decide +kernel, fun _ h => List.mem_cons_of_mem _ (List.mem_append_left _ (List.mem_append_left _ (List.mem_append_left _ (List.mem_append_left _ (List.mem_append_left _ (List.mem_append_left _ (List.mem_append_left _ (List.mem_append_left _ (List.mem_append_left _ (List.mem_append_left _ (List.mem_append_right _ h))))))))))), List.mem_of_getElem? (i := 1) rfl, Or.inl rfl⟩
theorem fa_X11_looked_12 : FA RX11 wsX11_looked 12 11 0 "NineMowers" := by
  show _ ∧ _ ∧ _ ∧ _
  exact ⟨by decide +kernel, fun _ h => List.mem_cons_of_mem _ (List.mem_append_left _ (List.mem_append_left _ (List.mem_append_left _ (List.mem_append_left _ (List.mem_append_left _ (List.mem_append_left _ (List.mem_append_left _ (List.mem_append_left _ (List.mem_append_left _ (List.mem_append_left _ (List.mem_append_right _ h))))))))))), List.mem_of_getElem? (i := 2) rfl, Or.inl rfl⟩
theorem kv_X11_looked_X1_becomes : KV RX11 wsX11_looked (rmz 5) 189 RX1 yX1_becomes wsX1_becomes (rmz 1) 1 := ⟨_, _, _, _, gX11_looked_X1_becomes, rfl, by decide +kernel, by decide +kernel⟩
theorem kv_X11_looked_X1_goesMinute : KV RX11 wsX11_looked (rmz 5) 180 RX1 yX1_goesMinute wsX1_goesMinute (rmz 4) 0 := ⟨_, _, _, _, gX11_looked_X1_goesMinute, rfl, by decide +kernel, by decide +kernel⟩
theorem fa_X11_looked_282 : FA RX11 wsX11_looked 282 1 14 "NineMowers$Course" := by
  show _ ∧ _ ∧ _ ∧ _
  exact ⟨by decide +kernel, fun _ h => List.mem_cons_of_mem _ (List.mem_append_left _ (List.mem_append_left _ (List.mem_append_left _ (List.mem_append_left _ (List.mem_append_left _ (List.mem_append_left _ (List.mem_append_left _ (List.mem_append_left _ (List.mem_append_left _ (List.mem_append_right _ h)))))))))), List.mem_of_getElem? (i := 3) rfl, Or.inl rfl⟩
theorem fa_X11_looked_256 : FA RX11 wsX11_looked 256 5 1 "NineMowers$Numbers" := by
  show _ ∧ _ ∧ _ ∧ _
  exact ⟨by decide +kernel, fun _ h => List.mem_cons_of_mem _ (List.mem_append_left _ (List.mem_append_left _ (List.mem_append_left _ (List.mem_append_left _ (List.mem_append_left _ (List.mem_append_left _ (List.mem_append_left _ (List.mem_append_left _ (List.mem_append_right _ h))))))))), List.mem_of_getElem? (i := 4) rfl, Or.inl rfl⟩
theorem fa_X11_looked_270 : FA RX11 wsX11_looked 270 5 0 "NineMowers$Numbers" := by
  show _ ∧ _ ∧ _ ∧ _
  exact ⟨by decide +kernel, fun _ h => List.mem_cons_of_mem _ (List.mem_append_left _ (List.mem_append_left _ (List.mem_append_left _ (List.mem_append_left _ (List.mem_append_left _ (List.mem_append_left _ (List.mem_append_left _ (List.mem_append_left _ (List.mem_append_right _ h))))))))), List.mem_of_getElem? (i := 5) rfl, Or.inl rfl⟩
noncomputable def K_X11_looked (l : Launch) (V : Vx) (σ : Sg) (Qk : Int32 → Sg → Prop) : Prop := Ka l V yX11_looked wsX11_looked (rmz 5) 0 0 [.ref 0] σ (QI V Qk)
theorem e_X11_looked {l : Launch} {V : Vx} {σ : Sg} {Qk : Int32 → Sg → Prop} (h : ∀ M : Mx, mL M = l → mV M = V → mN M = 4 → Cx M cX11_looked (some .int) RX11 wsX11_looked (rmz 5) 0 0 (QI (mV M) Qk) → PS M 0 [(0, .ref 0)] [] σ (0, 0)) : K_X11_looked l V σ Qk :=
  Ka_of (by decide +kernel) rfl rfl (Nat.le_of_ble_eq_true rfl) (fun M h1 h2 h3 C => h M h1 h2 h3 (by rw [h2]; exact C))
set_option maxRecDepth 100000 in
set_option maxHeartbeats 4000000 in
theorem s_X11_looked_0 {M : Mx} {Qk : Int32 → Sg → Prop} (C : Cx M cX11_looked (some .int) RX11 wsX11_looked (rmz 5) 0 0 (QI (mV M) Qk)) (hN : mN M = 4) {σ : Sg} (h : K_X1_becomes (mL M) (mV M) 33 1 σ (fun σ1 => K_X1_goesMinute (mL M) (mV M) 33 σ1 (fun r3 σ2 => PS M 21 [(0, .ref 0), (1, .int r3), (2, .int (0 : Int32))] [] σ2 (0, 0)))) : PS M 0 [(0, .ref 0)] [] σ (0, 0) := by
  refine P_aload_n C dX11_looked_0 0 rfl ?_
  refine P_getS C (e := 33) fa_X11_looked_21 kd_0 (d := 33) rfl (fxl fx_0) rfl dX11_looked_1 ?_
  refine P_aload_n C dX11_looked_4 0 rfl ?_
  refine P_getS C (e := 1) fa_X11_looked_12 kd_0 (d := 1) rfl (fxl fx_0) rfl dX11_looked_5 ?_
  refine P_cv (R_v (ci := 1) C kv_X11_looked_X1_becomes (As := [.ref 1]) rfl kd_33 rfl (fxl fx_33) (Nat.le_of_ble_eq_true rfl) dX11_looked_8 ⟨Nat.le_refl _, Nat.le_refl _⟩ h) (fun σ1 h => ?_)
  refine P_aload_n C dX11_looked_11 0 rfl ?_
  refine P_getS C (e := 33) fa_X11_looked_21 kd_0 (d := 33) rfl (fxl fx_0) rfl dX11_looked_12 ?_
  refine P_ci (R_v (ci := 1) C kv_X11_looked_X1_goesMinute (As := []) rfl kd_33 rfl (fxl fx_33) (Nat.le_of_ble_eq_true rfl) dX11_looked_15 ⟨Nat.le_refl _, Nat.le_refl _⟩ h) (fun r3 σ2 h => ?_)
  refine P_istore_n C dX11_looked_18 (by rw [hN]; decide) rfl ?_
  refine P_iconst C dX11_looked_19 (v := (0 : Int32)) rfl ?_
  refine P_istore_n C dX11_looked_20 (by rw [hN]; decide) rfl ?_
  exact P_sub [2, 1, 0] rfl h
set_option maxRecDepth 100000 in
set_option maxHeartbeats 4000000 in
theorem s_X11_looked_21 {M : Mx} {Qk : Int32 → Sg → Prop} (C : Cx M cX11_looked (some .int) RX11 wsX11_looked (rmz 5) 0 0 (QI (mV M) Qk)) (hN : mN M = 4) {x1 : Int32} {x2 : Int32} {σ : Sg} (h : (((gi σ 13 1) ≤ x2 → Qk (-5 : Int32) σ) ∧ (¬ (gi σ 13 1) ≤ x2 → (vp_in x2 8 ∧ (∀ v3 : Int32, v3 = gi σ 14 x2.toNatClampNeg → ((¬ ((x1 >>> (v3 &&& 31)) &&& (1 : Int32)) = 0 → (∀ v5 : Int32, v5 = x2 + 1 → PS M 21 [(0, .ref 0), (1, .int x1), (2, .int v5)] [] σ (0, 0))) ∧ (((x1 >>> (v3 &&& 31)) &&& (1 : Int32)) = 0 → Qk v3 σ))))))) : PS M 21 [(0, .ref 0), (1, .int x1), (2, .int x2)] [] σ (0, 0) := by
  refine P_iload_n C dX11_looked_21 2 rfl ?_
  refine P_aload_n C dX11_looked_22 0 rfl ?_
  refine P_getS C (e := 1) fa_X11_looked_12 kd_0 (d := 1) rfl (fxl fx_0) rfl dX11_looked_23 ?_
  refine P_getS C (e := 13) fa_X11_looked_282 kd_1 (d := 12) rfl (fxl fx_1) rfl dX11_looked_26 ?_
  refine P_getI C fa_X11_looked_256 kd_13 rfl (fxl fx_13) dX11_looked_29 ?_
  refine P_icmp_ge C dX11_looked_32 (tgt := 64) (by decide +kernel) (fun q1 => ?_) (fun q1 => ?_)
  · have h := h.1 q1
    refine P_bipush C dX11_looked_64 (v := (-5 : Int32)) rfl ?_
    exact P_iret C dX11_looked_66 h
  · have h := h.2 q1
    refine P_aload_n C dX11_looked_35 0 rfl ?_
    refine P_getS C (e := 1) fa_X11_looked_12 kd_0 (d := 1) rfl (fxl fx_0) rfl dX11_looked_36 ?_
    refine P_getS C (e := 13) fa_X11_looked_282 kd_1 (d := 12) rfl (fxl fx_1) rfl dX11_looked_39 ?_
    refine P_getS C (e := 14) fa_X11_looked_270 kd_13 (d := 1) rfl (fxl fx_13) rfl dX11_looked_42 ?_
    refine P_iload_n C dX11_looked_45 2 rfl ?_
    obtain ⟨hv2, h⟩ := h
    refine P_iald C kd_14 (fxl fx_14) hv2 dX11_looked_46 ?_
    refine P_nmi (fun v3 ev3 => ?_)
    have h := h v3 ev3
    refine P_istore_n C dX11_looked_47 (by rw [hN]; decide) rfl ?_
    refine P_iload_n C dX11_looked_48 2 rfl ?_
    refine P_iload_n C dX11_looked_49 0 rfl ?_
    refine P_ishr C dX11_looked_50 ?_
    refine P_iconst C dX11_looked_51 (v := (1 : Int32)) rfl ?_
    refine P_iand C dX11_looked_52 ?_
    refine P_if_ne C dX11_looked_53 (tgt := 58) (by decide +kernel) (fun q4 => ?_) (fun q4 => ?_)
    · have h := h.1 q4
      obtain ⟨v5, ev5⟩ : ∃ v : Int32, v = x2 + 1 := ⟨_, rfl⟩
      have h := h v5 ev5
      refine P_iinc (v := v5) C dX11_looked_58 3 rfl (by rw [ev5]; rfl) (by rw [hN]; decide) rfl ?_
      refine P_goto C dX11_looked_61 (tgt := 21) (by decide +kernel) ?_
      exact P_sub [2, 3, 0] rfl h
    · have h := h.2 q4
      refine P_iload_n C dX11_looked_56 0 rfl ?_
      exact P_iret C dX11_looked_57 h
theorem kv_X11_on_X11_isMower : KV RX11 wsX11_on (rmz 6) 110 RX11 yX11_isMower wsX11_isMower (rmz 0) 1 := ⟨_, _, _, _, gX11_on_X11_isMower, rfl, by decide +kernel, by decide +kernel⟩
theorem fa_X11_on_21 : FA RX11 wsX11_on 21 11 2 "NineMowers" := by
  show _ ∧ _ ∧ _ ∧ _
  exact ⟨by decide +kernel, fun _ h => List.mem_cons_of_mem _ (List.mem_append_left _ (List.mem_append_left _ (List.mem_append_left _ (List.mem_append_left _ (List.mem_append_left _ (List.mem_append_left _ (List.mem_append_left _ (List.mem_append_left _ (List.mem_append_left _ (List.mem_append_right _ h)))))))))), List.mem_of_getElem? (i := 1) rfl, Or.inl rfl⟩
theorem fa_X11_on_12 : FA RX11 wsX11_on 12 11 0 "NineMowers" := by
  show _ ∧ _ ∧ _ ∧ _
  exact ⟨by decide +kernel, fun _ h => List.mem_cons_of_mem _ (List.mem_append_left _ (List.mem_append_left _ (List.mem_append_left _ (List.mem_append_left _ (List.mem_append_left _ (List.mem_append_left _ (List.mem_append_left _ (List.mem_append_left _ (List.mem_append_left _ (List.mem_append_right _ h)))))))))), List.mem_of_getElem? (i := 2) rfl, Or.inl rfl⟩
theorem kv_X11_on_X1_becomes : KV RX11 wsX11_on (rmz 6) 189 RX1 yX1_becomes wsX1_becomes (rmz 1) 1 := ⟨_, _, _, _, gX11_on_X1_becomes, rfl, by decide +kernel, by decide +kernel⟩
theorem kv_X11_on_X1_goes : KV RX11 wsX11_on (rmz 6) 196 RX1 yX1_goes wsX1_goes (rmz 5) 1 := ⟨_, _, _, _, gX11_on_X1_goes, rfl, by decide +kernel, by decide +kernel⟩
theorem kv_X11_on_X1_allAt : KV RX11 wsX11_on (rmz 6) 199 RX1 yX1_allAt wsX1_allAt (rmz 0) 0 := ⟨_, _, _, _, gX11_on_X1_allAt, rfl, by decide +kernel, by decide +kernel⟩
theorem fa_X11_on_124 : FA RX11 wsX11_on 124 1 4 "NineMowers$Course" := by
  show _ ∧ _ ∧ _ ∧ _
  exact ⟨by decide +kernel, fun _ h => List.mem_cons_of_mem _ (List.mem_append_left _ (List.mem_append_left _ (List.mem_append_left _ (List.mem_append_left _ (List.mem_append_left _ (List.mem_append_left _ (List.mem_append_left _ (List.mem_append_left _ (List.mem_append_right _ h))))))))), List.mem_of_getElem? (i := 3) rfl, Or.inl rfl⟩
theorem kv_X11_on_X11_heldTimes : KV RX11 wsX11_on (rmz 6) 193 RX11 yX11_heldTimes wsX11_heldTimes (rmz 5) 2 := ⟨_, _, _, _, gX11_on_X11_heldTimes, rfl, by decide +kernel, by decide +kernel⟩
noncomputable def K_X11_on (l : Launch) (V : Vx) (a1 : Int32) (a2 : Int32) (σ : Sg) (Qk : Int32 → Sg → Prop) : Prop := Ka l V yX11_on wsX11_on (rmz 6) 0 0 [.ref 0, .int a1, .int a2] σ (QI V Qk)
theorem e_X11_on {l : Launch} {V : Vx} {a1 : Int32} {a2 : Int32} {σ : Sg} {Qk : Int32 → Sg → Prop} (h : ∀ M : Mx, mL M = l → mV M = V → mN M = 5 → Cx M cX11_on (some .int) RX11 wsX11_on (rmz 6) 0 0 (QI (mV M) Qk) → PS M 0 [(0, .ref 0), (1, .int a1), (2, .int a2)] [] σ (0, 0)) : K_X11_on l V a1 a2 σ Qk :=
  Ka_of (by decide +kernel) rfl rfl (Nat.le_of_ble_eq_true rfl) (fun M h1 h2 h3 C => h M h1 h2 h3 (by rw [h2]; exact C))
set_option maxRecDepth 100000 in
set_option maxHeartbeats 4000000 in
theorem s_X11_on_0 {M : Mx} {Qk : Int32 → Sg → Prop} (C : Cx M cX11_on (some .int) RX11 wsX11_on (rmz 6) 0 0 (QI (mV M) Qk)) (hN : mN M = 5) {a1 : Int32} {a2 : Int32} {σ : Sg} (h : ((a2 < (10 : Int32) → PS M 22 [(0, .ref 0), (1, .int a1), (2, .int a2)] [.int (0 : Int32)] σ (0, 0)) ∧ (¬ a2 < (10 : Int32) → K_X11_isMower (mL M) (mV M) (a2 - (10 : Int32)) σ (fun r3 σ2 => ((r3 = 0 → PS M 22 [(0, .ref 0), (1, .int a1), (2, .int a2)] [.int (0 : Int32)] σ2 (0, 0)) ∧ (¬ r3 = 0 → PS M 22 [(0, .ref 0), (1, .int a1), (2, .int a2)] [.int (1 : Int32)] σ2 (0, 0))))))) : PS M 0 [(0, .ref 0), (1, .int a1), (2, .int a2)] [] σ (0, 0) := by
  refine P_iload_n C dX11_on_0 2 rfl ?_
  refine P_bipush C dX11_on_1 (v := (10 : Int32)) rfl ?_
  refine P_icmp_lt C dX11_on_3 (tgt := 21) (by decide +kernel) (fun q1 => ?_) (fun q1 => ?_)
  · have h := h.1 q1
    refine P_iconst C dX11_on_21 (v := (0 : Int32)) rfl ?_
    exact P_sub [0, 1, 2] rfl h
  · have h := h.2 q1
    refine P_aload_n C dX11_on_6 0 rfl ?_
    refine P_iload_n C dX11_on_7 2 rfl ?_
    refine P_bipush C dX11_on_8 (v := (10 : Int32)) rfl ?_
    refine P_isub C dX11_on_10 ?_
    refine P_ci (R_v (ci := 11) C kv_X11_on_X11_isMower (As := [.int (a2 - (10 : Int32))]) rfl kd_0 rfl (fxl fx_0) (Nat.le_of_ble_eq_true rfl) dX11_on_11 ⟨Nat.le_refl _, Nat.le_refl _⟩ h) (fun r3 σ2 h => ?_)
    refine P_if_eq C dX11_on_14 (tgt := 21) (by decide +kernel) (fun q4 => ?_) (fun q4 => ?_)
    · have h := h.1 q4
      refine P_iconst C dX11_on_21 (v := (0 : Int32)) rfl ?_
      exact P_sub [0, 1, 2] rfl h
    · have h := h.2 q4
      refine P_iconst C dX11_on_17 (v := (1 : Int32)) rfl ?_
      refine P_goto C dX11_on_18 (tgt := 22) (by decide +kernel) ?_
      exact P_sub [0, 1, 2] rfl h
set_option maxRecDepth 100000 in
set_option maxHeartbeats 4000000 in
theorem s_X11_on_22 {M : Mx} {Qk : Int32 → Sg → Prop} (C : Cx M cX11_on (some .int) RX11 wsX11_on (rmz 6) 0 0 (QI (mV M) Qk)) (hN : mN M = 5) {x1 : Int32} {x2 : Int32} {z0 : Int32} {σ : Sg} (h : ((x2 < (20 : Int32) → PS M 45 [(0, .ref 0), (1, .int x1), (2, .int x2), (3, .int z0)] [.int (0 : Int32)] σ (0, 0)) ∧ (¬ x2 < (20 : Int32) → K_X11_isMower (mL M) (mV M) (x2 - (20 : Int32)) σ (fun r3 σ2 => ((r3 = 0 → PS M 45 [(0, .ref 0), (1, .int x1), (2, .int x2), (3, .int z0)] [.int (0 : Int32)] σ2 (0, 0)) ∧ (¬ r3 = 0 → PS M 45 [(0, .ref 0), (1, .int x1), (2, .int x2), (3, .int z0)] [.int (1 : Int32)] σ2 (0, 0))))))) : PS M 22 [(0, .ref 0), (1, .int x1), (2, .int x2)] [.int z0] σ (0, 0) := by
  refine P_istore_n C dX11_on_22 (by rw [hN]; decide) rfl ?_
  refine P_iload_n C dX11_on_23 3 rfl ?_
  refine P_bipush C dX11_on_24 (v := (20 : Int32)) rfl ?_
  refine P_icmp_lt C dX11_on_26 (tgt := 44) (by decide +kernel) (fun q1 => ?_) (fun q1 => ?_)
  · have h := h.1 q1
    refine P_iconst C dX11_on_44 (v := (0 : Int32)) rfl ?_
    exact P_sub [1, 2, 3, 0] rfl h
  · have h := h.2 q1
    refine P_aload_n C dX11_on_29 1 rfl ?_
    refine P_iload_n C dX11_on_30 3 rfl ?_
    refine P_bipush C dX11_on_31 (v := (20 : Int32)) rfl ?_
    refine P_isub C dX11_on_33 ?_
    refine P_ci (R_v (ci := 11) C kv_X11_on_X11_isMower (As := [.int (x2 - (20 : Int32))]) rfl kd_0 rfl (fxl fx_0) (Nat.le_of_ble_eq_true rfl) dX11_on_34 ⟨Nat.le_refl _, Nat.le_refl _⟩ h) (fun r3 σ2 h => ?_)
    refine P_if_eq C dX11_on_37 (tgt := 44) (by decide +kernel) (fun q4 => ?_) (fun q4 => ?_)
    · have h := h.1 q4
      refine P_iconst C dX11_on_44 (v := (0 : Int32)) rfl ?_
      exact P_sub [1, 2, 3, 0] rfl h
    · have h := h.2 q4
      refine P_iconst C dX11_on_40 (v := (1 : Int32)) rfl ?_
      refine P_goto C dX11_on_41 (tgt := 45) (by decide +kernel) ?_
      exact P_sub [1, 2, 3, 0] rfl h
set_option maxRecDepth 100000 in
set_option maxHeartbeats 4000000 in
theorem s_X11_on_45 {M : Mx} {Qk : Int32 → Sg → Prop} (C : Cx M cX11_on (some .int) RX11 wsX11_on (rmz 6) 0 0 (QI (mV M) Qk)) (hN : mN M = 5) {x1 : Int32} {x2 : Int32} {x3 : Int32} {z0 : Int32} {σ : Sg} (h : ((x2 = 0 → PS M 62 [(0, .ref 0), (1, .int x1), (2, .int x2), (3, .int x3), (4, .int z0)] [] σ (0, 0)) ∧ (¬ x2 = 0 → ((¬ x3 = 0 → PS M 62 [(0, .ref 0), (1, .int x1), (2, .int x2), (3, .int x3), (4, .int z0)] [] σ (0, 0)) ∧ (x3 = 0 → ((¬ z0 = 0 → PS M 62 [(0, .ref 0), (1, .int x1), (2, .int x2), (3, .int x3), (4, .int z0)] [] σ (0, 0)) ∧ (z0 = 0 → Qk (-1 : Int32) σ))))))) : PS M 45 [(0, .ref 0), (1, .int x1), (2, .int x2), (3, .int x3)] [.int z0] σ (0, 0) := by
  refine P_istore C dX11_on_45 (by rw [hN]; decide) rfl ?_
  refine P_iload_n C dX11_on_47 3 rfl ?_
  refine P_if_eq C dX11_on_48 (tgt := 62) (by decide +kernel) (fun q1 => ?_) (fun q1 => ?_)
  · have h := h.1 q1
    exact P_sub [1, 2, 3, 4, 0] rfl h
  · have h := h.2 q1
    refine P_iload_n C dX11_on_51 4 rfl ?_
    refine P_if_ne C dX11_on_52 (tgt := 62) (by decide +kernel) (fun q2 => ?_) (fun q2 => ?_)
    · have h := h.1 q2
      exact P_sub [1, 2, 3, 4, 0] rfl h
    · have h := h.2 q2
      refine P_iload C dX11_on_55 0 rfl ?_
      refine P_if_ne C dX11_on_57 (tgt := 62) (by decide +kernel) (fun q3 => ?_) (fun q3 => ?_)
      · have h := h.1 q3
        exact P_sub [1, 2, 3, 4, 0] rfl h
      · have h := h.2 q3
        refine P_iconst C dX11_on_60 (v := (-1 : Int32)) rfl ?_
        exact P_iret C dX11_on_61 h
set_option maxRecDepth 100000 in
set_option maxHeartbeats 4000000 in
theorem s_X11_on_62 {M : Mx} {Qk : Int32 → Sg → Prop} (C : Cx M cX11_on (some .int) RX11 wsX11_on (rmz 6) 0 0 (QI (mV M) Qk)) (hN : mN M = 5) {x1 : Int32} {x2 : Int32} {x3 : Int32} {x4 : Int32} {σ : Sg} (h : ((x1 < 0 → Qk (-2 : Int32) σ) ∧ (¬ x1 < 0 → ((x1 ≤ (60 : Int32) → K_X1_becomes (mL M) (mV M) 33 1 σ (fun σ3 => ((x4 = 0 → K_X1_goes (mL M) (mV M) 33 x1 σ3 (fun σ5 => ((x3 = 0 → K_X1_allAt (mL M) (mV M) 33 σ5 (fun r8 σ7 => Qk r8 σ7)) ∧ (¬ x3 = 0 → (vp_in (x2 - (10 : Int32)) 6 ∧ Qk (gi σ5 36 (x2 - (10 : Int32)).toNatClampNeg) σ5))))) ∧ (¬ x4 = 0 → K_X11_heldTimes (mL M) (mV M) (x2 - (20 : Int32)) x1 σ3 (fun r11 σ10 => Qk r11 σ10))))) ∧ (¬ x1 ≤ (60 : Int32) → Qk (-2 : Int32) σ))))) : PS M 62 [(0, .ref 0), (1, .int x1), (2, .int x2), (3, .int x3), (4, .int x4)] [] σ (0, 0) := by
  refine P_iload_n C dX11_on_62 1 rfl ?_
  refine P_if_lt C dX11_on_63 (tgt := 72) (by decide +kernel) (fun q1 => ?_) (fun q1 => ?_)
  · have h := h.1 q1
    refine P_bipush C dX11_on_72 (v := (-2 : Int32)) rfl ?_
    exact P_iret C dX11_on_74 h
  · have h := h.2 q1
    refine P_iload_n C dX11_on_66 1 rfl ?_
    refine P_bipush C dX11_on_67 (v := (60 : Int32)) rfl ?_
    refine P_icmp_le C dX11_on_69 (tgt := 75) (by decide +kernel) (fun q2 => ?_) (fun q2 => ?_)
    · have h := h.1 q2
      refine P_aload_n C dX11_on_75 0 rfl ?_
      refine P_getS C (e := 33) fa_X11_on_21 kd_0 (d := 33) rfl (fxl fx_0) rfl dX11_on_76 ?_
      refine P_aload_n C dX11_on_79 0 rfl ?_
      refine P_getS C (e := 1) fa_X11_on_12 kd_0 (d := 1) rfl (fxl fx_0) rfl dX11_on_80 ?_
      refine P_cv (R_v (ci := 1) C kv_X11_on_X1_becomes (As := [.ref 1]) rfl kd_33 rfl (fxl fx_33) (Nat.le_of_ble_eq_true rfl) dX11_on_83 ⟨Nat.le_refl _, Nat.le_refl _⟩ h) (fun σ3 h => ?_)
      refine P_iload C dX11_on_86 4 rfl ?_
      refine P_if_eq C dX11_on_88 (tgt := 101) (by decide +kernel) (fun q4 => ?_) (fun q4 => ?_)
      · have h := h.1 q4
        refine P_aload_n C dX11_on_101 0 rfl ?_
        refine P_getS C (e := 33) fa_X11_on_21 kd_0 (d := 33) rfl (fxl fx_0) rfl dX11_on_102 ?_
        refine P_iload_n C dX11_on_105 1 rfl ?_
        refine P_cv (R_v (ci := 1) C kv_X11_on_X1_goes (As := [.int x1]) rfl kd_33 rfl (fxl fx_33) (Nat.le_of_ble_eq_true rfl) dX11_on_106 ⟨Nat.le_refl _, Nat.le_refl _⟩ h) (fun σ5 h => ?_)
        refine P_iload_n C dX11_on_109 3 rfl ?_
        refine P_if_eq C dX11_on_110 (tgt := 128) (by decide +kernel) (fun q6 => ?_) (fun q6 => ?_)
        · have h := h.1 q6
          refine P_aload_n C dX11_on_128 0 rfl ?_
          refine P_getS C (e := 33) fa_X11_on_21 kd_0 (d := 33) rfl (fxl fx_0) rfl dX11_on_129 ?_
          refine P_ci (R_v (ci := 1) C kv_X11_on_X1_allAt (As := []) rfl kd_33 rfl (fxl fx_33) (Nat.le_of_ble_eq_true rfl) dX11_on_132 ⟨Nat.le_refl _, Nat.le_refl _⟩ h) (fun r8 σ7 h => ?_)
          exact P_iret C dX11_on_135 h
        · have h := h.2 q6
          refine P_aload_n C dX11_on_113 0 rfl ?_
          refine P_getS C (e := 33) fa_X11_on_21 kd_0 (d := 33) rfl (fxl fx_0) rfl dX11_on_114 ?_
          refine P_getS C (e := 36) fa_X11_on_124 kd_33 (d := 3) rfl (fxl fx_33) rfl dX11_on_117 ?_
          refine P_iload_n C dX11_on_120 2 rfl ?_
          refine P_bipush C dX11_on_121 (v := (10 : Int32)) rfl ?_
          refine P_isub C dX11_on_123 ?_
          obtain ⟨hv9, h⟩ := h
          refine P_iald C kd_36 (fxl fx_36) hv9 dX11_on_124 ?_
          refine P_goto C dX11_on_125 (tgt := 135) (by decide +kernel) ?_
          exact P_iret C dX11_on_135 h
      · have h := h.2 q4
        refine P_aload_n C dX11_on_91 0 rfl ?_
        refine P_iload_n C dX11_on_92 2 rfl ?_
        refine P_bipush C dX11_on_93 (v := (20 : Int32)) rfl ?_
        refine P_isub C dX11_on_95 ?_
        refine P_iload_n C dX11_on_96 1 rfl ?_
        refine P_ci (R_v (ci := 11) C kv_X11_on_X11_heldTimes (As := [.int (x2 - (20 : Int32)), .int x1]) rfl kd_0 rfl (fxl fx_0) (Nat.le_of_ble_eq_true rfl) dX11_on_97 ⟨Nat.le_refl _, Nat.le_refl _⟩ h) (fun r11 σ10 h => ?_)
        exact P_iret C dX11_on_100 h
    · have h := h.2 q2
      refine P_bipush C dX11_on_72 (v := (-2 : Int32)) rfl ?_
      exact P_iret C dX11_on_74 h
theorem fa_X11_findsBestOrder_12 : FA RX11 wsX11_findsBestOrder 12 11 0 "NineMowers" := by
  show _ ∧ _ ∧ _ ∧ _
  exact ⟨by decide +kernel, fun _ h => List.mem_cons_of_mem _ (List.mem_append_left _ (List.mem_append_left _ (List.mem_append_left _ (List.mem_append_left _ (List.mem_append_left _ (List.mem_append_left _ (List.mem_append_left _ (List.mem_append_left _ (List.mem_append_left _ (List.mem_append_right _ h)))))))))), List.mem_of_getElem? (i := 1) rfl, Or.inl rfl⟩
theorem fa_X11_findsBestOrder_76 : FA RX11 wsX11_findsBestOrder 76 1 1 "NineMowers$Course" := by
  show _ ∧ _ ∧ _ ∧ _
  exact ⟨by decide +kernel, fun _ h => List.mem_cons_of_mem _ (List.mem_append_left _ (List.mem_append_left _ (List.mem_append_left _ (List.mem_append_left _ (List.mem_append_left _ (List.mem_append_left _ (List.mem_append_left _ (List.mem_append_left _ (List.mem_append_right _ h))))))))), List.mem_of_getElem? (i := 2) rfl, Or.inl rfl⟩
theorem km_X11_findsBestOrder_min : KM RX11 wsX11_findsBestOrder 209 Lib.Math.min.name Lib.Math.min.code := ⟨List.mem_of_getElem? (i := 3) rfl, List.mem_of_getElem? (i := 4) rfl, List.mem_of_getElem? (i := 5) rfl, List.mem_of_getElem? (i := 6) rfl⟩
theorem fa_X11_findsBestOrder_60 : FA RX11 wsX11_findsBestOrder 60 11 10 "NineMowers" := by
  show _ ∧ _ ∧ _ ∧ _
  exact ⟨by decide +kernel, fun _ h => List.mem_cons_of_mem _ (List.mem_append_left _ (List.mem_append_left _ (List.mem_append_left _ (List.mem_append_left _ (List.mem_append_left _ (List.mem_append_left _ (List.mem_append_left _ (List.mem_append_left _ (List.mem_append_left _ (List.mem_append_right _ h)))))))))), List.mem_of_getElem? (i := 7) rfl, Or.inl rfl⟩
theorem kv_X11_findsBestOrder_X11_totalInOrder : KV RX11 wsX11_findsBestOrder (rmz 6) 214 RX11 yX11_totalInOrder wsX11_totalInOrder (rmz 5) 1 := ⟨_, _, _, _, gX11_findsBestOrder_X11_totalInOrder, rfl, by decide +kernel, by decide +kernel⟩
theorem kv_X11_findsBestOrder_X11_triesNextOrder : KV RX11 wsX11_findsBestOrder (rmz 6) 223 RX11 yX11_triesNextOrder wsX11_triesNextOrder (rmz 1) 1 := ⟨_, _, _, _, gX11_findsBestOrder_X11_triesNextOrder, rfl, by decide +kernel, by decide +kernel⟩
theorem fa_X11_findsBestOrder_64 : FA RX11 wsX11_findsBestOrder 64 11 11 "NineMowers" := by
  show _ ∧ _ ∧ _ ∧ _
  exact ⟨by decide +kernel, fun _ h => List.mem_cons_of_mem _ (List.mem_append_left _ (List.mem_append_left _ (List.mem_append_left _ (List.mem_append_left _ (List.mem_append_left _ (List.mem_append_left _ (List.mem_append_left _ (List.mem_append_left _ (List.mem_append_left _ (List.mem_append_right _ h)))))))))), List.mem_of_getElem? (i := 8) rfl, Or.inl rfl⟩
theorem kc_X11_findsBestOrder_217 : KC RX11 wsX11_findsBestOrder 217 := ⟨List.mem_of_getElem? (i := 9) rfl, List.mem_of_getElem? (i := 10) rfl, List.mem_of_getElem? (i := 11) rfl, List.mem_of_getElem? (i := 12) rfl⟩
noncomputable def K_X11_findsBestOrder (l : Launch) (V : Vx) (a1 : Int32) (σ : Sg) (Qk : Int32 → Sg → Prop) : Prop := Ka l V yX11_findsBestOrder wsX11_findsBestOrder (rmz 6) 0 0 [.ref 0, .int a1] σ (QI V Qk)
theorem e_X11_findsBestOrder {l : Launch} {V : Vx} {a1 : Int32} {σ : Sg} {Qk : Int32 → Sg → Prop} (h : ∀ M : Mx, mL M = l → mV M = V → mN M = 7 → Cx M cX11_findsBestOrder (some .int) RX11 wsX11_findsBestOrder (rmz 6) 0 0 (QI (mV M) Qk) → PS M 0 [(0, .ref 0), (1, .int a1)] [] σ (0, 0)) : K_X11_findsBestOrder l V a1 σ Qk :=
  Ka_of (by decide +kernel) rfl rfl (Nat.le_of_ble_eq_true rfl) (fun M h1 h2 h3 C => h M h1 h2 h3 (by rw [h2]; exact C))
set_option maxRecDepth 100000 in
set_option maxHeartbeats 4000000 in
theorem s_X11_findsBestOrder_0 {M : Mx} {Qk : Int32 → Sg → Prop} (C : Cx M cX11_findsBestOrder (some .int) RX11 wsX11_findsBestOrder (rmz 6) 0 0 (QI (mV M) Qk)) (hN : mN M = 7) {a1 : Int32} {σ : Sg} (h : (∀ v1 : Int32, v1 = jmin (gi σ 1 1) (5 : Int32) → PS M 14 [(0, .ref 0), (1, .int a1), (2, .int v1), (3, .int (0 : Int32))] [] σ (0, 0))) : PS M 0 [(0, .ref 0), (1, .int a1)] [] σ (0, 0) := by
  refine P_aload_n C dX11_findsBestOrder_0 0 rfl ?_
  refine P_getS C (e := 1) fa_X11_findsBestOrder_12 kd_0 (d := 1) rfl (fxl fx_0) rfl dX11_findsBestOrder_1 ?_
  refine P_getI C fa_X11_findsBestOrder_76 kd_1 rfl (fxl fx_1) dX11_findsBestOrder_4 ?_
  refine P_iconst C dX11_findsBestOrder_7 (v := (5 : Int32)) rfl ?_
  refine P_min C km_X11_findsBestOrder_min (by decide +kernel) (Nat.le_of_ble_eq_true rfl) ⟨Nat.le_refl _, Nat.le_refl _⟩ dX11_findsBestOrder_8 ?_
  refine P_nmi (fun v1 ev1 => ?_)
  have h := h v1 ev1
  refine P_istore_n C dX11_findsBestOrder_11 (by rw [hN]; decide) rfl ?_
  refine P_iconst C dX11_findsBestOrder_12 (v := (0 : Int32)) rfl ?_
  refine P_istore_n C dX11_findsBestOrder_13 (by rw [hN]; decide) rfl ?_
  exact P_sub [2, 3, 1, 0] rfl h
set_option maxRecDepth 100000 in
set_option maxHeartbeats 4000000 in
theorem s_X11_findsBestOrder_14 {M : Mx} {Qk : Int32 → Sg → Prop} (C : Cx M cX11_findsBestOrder (some .int) RX11 wsX11_findsBestOrder (rmz 6) 0 0 (QI (mV M) Qk)) (hN : mN M = 7) {x1 : Int32} {x2 : Int32} {x3 : Int32} {σ : Sg} (h : ((x2 ≤ x3 → PS M 40 [(0, .ref 0), (1, .int x1), (2, .int x2), (3, .int (-1 : Int32)), (4, .int (1 : Int32)), (5, .int (0 : Int32))] [] σ (0, 0)) ∧ (¬ x2 ≤ x3 → (vp_in x3 5 ∧ (∀ σ3 : Sg, σ3 = si σ 66 x3.toNatClampNeg x3 → (∀ v4 : Int32, v4 = x3 + 1 → PS M 14 [(0, .ref 0), (1, .int x1), (2, .int x2), (3, .int v4)] [] σ3 (0, 0))))))) : PS M 14 [(0, .ref 0), (1, .int x1), (2, .int x2), (3, .int x3)] [] σ (0, 0) := by
  refine P_iload_n C dX11_findsBestOrder_14 3 rfl ?_
  refine P_iload_n C dX11_findsBestOrder_15 2 rfl ?_
  refine P_icmp_ge C dX11_findsBestOrder_16 (tgt := 32) (by decide +kernel) (fun q1 => ?_) (fun q1 => ?_)
  · have h := h.1 q1
    refine P_iconst C dX11_findsBestOrder_32 (v := (-1 : Int32)) rfl ?_
    refine P_istore_n C dX11_findsBestOrder_33 (by rw [hN]; decide) rfl ?_
    refine P_iconst C dX11_findsBestOrder_34 (v := (1 : Int32)) rfl ?_
    refine P_istore C dX11_findsBestOrder_35 (by rw [hN]; decide) rfl ?_
    refine P_iconst C dX11_findsBestOrder_37 (v := (0 : Int32)) rfl ?_
    refine P_istore C dX11_findsBestOrder_38 (by rw [hN]; decide) rfl ?_
    exact P_sub [3, 4, 5, 2, 1, 0] rfl h
  · have h := h.2 q1
    refine P_aload_n C dX11_findsBestOrder_19 0 rfl ?_
    refine P_getS C (e := 66) fa_X11_findsBestOrder_60 kd_0 (d := 66) rfl (fxl fx_0) rfl dX11_findsBestOrder_20 ?_
    refine P_iload_n C dX11_findsBestOrder_23 3 rfl ?_
    refine P_iload_n C dX11_findsBestOrder_24 3 rfl ?_
    obtain ⟨hv2, h⟩ := h
    refine P_iast C kd_66 (fxl fx_66) hv2 dX11_findsBestOrder_25 ?_
    refine P_nm (fun σ3 eσ3 => ?_)
    have h := h σ3 eσ3
    obtain ⟨v4, ev4⟩ : ∃ v : Int32, v = x3 + 1 := ⟨_, rfl⟩
    have h := h v4 ev4
    refine P_iinc (v := v4) C dX11_findsBestOrder_26 3 rfl (by rw [ev4]; rfl) (by rw [hN]; decide) rfl ?_
    refine P_goto C dX11_findsBestOrder_29 (tgt := 14) (by decide +kernel) ?_
    exact P_sub [1, 2, 3, 0] rfl h
set_option maxRecDepth 100000 in
set_option maxHeartbeats 4000000 in
theorem s_X11_findsBestOrder_40 {M : Mx} {Qk : Int32 → Sg → Prop} (C : Cx M cX11_findsBestOrder (some .int) RX11 wsX11_findsBestOrder (rmz 6) 0 0 (QI (mV M) Qk)) (hN : mN M = 7) {x1 : Int32} {x2 : Int32} {x3 : Int32} {x4 : Int32} {x5 : Int32} {σ : Sg} (h : (((120 : Int32) ≤ x5 → Qk x3 σ) ∧ (¬ (120 : Int32) ≤ x5 → ((x4 = 0 → Qk x3 σ) ∧ (¬ x4 = 0 → K_X11_totalInOrder (mL M) (mV M) x1 σ (fun r4 σ3 => ((r4 ≤ x3 → K_X11_triesNextOrder (mL M) (mV M) x2 σ3 (fun r7 σ6 => (∀ v8 : Int32, v8 = x5 + 1 → PS M 40 [(0, .ref 0), (1, .int x1), (2, .int x2), (3, .int x3), (4, .int r7), (5, .int v8)] [] σ6 (0, 0)))) ∧ (¬ r4 ≤ x3 → ((¬ (0 : Int32) < 0 ∧ ¬ (0 : Int32) < 0 ∧ ¬ x2 < 0 ∧ (0 : Int32).toNatClampNeg + x2.toNatClampNeg ≤ 5 ∧ (0 : Int32).toNatClampNeg + x2.toNatClampNeg ≤ 5) ∧ (∀ σ9 : Sg, σ9 = sia σ3 67 (va_cpy (σ3.1 66) (σ3.1 67) (0 : Int32).toNatClampNeg (0 : Int32).toNatClampNeg x2.toNatClampNeg) → K_X11_triesNextOrder (mL M) (mV M) x2 σ9 (fun r11 σ10 => (∀ v12 : Int32, v12 = x5 + 1 → PS M 40 [(0, .ref 0), (1, .int x1), (2, .int x2), (3, .int r4), (4, .int r11), (5, .int v12)] [] σ10 (0, 0))))))))))))) : PS M 40 [(0, .ref 0), (1, .int x1), (2, .int x2), (3, .int x3), (4, .int x4), (5, .int x5)] [] σ (0, 0) := by
  refine P_iload C dX11_findsBestOrder_40 5 rfl ?_
  refine P_bipush C dX11_findsBestOrder_42 (v := (120 : Int32)) rfl ?_
  refine P_icmp_ge C dX11_findsBestOrder_44 (tgt := 95) (by decide +kernel) (fun q1 => ?_) (fun q1 => ?_)
  · have h := h.1 q1
    refine P_iload_n C dX11_findsBestOrder_95 3 rfl ?_
    exact P_iret C dX11_findsBestOrder_96 h
  · have h := h.2 q1
    refine P_iload C dX11_findsBestOrder_47 4 rfl ?_
    refine P_if_eq C dX11_findsBestOrder_49 (tgt := 95) (by decide +kernel) (fun q2 => ?_) (fun q2 => ?_)
    · have h := h.1 q2
      refine P_iload_n C dX11_findsBestOrder_95 3 rfl ?_
      exact P_iret C dX11_findsBestOrder_96 h
    · have h := h.2 q2
      refine P_aload_n C dX11_findsBestOrder_52 0 rfl ?_
      refine P_iload_n C dX11_findsBestOrder_53 1 rfl ?_
      refine P_ci (R_v (ci := 11) C kv_X11_findsBestOrder_X11_totalInOrder (As := [.int x1]) rfl kd_0 rfl (fxl fx_0) (Nat.le_of_ble_eq_true rfl) dX11_findsBestOrder_54 ⟨Nat.le_refl _, Nat.le_refl _⟩ h) (fun r4 σ3 h => ?_)
      refine P_istore C dX11_findsBestOrder_57 (by rw [hN]; decide) rfl ?_
      refine P_iload C dX11_findsBestOrder_59 0 rfl ?_
      refine P_iload_n C dX11_findsBestOrder_61 4 rfl ?_
      refine P_icmp_le C dX11_findsBestOrder_62 (tgt := 82) (by decide +kernel) (fun q5 => ?_) (fun q5 => ?_)
      · have h := h.1 q5
        refine P_aload_n C dX11_findsBestOrder_82 1 rfl ?_
        refine P_iload_n C dX11_findsBestOrder_83 3 rfl ?_
        refine P_ci (R_v (ci := 11) C kv_X11_findsBestOrder_X11_triesNextOrder (As := [.int x2]) rfl kd_0 rfl (fxl fx_0) (Nat.le_of_ble_eq_true rfl) dX11_findsBestOrder_84 ⟨Nat.le_refl _, Nat.le_refl _⟩ h) (fun r7 σ6 h => ?_)
        refine P_istore C dX11_findsBestOrder_87 (by rw [hN]; decide) rfl ?_
        obtain ⟨v8, ev8⟩ : ∃ v : Int32, v = x5 + 1 := ⟨_, rfl⟩
        have h := h v8 ev8
        refine P_iinc (v := v8) C dX11_findsBestOrder_89 6 rfl (by rw [ev8]; rfl) (by rw [hN]; decide) rfl ?_
        refine P_goto C dX11_findsBestOrder_92 (tgt := 40) (by decide +kernel) ?_
        exact P_sub [3, 4, 5, 6, 1, 0] rfl h
      · have h := h.2 q5
        refine P_iload C dX11_findsBestOrder_65 0 rfl ?_
        refine P_istore_n C dX11_findsBestOrder_67 (by rw [hN]; decide) rfl ?_
        refine P_aload_n C dX11_findsBestOrder_68 2 rfl ?_
        refine P_getS C (e := 66) fa_X11_findsBestOrder_60 kd_0 (d := 66) rfl (fxl fx_0) rfl dX11_findsBestOrder_69 ?_
        refine P_iconst C dX11_findsBestOrder_72 (v := (0 : Int32)) rfl ?_
        refine P_aload_n C dX11_findsBestOrder_73 2 rfl ?_
        refine P_getS C (e := 67) fa_X11_findsBestOrder_64 kd_0 (d := 67) rfl (fxl fx_0) rfl dX11_findsBestOrder_74 ?_
        refine P_iconst C dX11_findsBestOrder_77 (v := (0 : Int32)) rfl ?_
        refine P_iload_n C dX11_findsBestOrder_78 4 rfl ?_
        obtain ⟨⟨cq1, cq2, cq3, cq4, cq5⟩, h⟩ := h
        refine P_copyi C kc_X11_findsBestOrder_217 kd_66 (fxl fx_66) kd_67 (fxl fx_67) cq1 cq2 cq3 cq4 cq5 (by decide +kernel) (Nat.le_of_ble_eq_true rfl) dX11_findsBestOrder_79 ?_
        refine P_nm (fun σ9 eσ9 => ?_)
        have h := h σ9 eσ9
        refine P_aload_n C dX11_findsBestOrder_82 2 rfl ?_
        refine P_iload_n C dX11_findsBestOrder_83 4 rfl ?_
        refine P_ci (R_v (ci := 11) C kv_X11_findsBestOrder_X11_triesNextOrder (As := [.int x2]) rfl kd_0 rfl (fxl fx_0) (Nat.le_of_ble_eq_true rfl) dX11_findsBestOrder_84 ⟨Nat.le_refl _, Nat.le_refl _⟩ h) (fun r11 σ10 h => ?_)
        refine P_istore C dX11_findsBestOrder_87 (by rw [hN]; decide) rfl ?_
        obtain ⟨v12, ev12⟩ : ∃ v : Int32, v = x5 + 1 := ⟨_, rfl⟩
        have h := h v12 ev12
        refine P_iinc (v := v12) C dX11_findsBestOrder_89 6 rfl (by rw [ev12]; rfl) (by rw [hN]; decide) rfl ?_
        refine P_goto C dX11_findsBestOrder_92 (tgt := 40) (by decide +kernel) ?_
        exact P_sub [4, 5, 6, 2, 1, 0] rfl h
theorem kv_X11_mostBy_X11_totalBy : KV RX11 wsX11_mostBy (rmz 6) 234 RX11 yX11_totalBy wsX11_totalBy (rmz 5) 3 := ⟨_, _, _, _, gX11_mostBy_X11_totalBy, rfl, by decide +kernel, by decide +kernel⟩
noncomputable def K_X11_mostBy (l : Launch) (V : Vx) (a1 : Int32) (a2 : Int32) (a3 : Int32) (a4 : Int32) (a5 : Int32) (σ : Sg) (Qk : Int32 → Sg → Prop) : Prop := Ka l V yX11_mostBy wsX11_mostBy (rmz 6) 0 0 [.ref 0, .int a1, .int a2, .int a3, .int a4, .int a5] σ (QI V Qk)
theorem e_X11_mostBy {l : Launch} {V : Vx} {a1 : Int32} {a2 : Int32} {a3 : Int32} {a4 : Int32} {a5 : Int32} {σ : Sg} {Qk : Int32 → Sg → Prop} (h : ∀ M : Mx, mL M = l → mV M = V → mN M = 10 → Cx M cX11_mostBy (some .int) RX11 wsX11_mostBy (rmz 6) 0 0 (QI (mV M) Qk) → PS M 0 [(0, .ref 0), (1, .int a1), (2, .int a2), (3, .int a3), (4, .int a4), (5, .int a5)] [] σ (0, 0)) : K_X11_mostBy l V a1 a2 a3 a4 a5 σ Qk :=
  Ka_of (by decide +kernel) rfl rfl (Nat.le_of_ble_eq_true rfl) (fun M h1 h2 h3 C => h M h1 h2 h3 (by rw [h2]; exact C))
set_option maxRecDepth 100000 in
set_option maxHeartbeats 4000000 in
theorem s_X11_mostBy_0 {M : Mx} {Qk : Int32 → Sg → Prop} (C : Cx M cX11_mostBy (some .int) RX11 wsX11_mostBy (rmz 6) 0 0 (QI (mV M) Qk)) (hN : mN M = 10) {a1 : Int32} {a2 : Int32} {a3 : Int32} {a4 : Int32} {a5 : Int32} {σ : Sg} (h : K_X11_totalBy (mL M) (mV M) a1 a2 a3 σ (fun r2 σ1 => (∀ v3 : Int32, v3 = a3 + (1 : Int32) → PS M 17 [(0, .ref 0), (1, .int a1), (2, .int a2), (4, .int a4), (5, .int a5), (6, .int a3), (7, .int r2), (8, .int v3)] [] σ1 (0, 0)))) : PS M 0 [(0, .ref 0), (1, .int a1), (2, .int a2), (3, .int a3), (4, .int a4), (5, .int a5)] [] σ (0, 0) := by
  refine P_iload_n C dX11_mostBy_0 3 rfl ?_
  refine P_istore C dX11_mostBy_1 (by rw [hN]; decide) rfl ?_
  refine P_aload_n C dX11_mostBy_3 1 rfl ?_
  refine P_iload_n C dX11_mostBy_4 2 rfl ?_
  refine P_iload_n C dX11_mostBy_5 3 rfl ?_
  refine P_iload_n C dX11_mostBy_6 4 rfl ?_
  refine P_ci (R_v (ci := 11) C kv_X11_mostBy_X11_totalBy (As := [.int a1, .int a2, .int a3]) rfl kd_0 rfl (fxl fx_0) (Nat.le_of_ble_eq_true rfl) dX11_mostBy_7 ⟨Nat.le_refl _, Nat.le_refl _⟩ h) (fun r2 σ1 h => ?_)
  refine P_istore C dX11_mostBy_10 (by rw [hN]; decide) rfl ?_
  refine P_iload_n C dX11_mostBy_12 5 rfl ?_
  refine P_iconst C dX11_mostBy_13 (v := (1 : Int32)) rfl ?_
  refine P_iadd C dX11_mostBy_14 ?_
  refine P_nmi (fun v3 ev3 => ?_)
  have h := h v3 ev3
  refine P_istore C dX11_mostBy_15 (by rw [hN]; decide) rfl ?_
  exact P_sub [3, 4, 5, 7, 8, 2, 1, 0] rfl h
set_option maxRecDepth 100000 in
set_option maxHeartbeats 4000000 in
theorem s_X11_mostBy_17 {M : Mx} {Qk : Int32 → Sg → Prop} (C : Cx M cX11_mostBy (some .int) RX11 wsX11_mostBy (rmz 6) 0 0 (QI (mV M) Qk)) (hN : mN M = 10) {x1 : Int32} {x2 : Int32} {x4 : Int32} {x5 : Int32} {x6 : Int32} {x7 : Int32} {x8 : Int32} {σ : Sg} (h : ((x4 < x8 → ((¬ x5 = 0 → Qk x7 σ) ∧ (x5 = 0 → Qk x6 σ))) ∧ (¬ x4 < x8 → K_X11_totalBy (mL M) (mV M) x1 x2 x8 σ (fun r4 σ3 => ((r4 ≤ x7 → (∀ v6 : Int32, v6 = x8 + 1 → PS M 17 [(0, .ref 0), (1, .int x1), (2, .int x2), (4, .int x4), (5, .int x5), (6, .int x6), (7, .int x7), (8, .int v6)] [] σ3 (0, 0))) ∧ (¬ r4 ≤ x7 → (∀ v7 : Int32, v7 = x8 + 1 → PS M 17 [(0, .ref 0), (1, .int x1), (2, .int x2), (4, .int x4), (5, .int x5), (6, .int x8), (7, .int r4), (8, .int v7)] [] σ3 (0, 0)))))))) : PS M 17 [(0, .ref 0), (1, .int x1), (2, .int x2), (4, .int x4), (5, .int x5), (6, .int x6), (7, .int x7), (8, .int x8)] [] σ (0, 0) := by
  refine P_iload C dX11_mostBy_17 7 rfl ?_
  refine P_iload C dX11_mostBy_19 3 rfl ?_
  refine P_icmp_gt C dX11_mostBy_21 (tgt := 55) (by decide +kernel) (fun q1 => ?_) (fun q1 => ?_)
  · have h := h.1 q1
    refine P_iload C dX11_mostBy_55 4 rfl ?_
    refine P_if_ne C dX11_mostBy_57 (tgt := 65) (by decide +kernel) (fun q2 => ?_) (fun q2 => ?_)
    · have h := h.1 q2
      refine P_iload C dX11_mostBy_65 6 rfl ?_
      exact P_iret C dX11_mostBy_67 h
    · have h := h.2 q2
      refine P_iload C dX11_mostBy_60 5 rfl ?_
      refine P_goto C dX11_mostBy_62 (tgt := 67) (by decide +kernel) ?_
      exact P_iret C dX11_mostBy_67 h
  · have h := h.2 q1
    refine P_aload_n C dX11_mostBy_24 0 rfl ?_
    refine P_iload_n C dX11_mostBy_25 1 rfl ?_
    refine P_iload_n C dX11_mostBy_26 2 rfl ?_
    refine P_iload C dX11_mostBy_27 7 rfl ?_
    refine P_ci (R_v (ci := 11) C kv_X11_mostBy_X11_totalBy (As := [.int x1, .int x2, .int x8]) rfl kd_0 rfl (fxl fx_0) (Nat.le_of_ble_eq_true rfl) dX11_mostBy_29 ⟨Nat.le_refl _, Nat.le_refl _⟩ h) (fun r4 σ3 h => ?_)
    refine P_istore C dX11_mostBy_32 (by rw [hN]; decide) rfl ?_
    refine P_iload C dX11_mostBy_34 0 rfl ?_
    refine P_iload C dX11_mostBy_36 7 rfl ?_
    refine P_icmp_le C dX11_mostBy_38 (tgt := 49) (by decide +kernel) (fun q5 => ?_) (fun q5 => ?_)
    · have h := h.1 q5
      obtain ⟨v6, ev6⟩ : ∃ v : Int32, v = x8 + 1 := ⟨_, rfl⟩
      have h := h v6 ev6
      refine P_iinc (v := v6) C dX11_mostBy_49 8 rfl (by rw [ev6]; rfl) (by rw [hN]; decide) rfl ?_
      refine P_goto C dX11_mostBy_52 (tgt := 17) (by decide +kernel) ?_
      exact P_sub [2, 3, 4, 5, 6, 7, 8, 0] rfl h
    · have h := h.2 q5
      refine P_iload C dX11_mostBy_41 8 rfl ?_
      refine P_istore C dX11_mostBy_43 (by rw [hN]; decide) rfl ?_
      refine P_iload C dX11_mostBy_45 1 rfl ?_
      refine P_istore C dX11_mostBy_47 (by rw [hN]; decide) rfl ?_
      obtain ⟨v7, ev7⟩ : ∃ v : Int32, v = x8 + 1 := ⟨_, rfl⟩
      have h := h v7 ev7
      refine P_iinc (v := v7) C dX11_mostBy_49 8 rfl (by rw [ev7]; rfl) (by rw [hN]; decide) rfl ?_
      refine P_goto C dX11_mostBy_52 (tgt := 17) (by decide +kernel) ?_
      exact P_sub [4, 5, 6, 7, 8, 2, 1, 0] rfl h
theorem kv_X11_stop_X11_isMower : KV RX11 wsX11_stop (rmz 6) 110 RX11 yX11_isMower wsX11_isMower (rmz 0) 1 := ⟨_, _, _, _, gX11_stop_X11_isMower, rfl, by decide +kernel, by decide +kernel⟩
theorem fa_X11_stop_21 : FA RX11 wsX11_stop 21 11 2 "NineMowers" := by
  show _ ∧ _ ∧ _ ∧ _
  exact ⟨by decide +kernel, fun _ h => List.mem_cons_of_mem _ (List.mem_append_left _ (List.mem_append_left _ (List.mem_append_left _ (List.mem_append_left _ (List.mem_append_left _ (List.mem_append_left _ (List.mem_append_left _ (List.mem_append_left _ (List.mem_append_left _ (List.mem_append_right _ h)))))))))), List.mem_of_getElem? (i := 3) rfl, Or.inl rfl⟩
theorem fa_X11_stop_12 : FA RX11 wsX11_stop 12 11 0 "NineMowers" := by
  show _ ∧ _ ∧ _ ∧ _
  exact ⟨by decide +kernel, fun _ h => List.mem_cons_of_mem _ (List.mem_append_left _ (List.mem_append_left _ (List.mem_append_left _ (List.mem_append_left _ (List.mem_append_left _ (List.mem_append_left _ (List.mem_append_left _ (List.mem_append_left _ (List.mem_append_left _ (List.mem_append_right _ h)))))))))), List.mem_of_getElem? (i := 4) rfl, Or.inl rfl⟩
theorem kv_X11_stop_X1_becomes : KV RX11 wsX11_stop (rmz 6) 189 RX1 yX1_becomes wsX1_becomes (rmz 1) 1 := ⟨_, _, _, _, gX11_stop_X1_becomes, rfl, by decide +kernel, by decide +kernel⟩
theorem kv_X11_stop_X1_goes : KV RX11 wsX11_stop (rmz 6) 196 RX1 yX1_goes wsX1_goes (rmz 5) 1 := ⟨_, _, _, _, gX11_stop_X1_goes, rfl, by decide +kernel, by decide +kernel⟩
theorem kv_X11_stop_X1_allAt : KV RX11 wsX11_stop (rmz 6) 199 RX1 yX1_allAt wsX1_allAt (rmz 0) 0 := ⟨_, _, _, _, gX11_stop_X1_allAt, rfl, by decide +kernel, by decide +kernel⟩
theorem fa_X11_stop_124 : FA RX11 wsX11_stop 124 1 4 "NineMowers$Course" := by
  show _ ∧ _ ∧ _ ∧ _
  exact ⟨by decide +kernel, fun _ h => List.mem_cons_of_mem _ (List.mem_append_left _ (List.mem_append_left _ (List.mem_append_left _ (List.mem_append_left _ (List.mem_append_left _ (List.mem_append_left _ (List.mem_append_left _ (List.mem_append_left _ (List.mem_append_right _ h))))))))), List.mem_of_getElem? (i := 5) rfl, Or.inl rfl⟩
theorem fa_X11_stop_67 : FA RX11 wsX11_stop 67 11 12 "NineMowers" := by
  show _ ∧ _ ∧ _ ∧ _
  exact ⟨by decide +kernel, fun _ h => List.mem_cons_of_mem _ (List.mem_append_left _ (List.mem_append_left _ (List.mem_append_left _ (List.mem_append_left _ (List.mem_append_left _ (List.mem_append_left _ (List.mem_append_left _ (List.mem_append_left _ (List.mem_append_left _ (List.mem_append_right _ h)))))))))), List.mem_of_getElem? (i := 6) rfl, Or.inl rfl⟩
theorem kc_X11_stop_217 : KC RX11 wsX11_stop 217 := ⟨List.mem_of_getElem? (i := 7) rfl, List.mem_of_getElem? (i := 8) rfl, List.mem_of_getElem? (i := 9) rfl, List.mem_of_getElem? (i := 10) rfl⟩
theorem fa_X11_stop_133 : FA RX11 wsX11_stop 133 1 7 "NineMowers$Course" := by
  show _ ∧ _ ∧ _ ∧ _
  exact ⟨by decide +kernel, fun _ h => List.mem_cons_of_mem _ (List.mem_append_left _ (List.mem_append_left _ (List.mem_append_left _ (List.mem_append_left _ (List.mem_append_left _ (List.mem_append_left _ (List.mem_append_left _ (List.mem_append_left _ (List.mem_append_right _ h))))))))), List.mem_of_getElem? (i := 11) rfl, Or.inl rfl⟩
theorem kv_X11_stop_X11_hits : KV RX11 wsX11_stop (rmz 6) 247 RX11 yX11_hits wsX11_hits (rmz 0) 1 := ⟨_, _, _, _, gX11_stop_X11_hits, rfl, by decide +kernel, by decide +kernel⟩
noncomputable def K_X11_stop (l : Launch) (V : Vx) (a1 : Int32) (a2 : Int32) (a3 : Int32) (a4 : Int32) (σ : Sg) (Qk : Int32 → Sg → Prop) : Prop := Ka l V yX11_stop wsX11_stop (rmz 6) 0 0 [.ref 0, .int a1, .int a2, .int a3, .int a4] σ (QI V Qk)
theorem e_X11_stop {l : Launch} {V : Vx} {a1 : Int32} {a2 : Int32} {a3 : Int32} {a4 : Int32} {σ : Sg} {Qk : Int32 → Sg → Prop} (h : ∀ M : Mx, mL M = l → mV M = V → mN M = 6 → Cx M cX11_stop (some .int) RX11 wsX11_stop (rmz 6) 0 0 (QI (mV M) Qk) → PS M 0 [(0, .ref 0), (1, .int a1), (2, .int a2), (3, .int a3), (4, .int a4)] [] σ (0, 0)) : K_X11_stop l V a1 a2 a3 a4 σ Qk :=
  Ka_of (by decide +kernel) rfl rfl (Nat.le_of_ble_eq_true rfl) (fun M h1 h2 h3 C => h M h1 h2 h3 (by rw [h2]; exact C))
set_option maxRecDepth 100000 in
set_option maxHeartbeats 4000000 in
theorem s_X11_stop_0 {M : Mx} {Qk : Int32 → Sg → Prop} (C : Cx M cX11_stop (some .int) RX11 wsX11_stop (rmz 6) 0 0 (QI (mV M) Qk)) (hN : mN M = 6) {a1 : Int32} {a2 : Int32} {a3 : Int32} {a4 : Int32} {σ : Sg} (h : K_X11_isMower (mL M) (mV M) a1 σ (fun r2 σ1 => ((r2 = 0 → Qk (-100001 : Int32) σ1) ∧ (¬ r2 = 0 → ((a4 = 0 → PS M 22 [(0, .ref 0), (1, .int a1), (2, .int a2), (3, .int a3), (4, .int a4)] [] σ1 (0, 0)) ∧ (¬ a4 = 0 → ((a4 = (1 : Int32) → PS M 22 [(0, .ref 0), (1, .int a1), (2, .int a2), (3, .int a3), (4, .int a4)] [] σ1 (0, 0)) ∧ (¬ a4 = (1 : Int32) → Qk (-100001 : Int32) σ1)))))))) : PS M 0 [(0, .ref 0), (1, .int a1), (2, .int a2), (3, .int a3), (4, .int a4)] [] σ (0, 0) := by
  refine P_aload_n C dX11_stop_0 0 rfl ?_
  refine P_iload_n C dX11_stop_1 1 rfl ?_
  refine P_ci (R_v (ci := 11) C kv_X11_stop_X11_isMower (As := [.int a1]) rfl kd_0 rfl (fxl fx_0) (Nat.le_of_ble_eq_true rfl) dX11_stop_2 ⟨Nat.le_refl _, Nat.le_refl _⟩ h) (fun r2 σ1 h => ?_)
  refine P_if_eq C dX11_stop_5 (tgt := 19) (by decide +kernel) (fun q3 => ?_) (fun q3 => ?_)
  · have h := h.1 q3
    refine P_ldc C (v := (-100001 : Int32)) (List.mem_of_getElem? (i := 1) rfl) dX11_stop_19 ?_
    exact P_iret C dX11_stop_21 h
  · have h := h.2 q3
    refine P_iload C dX11_stop_8 4 rfl ?_
    refine P_if_eq C dX11_stop_10 (tgt := 22) (by decide +kernel) (fun q4 => ?_) (fun q4 => ?_)
    · have h := h.1 q4
      exact P_sub [0, 1, 2, 3, 4] rfl h
    · have h := h.2 q4
      refine P_iload C dX11_stop_13 4 rfl ?_
      refine P_iconst C dX11_stop_15 (v := (1 : Int32)) rfl ?_
      refine P_icmp_eq C dX11_stop_16 (tgt := 22) (by decide +kernel) (fun q5 => ?_) (fun q5 => ?_)
      · have h := h.1 q5
        exact P_sub [0, 1, 2, 3, 4] rfl h
      · have h := h.2 q5
        refine P_ldc C (v := (-100001 : Int32)) (List.mem_of_getElem? (i := 1) rfl) dX11_stop_19 ?_
        exact P_iret C dX11_stop_21 h
set_option maxRecDepth 100000 in
set_option maxHeartbeats 4000000 in
theorem s_X11_stop_22 {M : Mx} {Qk : Int32 → Sg → Prop} (C : Cx M cX11_stop (some .int) RX11 wsX11_stop (rmz 6) 0 0 (QI (mV M) Qk)) (hN : mN M = 6) {x1 : Int32} {x2 : Int32} {x3 : Int32} {x4 : Int32} {σ : Sg} (h : ((x2 < (1 : Int32) → Qk (-100002 : Int32) σ) ∧ (¬ x2 < (1 : Int32) → (((20 : Int32) < x2 → Qk (-100002 : Int32) σ) ∧ (¬ (20 : Int32) < x2 → ((x3 < (1 : Int32) → Qk (-100002 : Int32) σ) ∧ (¬ x3 < (1 : Int32) → ((x3 ≤ (60 : Int32) → K_X1_becomes (mL M) (mV M) 33 1 σ (fun σ5 => K_X1_goes (mL M) (mV M) 33 x3 σ5 (fun σ6 => K_X1_allAt (mL M) (mV M) 33 σ6 (fun r8 σ7 => ((¬ (0 : Int32) < 0 ∧ ¬ (0 : Int32) < 0 ∧ ¬ (6 : Int32) < 0 ∧ (0 : Int32).toNatClampNeg + (6 : Int32).toNatClampNeg ≤ 6 ∧ (0 : Int32).toNatClampNeg + (6 : Int32).toNatClampNeg ≤ 6) ∧ (∀ σ9 : Sg, σ9 = sia σ7 68 (va_cpy (σ7.1 36) (σ7.1 68) (0 : Int32).toNatClampNeg (0 : Int32).toNatClampNeg (6 : Int32).toNatClampNeg) → K_X1_becomes (mL M) (mV M) 33 1 σ9 (fun σ10 => (vp_in x1 6 ∧ (vp_in x1 6 ∧ (∀ σ13 : Sg, σ13 = si σ10 39 x1.toNatClampNeg ((gi σ10 39 x1.toNatClampNeg) + x2) → K_X1_goes (mL M) (mV M) 33 x3 σ13 (fun σ14 => ((¬ x4 = 0 → K_X11_hits (mL M) (mV M) x1 σ14 (fun r17 σ16 => Qk r17 σ16)) ∧ (x4 = 0 → K_X1_allAt (mL M) (mV M) 33 σ14 (fun r19 σ18 => Qk (r8 - r19) σ18)))))))))))))) ∧ (¬ x3 ≤ (60 : Int32) → Qk (-100002 : Int32) σ))))))))) : PS M 22 [(0, .ref 0), (1, .int x1), (2, .int x2), (3, .int x3), (4, .int x4)] [] σ (0, 0) := by
  refine P_iload_n C dX11_stop_22 2 rfl ?_
  refine P_iconst C dX11_stop_23 (v := (1 : Int32)) rfl ?_
  refine P_icmp_lt C dX11_stop_24 (tgt := 44) (by decide +kernel) (fun q1 => ?_) (fun q1 => ?_)
  · have h := h.1 q1
    refine P_ldc C (v := (-100002 : Int32)) (List.mem_of_getElem? (i := 2) rfl) dX11_stop_44 ?_
    exact P_iret C dX11_stop_46 h
  · have h := h.2 q1
    refine P_iload_n C dX11_stop_27 2 rfl ?_
    refine P_bipush C dX11_stop_28 (v := (20 : Int32)) rfl ?_
    refine P_icmp_gt C dX11_stop_30 (tgt := 44) (by decide +kernel) (fun q2 => ?_) (fun q2 => ?_)
    · have h := h.1 q2
      refine P_ldc C (v := (-100002 : Int32)) (List.mem_of_getElem? (i := 2) rfl) dX11_stop_44 ?_
      exact P_iret C dX11_stop_46 h
    · have h := h.2 q2
      refine P_iload_n C dX11_stop_33 3 rfl ?_
      refine P_iconst C dX11_stop_34 (v := (1 : Int32)) rfl ?_
      refine P_icmp_lt C dX11_stop_35 (tgt := 44) (by decide +kernel) (fun q3 => ?_) (fun q3 => ?_)
      · have h := h.1 q3
        refine P_ldc C (v := (-100002 : Int32)) (List.mem_of_getElem? (i := 2) rfl) dX11_stop_44 ?_
        exact P_iret C dX11_stop_46 h
      · have h := h.2 q3
        refine P_iload_n C dX11_stop_38 3 rfl ?_
        refine P_bipush C dX11_stop_39 (v := (60 : Int32)) rfl ?_
        refine P_icmp_le C dX11_stop_41 (tgt := 47) (by decide +kernel) (fun q4 => ?_) (fun q4 => ?_)
        · have h := h.1 q4
          refine P_aload_n C dX11_stop_47 0 rfl ?_
          refine P_getS C (e := 33) fa_X11_stop_21 kd_0 (d := 33) rfl (fxl fx_0) rfl dX11_stop_48 ?_
          refine P_aload_n C dX11_stop_51 0 rfl ?_
          refine P_getS C (e := 1) fa_X11_stop_12 kd_0 (d := 1) rfl (fxl fx_0) rfl dX11_stop_52 ?_
          refine P_cv (R_v (ci := 1) C kv_X11_stop_X1_becomes (As := [.ref 1]) rfl kd_33 rfl (fxl fx_33) (Nat.le_of_ble_eq_true rfl) dX11_stop_55 ⟨Nat.le_refl _, Nat.le_refl _⟩ h) (fun σ5 h => ?_)
          refine P_aload_n C dX11_stop_58 0 rfl ?_
          refine P_getS C (e := 33) fa_X11_stop_21 kd_0 (d := 33) rfl (fxl fx_0) rfl dX11_stop_59 ?_
          refine P_iload_n C dX11_stop_62 3 rfl ?_
          refine P_cv (R_v (ci := 1) C kv_X11_stop_X1_goes (As := [.int x3]) rfl kd_33 rfl (fxl fx_33) (Nat.le_of_ble_eq_true rfl) dX11_stop_63 ⟨Nat.le_refl _, Nat.le_refl _⟩ h) (fun σ6 h => ?_)
          refine P_aload_n C dX11_stop_66 0 rfl ?_
          refine P_getS C (e := 33) fa_X11_stop_21 kd_0 (d := 33) rfl (fxl fx_0) rfl dX11_stop_67 ?_
          refine P_ci (R_v (ci := 1) C kv_X11_stop_X1_allAt (As := []) rfl kd_33 rfl (fxl fx_33) (Nat.le_of_ble_eq_true rfl) dX11_stop_70 ⟨Nat.le_refl _, Nat.le_refl _⟩ h) (fun r8 σ7 h => ?_)
          refine P_istore C dX11_stop_73 (by rw [hN]; decide) rfl ?_
          refine P_aload_n C dX11_stop_75 1 rfl ?_
          refine P_getS C (e := 33) fa_X11_stop_21 kd_0 (d := 33) rfl (fxl fx_0) rfl dX11_stop_76 ?_
          refine P_getS C (e := 36) fa_X11_stop_124 kd_33 (d := 3) rfl (fxl fx_33) rfl dX11_stop_79 ?_
          refine P_iconst C dX11_stop_82 (v := (0 : Int32)) rfl ?_
          refine P_aload_n C dX11_stop_83 1 rfl ?_
          refine P_getS C (e := 68) fa_X11_stop_67 kd_0 (d := 68) rfl (fxl fx_0) rfl dX11_stop_84 ?_
          refine P_iconst C dX11_stop_87 (v := (0 : Int32)) rfl ?_
          refine P_bipush C dX11_stop_88 (v := (6 : Int32)) rfl ?_
          obtain ⟨⟨cq1, cq2, cq3, cq4, cq5⟩, h⟩ := h
          refine P_copyi C kc_X11_stop_217 kd_36 (fxl fx_36) kd_68 (fxl fx_68) cq1 cq2 cq3 cq4 cq5 (by decide +kernel) (Nat.le_of_ble_eq_true rfl) dX11_stop_90 ?_
          refine P_nm (fun σ9 eσ9 => ?_)
          have h := h σ9 eσ9
          refine P_aload_n C dX11_stop_93 1 rfl ?_
          refine P_getS C (e := 33) fa_X11_stop_21 kd_0 (d := 33) rfl (fxl fx_0) rfl dX11_stop_94 ?_
          refine P_aload_n C dX11_stop_97 1 rfl ?_
          refine P_getS C (e := 1) fa_X11_stop_12 kd_0 (d := 1) rfl (fxl fx_0) rfl dX11_stop_98 ?_
          refine P_cv (R_v (ci := 1) C kv_X11_stop_X1_becomes (As := [.ref 1]) rfl kd_33 rfl (fxl fx_33) (Nat.le_of_ble_eq_true rfl) dX11_stop_101 ⟨Nat.le_refl _, Nat.le_refl _⟩ h) (fun σ10 h => ?_)
          refine P_aload_n C dX11_stop_104 1 rfl ?_
          refine P_getS C (e := 33) fa_X11_stop_21 kd_0 (d := 33) rfl (fxl fx_0) rfl dX11_stop_105 ?_
          refine P_getS C (e := 39) fa_X11_stop_133 kd_33 (d := 6) rfl (fxl fx_33) rfl dX11_stop_108 ?_
          refine P_iload_n C dX11_stop_111 2 rfl ?_
          refine P_dup2 C dX11_stop_112 rfl rfl ?_
          obtain ⟨hv11, h⟩ := h
          refine P_iald C kd_39 (fxl fx_39) hv11 dX11_stop_113 ?_
          refine P_iload_n C dX11_stop_114 3 rfl ?_
          refine P_iadd C dX11_stop_115 ?_
          obtain ⟨hv12, h⟩ := h
          refine P_iast C kd_39 (fxl fx_39) hv12 dX11_stop_116 ?_
          refine P_nm (fun σ13 eσ13 => ?_)
          have h := h σ13 eσ13
          refine P_aload_n C dX11_stop_117 1 rfl ?_
          refine P_getS C (e := 33) fa_X11_stop_21 kd_0 (d := 33) rfl (fxl fx_0) rfl dX11_stop_118 ?_
          refine P_iload_n C dX11_stop_121 4 rfl ?_
          refine P_cv (R_v (ci := 1) C kv_X11_stop_X1_goes (As := [.int x3]) rfl kd_33 rfl (fxl fx_33) (Nat.le_of_ble_eq_true rfl) dX11_stop_122 ⟨Nat.le_refl _, Nat.le_refl _⟩ h) (fun σ14 h => ?_)
          refine P_iload C dX11_stop_125 5 rfl ?_
          refine P_if_ne C dX11_stop_127 (tgt := 143) (by decide +kernel) (fun q15 => ?_) (fun q15 => ?_)
          · have h := h.1 q15
            refine P_aload_n C dX11_stop_143 1 rfl ?_
            refine P_iload_n C dX11_stop_144 2 rfl ?_
            refine P_ci (R_v (ci := 11) C kv_X11_stop_X11_hits (As := [.int x1]) rfl kd_0 rfl (fxl fx_0) (Nat.le_of_ble_eq_true rfl) dX11_stop_145 ⟨Nat.le_refl _, Nat.le_refl _⟩ h) (fun r17 σ16 h => ?_)
            exact P_iret C dX11_stop_148 h
          · have h := h.2 q15
            refine P_iload C dX11_stop_130 0 rfl ?_
            refine P_aload_n C dX11_stop_132 1 rfl ?_
            refine P_getS C (e := 33) fa_X11_stop_21 kd_0 (d := 33) rfl (fxl fx_0) rfl dX11_stop_133 ?_
            refine P_ci (R_v (ci := 1) C kv_X11_stop_X1_allAt (As := []) rfl kd_33 rfl (fxl fx_33) (Nat.le_of_ble_eq_true rfl) dX11_stop_136 ⟨Nat.le_refl _, Nat.le_refl _⟩ h) (fun r19 σ18 h => ?_)
            refine P_isub C dX11_stop_139 ?_
            refine P_goto C dX11_stop_140 (tgt := 148) (by decide +kernel) ?_
            exact P_iret C dX11_stop_148 h
        · have h := h.2 q4
          refine P_ldc C (v := (-100002 : Int32)) (List.mem_of_getElem? (i := 2) rfl) dX11_stop_44 ?_
          exact P_iret C dX11_stop_46 h
theorem fa_X11_alone_21 : FA RX11 wsX11_alone 21 11 2 "NineMowers" := by
  show _ ∧ _ ∧ _ ∧ _
  exact ⟨by decide +kernel, fun _ h => List.mem_cons_of_mem _ (List.mem_append_left _ (List.mem_append_left _ (List.mem_append_left _ (List.mem_append_left _ (List.mem_append_left _ (List.mem_append_left _ (List.mem_append_left _ (List.mem_append_left _ (List.mem_append_left _ (List.mem_append_right _ h)))))))))), List.mem_of_getElem? (i := 2) rfl, Or.inl rfl⟩
theorem fa_X11_alone_12 : FA RX11 wsX11_alone 12 11 0 "NineMowers" := by
  show _ ∧ _ ∧ _ ∧ _
  exact ⟨by decide +kernel, fun _ h => List.mem_cons_of_mem _ (List.mem_append_left _ (List.mem_append_left _ (List.mem_append_left _ (List.mem_append_left _ (List.mem_append_left _ (List.mem_append_left _ (List.mem_append_left _ (List.mem_append_left _ (List.mem_append_left _ (List.mem_append_right _ h)))))))))), List.mem_of_getElem? (i := 3) rfl, Or.inl rfl⟩
theorem kv_X11_alone_X1_becomes : KV RX11 wsX11_alone (rmz 6) 189 RX1 yX1_becomes wsX1_becomes (rmz 1) 1 := ⟨_, _, _, _, gX11_alone_X1_becomes, rfl, by decide +kernel, by decide +kernel⟩
theorem kv_X11_alone_X1_goes : KV RX11 wsX11_alone (rmz 6) 196 RX1 yX1_goes wsX1_goes (rmz 5) 1 := ⟨_, _, _, _, gX11_alone_X1_goes, rfl, by decide +kernel, by decide +kernel⟩
theorem kv_X11_alone_X1_allAt : KV RX11 wsX11_alone (rmz 6) 199 RX1 yX1_allAt wsX1_allAt (rmz 0) 0 := ⟨_, _, _, _, gX11_alone_X1_allAt, rfl, by decide +kernel, by decide +kernel⟩
theorem fa_X11_alone_76 : FA RX11 wsX11_alone 76 1 1 "NineMowers$Course" := by
  show _ ∧ _ ∧ _ ∧ _
  exact ⟨by decide +kernel, fun _ h => List.mem_cons_of_mem _ (List.mem_append_left _ (List.mem_append_left _ (List.mem_append_left _ (List.mem_append_left _ (List.mem_append_left _ (List.mem_append_left _ (List.mem_append_left _ (List.mem_append_left _ (List.mem_append_right _ h))))))))), List.mem_of_getElem? (i := 4) rfl, Or.inl rfl⟩
theorem fa_X11_alone_177 : FA RX11 wsX11_alone 177 1 2 "NineMowers$Course" := by
  show _ ∧ _ ∧ _ ∧ _
  exact ⟨by decide +kernel, fun _ h => List.mem_cons_of_mem _ (List.mem_append_left _ (List.mem_append_left _ (List.mem_append_left _ (List.mem_append_left _ (List.mem_append_left _ (List.mem_append_left _ (List.mem_append_left _ (List.mem_append_left _ (List.mem_append_right _ h))))))))), List.mem_of_getElem? (i := 5) rfl, Or.inl rfl⟩
theorem pa_X11_alone_250 : PA RX11 wsX11_alone 250 1 3 "NineMowers$Course" .int := by
  show _ ∧ _ ∧ _ ∧ _ ∧ _ ∧ _ ∧ _ ∧ _
  exact ⟨by decide +kernel, fun _ h => List.mem_cons_of_mem _ (List.mem_append_left _ (List.mem_append_left _ (List.mem_append_left _ (List.mem_append_left _ (List.mem_append_left _ (List.mem_append_left _ (List.mem_append_left _ (List.mem_append_left _ (List.mem_append_right _ h))))))))), List.mem_of_getElem? (i := 6) rfl, rfl, rfl, by decide +kernel, ⟨tyX1, tyX1_ok⟩, nmX1⟩
theorem fa_X11_alone_124 : FA RX11 wsX11_alone 124 1 4 "NineMowers$Course" := by
  show _ ∧ _ ∧ _ ∧ _
  exact ⟨by decide +kernel, fun _ h => List.mem_cons_of_mem _ (List.mem_append_left _ (List.mem_append_left _ (List.mem_append_left _ (List.mem_append_left _ (List.mem_append_left _ (List.mem_append_left _ (List.mem_append_left _ (List.mem_append_left _ (List.mem_append_right _ h))))))))), List.mem_of_getElem? (i := 7) rfl, Or.inl rfl⟩
noncomputable def K_X11_alone (l : Launch) (V : Vx) (a1 : Int32) (σ : Sg) (Qk : Int32 → Sg → Prop) : Prop := Ka l V yX11_alone wsX11_alone (rmz 6) 0 0 [.ref 0, .int a1] σ (QI V Qk)
theorem e_X11_alone {l : Launch} {V : Vx} {a1 : Int32} {σ : Sg} {Qk : Int32 → Sg → Prop} (h : ∀ M : Mx, mL M = l → mV M = V → mN M = 4 → Cx M cX11_alone (some .int) RX11 wsX11_alone (rmz 6) 0 0 (QI (mV M) Qk) → PS M 0 [(0, .ref 0), (1, .int a1)] [] σ (0, 0)) : K_X11_alone l V a1 σ Qk :=
  Ka_of (by decide +kernel) rfl rfl (Nat.le_of_ble_eq_true rfl) (fun M h1 h2 h3 C => h M h1 h2 h3 (by rw [h2]; exact C))
set_option maxRecDepth 100000 in
set_option maxHeartbeats 4000000 in
theorem s_X11_alone_0 {M : Mx} {Qk : Int32 → Sg → Prop} (C : Cx M cX11_alone (some .int) RX11 wsX11_alone (rmz 6) 0 0 (QI (mV M) Qk)) (hN : mN M = 4) {a1 : Int32} {σ : Sg} (h : ((a1 < (1 : Int32) → Qk (-100002 : Int32) σ) ∧ (¬ a1 < (1 : Int32) → ((a1 ≤ (60 : Int32) → K_X1_becomes (mL M) (mV M) 33 1 σ (fun σ3 => K_X1_goes (mL M) (mV M) 33 a1 σ3 (fun σ4 => K_X1_allAt (mL M) (mV M) 33 σ4 (fun r6 σ5 => PS M 43 [(0, .ref 0), (1, .int a1), (2, .int r6), (3, .int (0 : Int32))] [] σ5 (0, 0))))) ∧ (¬ a1 ≤ (60 : Int32) → Qk (-100002 : Int32) σ))))) : PS M 0 [(0, .ref 0), (1, .int a1)] [] σ (0, 0) := by
  refine P_iload_n C dX11_alone_0 1 rfl ?_
  refine P_iconst C dX11_alone_1 (v := (1 : Int32)) rfl ?_
  refine P_icmp_lt C dX11_alone_2 (tgt := 11) (by decide +kernel) (fun q1 => ?_) (fun q1 => ?_)
  · have h := h.1 q1
    refine P_ldc C (v := (-100002 : Int32)) (List.mem_of_getElem? (i := 1) rfl) dX11_alone_11 ?_
    exact P_iret C dX11_alone_13 h
  · have h := h.2 q1
    refine P_iload_n C dX11_alone_5 1 rfl ?_
    refine P_bipush C dX11_alone_6 (v := (60 : Int32)) rfl ?_
    refine P_icmp_le C dX11_alone_8 (tgt := 14) (by decide +kernel) (fun q2 => ?_) (fun q2 => ?_)
    · have h := h.1 q2
      refine P_aload_n C dX11_alone_14 0 rfl ?_
      refine P_getS C (e := 33) fa_X11_alone_21 kd_0 (d := 33) rfl (fxl fx_0) rfl dX11_alone_15 ?_
      refine P_aload_n C dX11_alone_18 0 rfl ?_
      refine P_getS C (e := 1) fa_X11_alone_12 kd_0 (d := 1) rfl (fxl fx_0) rfl dX11_alone_19 ?_
      refine P_cv (R_v (ci := 1) C kv_X11_alone_X1_becomes (As := [.ref 1]) rfl kd_33 rfl (fxl fx_33) (Nat.le_of_ble_eq_true rfl) dX11_alone_22 ⟨Nat.le_refl _, Nat.le_refl _⟩ h) (fun σ3 h => ?_)
      refine P_aload_n C dX11_alone_25 0 rfl ?_
      refine P_getS C (e := 33) fa_X11_alone_21 kd_0 (d := 33) rfl (fxl fx_0) rfl dX11_alone_26 ?_
      refine P_iload_n C dX11_alone_29 1 rfl ?_
      refine P_cv (R_v (ci := 1) C kv_X11_alone_X1_goes (As := [.int a1]) rfl kd_33 rfl (fxl fx_33) (Nat.le_of_ble_eq_true rfl) dX11_alone_30 ⟨Nat.le_refl _, Nat.le_refl _⟩ h) (fun σ4 h => ?_)
      refine P_aload_n C dX11_alone_33 0 rfl ?_
      refine P_getS C (e := 33) fa_X11_alone_21 kd_0 (d := 33) rfl (fxl fx_0) rfl dX11_alone_34 ?_
      refine P_ci (R_v (ci := 1) C kv_X11_alone_X1_allAt (As := []) rfl kd_33 rfl (fxl fx_33) (Nat.le_of_ble_eq_true rfl) dX11_alone_37 ⟨Nat.le_refl _, Nat.le_refl _⟩ h) (fun r6 σ5 h => ?_)
      refine P_istore_n C dX11_alone_40 (by rw [hN]; decide) rfl ?_
      refine P_iconst C dX11_alone_41 (v := (0 : Int32)) rfl ?_
      refine P_istore_n C dX11_alone_42 (by rw [hN]; decide) rfl ?_
      exact P_sub [2, 3, 1, 0] rfl h
    · have h := h.2 q2
      refine P_ldc C (v := (-100002 : Int32)) (List.mem_of_getElem? (i := 1) rfl) dX11_alone_11 ?_
      exact P_iret C dX11_alone_13 h
set_option maxRecDepth 100000 in
set_option maxHeartbeats 4000000 in
theorem s_X11_alone_43 {M : Mx} {Qk : Int32 → Sg → Prop} (C : Cx M cX11_alone (some .int) RX11 wsX11_alone (rmz 6) 0 0 (QI (mV M) Qk)) (hN : mN M = 4) {x1 : Int32} {x2 : Int32} {x3 : Int32} {σ : Sg} (h : (((gi σ 1 1) ≤ x3 → Qk x2 σ) ∧ (¬ (gi σ 1 1) ≤ x3 → K_X1_becomes (mL M) (mV M) 33 1 σ (fun σ2 => (vp_in (0 : Int32) 6 ∧ (∀ σ4 : Sg, σ4 = si σ2 35 (0 : Int32).toNatClampNeg x3 → (∀ σ5 : Sg, σ5 = si σ4 33 3 (1 : Int32) → K_X1_goes (mL M) (mV M) 33 x1 σ5 (fun σ6 => (vp_in x3 6 ∧ (∀ v8 : Int32, v8 = x2 - (gi σ6 36 x3.toNatClampNeg) → (∀ v9 : Int32, v9 = x3 + 1 → PS M 43 [(0, .ref 0), (1, .int x1), (2, .int v8), (3, .int v9)] [] σ6 (0, 0)))))))))))) : PS M 43 [(0, .ref 0), (1, .int x1), (2, .int x2), (3, .int x3)] [] σ (0, 0) := by
  refine P_iload_n C dX11_alone_43 3 rfl ?_
  refine P_aload_n C dX11_alone_44 0 rfl ?_
  refine P_getS C (e := 1) fa_X11_alone_12 kd_0 (d := 1) rfl (fxl fx_0) rfl dX11_alone_45 ?_
  refine P_getI C fa_X11_alone_76 kd_1 rfl (fxl fx_1) dX11_alone_48 ?_
  refine P_icmp_ge C dX11_alone_51 (tgt := 109) (by decide +kernel) (fun q1 => ?_) (fun q1 => ?_)
  · have h := h.1 q1
    refine P_iload_n C dX11_alone_109 2 rfl ?_
    exact P_iret C dX11_alone_110 h
  · have h := h.2 q1
    refine P_aload_n C dX11_alone_54 0 rfl ?_
    refine P_getS C (e := 33) fa_X11_alone_21 kd_0 (d := 33) rfl (fxl fx_0) rfl dX11_alone_55 ?_
    refine P_aload_n C dX11_alone_58 0 rfl ?_
    refine P_getS C (e := 1) fa_X11_alone_12 kd_0 (d := 1) rfl (fxl fx_0) rfl dX11_alone_59 ?_
    refine P_cv (R_v (ci := 1) C kv_X11_alone_X1_becomes (As := [.ref 1]) rfl kd_33 rfl (fxl fx_33) (Nat.le_of_ble_eq_true rfl) dX11_alone_62 ⟨Nat.le_refl _, Nat.le_refl _⟩ h) (fun σ2 h => ?_)
    refine P_aload_n C dX11_alone_65 0 rfl ?_
    refine P_getS C (e := 33) fa_X11_alone_21 kd_0 (d := 33) rfl (fxl fx_0) rfl dX11_alone_66 ?_
    refine P_getS C (e := 35) fa_X11_alone_177 kd_33 (d := 2) rfl (fxl fx_33) rfl dX11_alone_69 ?_
    refine P_iconst C dX11_alone_72 (v := (0 : Int32)) rfl ?_
    refine P_iload_n C dX11_alone_73 3 rfl ?_
    obtain ⟨hv3, h⟩ := h
    refine P_iast C kd_35 (fxl fx_35) hv3 dX11_alone_74 ?_
    refine P_nm (fun σ4 eσ4 => ?_)
    have h := h σ4 eσ4
    refine P_aload_n C dX11_alone_75 0 rfl ?_
    refine P_getS C (e := 33) fa_X11_alone_21 kd_0 (d := 33) rfl (fxl fx_0) rfl dX11_alone_76 ?_
    refine P_iconst C dX11_alone_79 (v := (1 : Int32)) rfl ?_
    refine P_putI C pa_X11_alone_250 kd_33 rfl (fxl fx_33) dX11_alone_80 ?_
    refine P_nm (fun σ5 eσ5 => ?_)
    have h := h σ5 eσ5
    refine P_aload_n C dX11_alone_83 0 rfl ?_
    refine P_getS C (e := 33) fa_X11_alone_21 kd_0 (d := 33) rfl (fxl fx_0) rfl dX11_alone_84 ?_
    refine P_iload_n C dX11_alone_87 1 rfl ?_
    refine P_cv (R_v (ci := 1) C kv_X11_alone_X1_goes (As := [.int x1]) rfl kd_33 rfl (fxl fx_33) (Nat.le_of_ble_eq_true rfl) dX11_alone_88 ⟨Nat.le_refl _, Nat.le_refl _⟩ h) (fun σ6 h => ?_)
    refine P_iload_n C dX11_alone_91 2 rfl ?_
    refine P_aload_n C dX11_alone_92 0 rfl ?_
    refine P_getS C (e := 33) fa_X11_alone_21 kd_0 (d := 33) rfl (fxl fx_0) rfl dX11_alone_93 ?_
    refine P_getS C (e := 36) fa_X11_alone_124 kd_33 (d := 3) rfl (fxl fx_33) rfl dX11_alone_96 ?_
    refine P_iload_n C dX11_alone_99 3 rfl ?_
    obtain ⟨hv7, h⟩ := h
    refine P_iald C kd_36 (fxl fx_36) hv7 dX11_alone_100 ?_
    refine P_isub C dX11_alone_101 ?_
    refine P_nmi (fun v8 ev8 => ?_)
    have h := h v8 ev8
    refine P_istore_n C dX11_alone_102 (by rw [hN]; decide) rfl ?_
    obtain ⟨v9, ev9⟩ : ∃ v : Int32, v = x3 + 1 := ⟨_, rfl⟩
    have h := h v9 ev9
    refine P_iinc (v := v9) C dX11_alone_103 3 rfl (by rw [ev9]; rfl) (by rw [hN]; decide) rfl ?_
    refine P_goto C dX11_alone_106 (tgt := 43) (by decide +kernel) ?_
    exact P_sub [2, 3, 1, 0] rfl h
theorem fa_X11_who_12 : FA RX11 wsX11_who 12 11 0 "NineMowers" := by
  show _ ∧ _ ∧ _ ∧ _
  exact ⟨by decide +kernel, fun _ h => List.mem_cons_of_mem _ (List.mem_append_left _ (List.mem_append_left _ (List.mem_append_left _ (List.mem_append_left _ (List.mem_append_left _ (List.mem_append_left _ (List.mem_append_left _ (List.mem_append_left _ (List.mem_append_left _ (List.mem_append_left _ (List.mem_append_right _ h))))))))))), List.mem_of_getElem? (i := 1) rfl, Or.inl rfl⟩
theorem fa_X11_who_76 : FA RX11 wsX11_who 76 1 1 "NineMowers$Course" := by
  show _ ∧ _ ∧ _ ∧ _
  exact ⟨by decide +kernel, fun _ h => List.mem_cons_of_mem _ (List.mem_append_left _ (List.mem_append_left _ (List.mem_append_left _ (List.mem_append_left _ (List.mem_append_left _ (List.mem_append_left _ (List.mem_append_left _ (List.mem_append_left _ (List.mem_append_left _ (List.mem_append_right _ h)))))))))), List.mem_of_getElem? (i := 2) rfl, Or.inl rfl⟩
theorem fa_X11_who_21 : FA RX11 wsX11_who 21 11 2 "NineMowers" := by
  show _ ∧ _ ∧ _ ∧ _
  exact ⟨by decide +kernel, fun _ h => List.mem_cons_of_mem _ (List.mem_append_left _ (List.mem_append_left _ (List.mem_append_left _ (List.mem_append_left _ (List.mem_append_left _ (List.mem_append_left _ (List.mem_append_left _ (List.mem_append_left _ (List.mem_append_left _ (List.mem_append_left _ (List.mem_append_right _ h))))))))))), List.mem_of_getElem? (i := 3) rfl, Or.inl rfl⟩
theorem kv_X11_who_X1_becomes : KV RX11 wsX11_who (rmz 6) 189 RX1 yX1_becomes wsX1_becomes (rmz 1) 1 := ⟨_, _, _, _, gX11_who_X1_becomes, rfl, by decide +kernel, by decide +kernel⟩
theorem fa_X11_who_133 : FA RX11 wsX11_who 133 1 7 "NineMowers$Course" := by
  show _ ∧ _ ∧ _ ∧ _
  exact ⟨by decide +kernel, fun _ h => List.mem_cons_of_mem _ (List.mem_append_left _ (List.mem_append_left _ (List.mem_append_left _ (List.mem_append_left _ (List.mem_append_left _ (List.mem_append_left _ (List.mem_append_left _ (List.mem_append_left _ (List.mem_append_left _ (List.mem_append_right _ h)))))))))), List.mem_of_getElem? (i := 4) rfl, Or.inl rfl⟩
theorem kv_X11_who_X11_allSeenIsSo : KV RX11 wsX11_who (rmz 6) 264 RX11 yX11_allSeenIsSo wsX11_allSeenIsSo (rmz 5) 0 := ⟨_, _, _, _, gX11_who_X11_allSeenIsSo, rfl, by decide +kernel, by decide +kernel⟩
noncomputable def K_X11_who (l : Launch) (V : Vx) (σ : Sg) (Qk : Int32 → Sg → Prop) : Prop := Ka l V yX11_who wsX11_who (rmz 6) 0 0 [.ref 0] σ (QI V Qk)
theorem e_X11_who {l : Launch} {V : Vx} {σ : Sg} {Qk : Int32 → Sg → Prop} (h : ∀ M : Mx, mL M = l → mV M = V → mN M = 3 → Cx M cX11_who (some .int) RX11 wsX11_who (rmz 6) 0 0 (QI (mV M) Qk) → PS M 0 [(0, .ref 0)] [] σ (0, 0)) : K_X11_who l V σ Qk :=
  Ka_of (by decide +kernel) rfl rfl (Nat.le_of_ble_eq_true rfl) (fun M h1 h2 h3 C => h M h1 h2 h3 (by rw [h2]; exact C))
set_option maxRecDepth 100000 in
set_option maxHeartbeats 4000000 in
theorem s_X11_who_0 {M : Mx} {Qk : Int32 → Sg → Prop} (C : Cx M cX11_who (some .int) RX11 wsX11_who (rmz 6) 0 0 (QI (mV M) Qk)) (hN : mN M = 3) {σ : Sg} (h : PS M 4 [(0, .ref 0), (1, .int (0 : Int32)), (2, .int (0 : Int32))] [] σ (0, 0)) : PS M 0 [(0, .ref 0)] [] σ (0, 0) := by
  refine P_iconst C dX11_who_0 (v := (0 : Int32)) rfl ?_
  refine P_istore_n C dX11_who_1 (by rw [hN]; decide) rfl ?_
  refine P_iconst C dX11_who_2 (v := (0 : Int32)) rfl ?_
  refine P_istore_n C dX11_who_3 (by rw [hN]; decide) rfl ?_
  exact P_sub [2, 1, 0] rfl h
set_option maxRecDepth 100000 in
set_option maxHeartbeats 4000000 in
theorem s_X11_who_4 {M : Mx} {Qk : Int32 → Sg → Prop} (C : Cx M cX11_who (some .int) RX11 wsX11_who (rmz 6) 0 0 (QI (mV M) Qk)) (hN : mN M = 3) {x1 : Int32} {x2 : Int32} {σ : Sg} (h : (((gi σ 1 1) ≤ x2 → Qk x1 σ) ∧ (¬ (gi σ 1 1) ≤ x2 → K_X1_becomes (mL M) (mV M) 33 1 σ (fun σ2 => (vp_in x2 6 ∧ (vp_in x2 6 ∧ (∀ σ5 : Sg, σ5 = si σ2 39 x2.toNatClampNeg ((gi σ2 39 x2.toNatClampNeg) + (3 : Int32)) → K_X11_allSeenIsSo (mL M) (mV M) σ5 (fun r7 σ6 => ((r7 = 0 → (∀ v9 : Int32, v9 = x2 + 1 → PS M 4 [(0, .ref 0), (1, .int x1), (2, .int v9)] [] σ6 (0, 0))) ∧ (¬ r7 = 0 → (∀ v10 : Int32, v10 = x1 ||| ((1 : Int32) <<< (x2 &&& 31)) → (∀ v11 : Int32, v11 = x2 + 1 → PS M 4 [(0, .ref 0), (1, .int v10), (2, .int v11)] [] σ6 (0, 0))))))))))))) : PS M 4 [(0, .ref 0), (1, .int x1), (2, .int x2)] [] σ (0, 0) := by
  refine P_iload_n C dX11_who_4 2 rfl ?_
  refine P_aload_n C dX11_who_5 0 rfl ?_
  refine P_getS C (e := 1) fa_X11_who_12 kd_0 (d := 1) rfl (fxl fx_0) rfl dX11_who_6 ?_
  refine P_getI C fa_X11_who_76 kd_1 rfl (fxl fx_1) dX11_who_9 ?_
  refine P_icmp_ge C dX11_who_12 (tgt := 58) (by decide +kernel) (fun q1 => ?_) (fun q1 => ?_)
  · have h := h.1 q1
    refine P_iload_n C dX11_who_58 1 rfl ?_
    exact P_iret C dX11_who_59 h
  · have h := h.2 q1
    refine P_aload_n C dX11_who_15 0 rfl ?_
    refine P_getS C (e := 33) fa_X11_who_21 kd_0 (d := 33) rfl (fxl fx_0) rfl dX11_who_16 ?_
    refine P_aload_n C dX11_who_19 0 rfl ?_
    refine P_getS C (e := 1) fa_X11_who_12 kd_0 (d := 1) rfl (fxl fx_0) rfl dX11_who_20 ?_
    refine P_cv (R_v (ci := 1) C kv_X11_who_X1_becomes (As := [.ref 1]) rfl kd_33 rfl (fxl fx_33) (Nat.le_of_ble_eq_true rfl) dX11_who_23 ⟨Nat.le_refl _, Nat.le_refl _⟩ h) (fun σ2 h => ?_)
    refine P_aload_n C dX11_who_26 0 rfl ?_
    refine P_getS C (e := 33) fa_X11_who_21 kd_0 (d := 33) rfl (fxl fx_0) rfl dX11_who_27 ?_
    refine P_getS C (e := 39) fa_X11_who_133 kd_33 (d := 6) rfl (fxl fx_33) rfl dX11_who_30 ?_
    refine P_iload_n C dX11_who_33 2 rfl ?_
    refine P_dup2 C dX11_who_34 rfl rfl ?_
    obtain ⟨hv3, h⟩ := h
    refine P_iald C kd_39 (fxl fx_39) hv3 dX11_who_35 ?_
    refine P_iconst C dX11_who_36 (v := (3 : Int32)) rfl ?_
    refine P_iadd C dX11_who_37 ?_
    obtain ⟨hv4, h⟩ := h
    refine P_iast C kd_39 (fxl fx_39) hv4 dX11_who_38 ?_
    refine P_nm (fun σ5 eσ5 => ?_)
    have h := h σ5 eσ5
    refine P_aload_n C dX11_who_39 0 rfl ?_
    refine P_ci (R_v (ci := 11) C kv_X11_who_X11_allSeenIsSo (As := []) rfl kd_0 rfl (fxl fx_0) (Nat.le_of_ble_eq_true rfl) dX11_who_40 ⟨Nat.le_refl _, Nat.le_refl _⟩ h) (fun r7 σ6 h => ?_)
    refine P_if_eq C dX11_who_43 (tgt := 52) (by decide +kernel) (fun q8 => ?_) (fun q8 => ?_)
    · have h := h.1 q8
      obtain ⟨v9, ev9⟩ : ∃ v : Int32, v = x2 + 1 := ⟨_, rfl⟩
      have h := h v9 ev9
      refine P_iinc (v := v9) C dX11_who_52 2 rfl (by rw [ev9]; rfl) (by rw [hN]; decide) rfl ?_
      refine P_goto C dX11_who_55 (tgt := 4) (by decide +kernel) ?_
      exact P_sub [1, 2, 0] rfl h
    · have h := h.2 q8
      refine P_iload_n C dX11_who_46 1 rfl ?_
      refine P_iconst C dX11_who_47 (v := (1 : Int32)) rfl ?_
      refine P_iload_n C dX11_who_48 2 rfl ?_
      refine P_ishl C dX11_who_49 ?_
      refine P_ior C dX11_who_50 ?_
      refine P_nmi (fun v10 ev10 => ?_)
      have h := h v10 ev10
      refine P_istore_n C dX11_who_51 (by rw [hN]; decide) rfl ?_
      obtain ⟨v11, ev11⟩ : ∃ v : Int32, v = x2 + 1 := ⟨_, rfl⟩
      have h := h v11 ev11
      refine P_iinc (v := v11) C dX11_who_52 2 rfl (by rw [ev11]; rfl) (by rw [hN]; decide) rfl ?_
      refine P_goto C dX11_who_55 (tgt := 4) (by decide +kernel) ?_
      exact P_sub [2, 1, 0] rfl h
theorem kv_X11_odds_X11_isMower : KV RX11 wsX11_odds (rmz 6) 110 RX11 yX11_isMower wsX11_isMower (rmz 0) 1 := ⟨_, _, _, _, gX11_odds_X11_isMower, rfl, by decide +kernel, by decide +kernel⟩
theorem fa_X11_odds_12 : FA RX11 wsX11_odds 12 11 0 "NineMowers" := by
  show _ ∧ _ ∧ _ ∧ _
  exact ⟨by decide +kernel, fun _ h => List.mem_cons_of_mem _ (List.mem_append_left _ (List.mem_append_left _ (List.mem_append_left _ (List.mem_append_left _ (List.mem_append_left _ (List.mem_append_left _ (List.mem_append_left _ (List.mem_append_left _ (List.mem_append_left _ (List.mem_append_right _ h)))))))))), List.mem_of_getElem? (i := 2) rfl, Or.inl rfl⟩
theorem fa_X11_odds_76 : FA RX11 wsX11_odds 76 1 1 "NineMowers$Course" := by
  show _ ∧ _ ∧ _ ∧ _
  exact ⟨by decide +kernel, fun _ h => List.mem_cons_of_mem _ (List.mem_append_left _ (List.mem_append_left _ (List.mem_append_left _ (List.mem_append_left _ (List.mem_append_left _ (List.mem_append_left _ (List.mem_append_left _ (List.mem_append_left _ (List.mem_append_right _ h))))))))), List.mem_of_getElem? (i := 3) rfl, Or.inl rfl⟩
theorem kf_X11_odds_X11_lowest : KF RX11 wsX11_odds (rmz 6) 275 yX11_lowest wsX11_lowest (rmz 0) 3 := ⟨_, _, _, _, gX11_odds_X11_lowest, rfl, by decide +kernel, by decide +kernel⟩
theorem fa_X11_odds_21 : FA RX11 wsX11_odds 21 11 2 "NineMowers" := by
  show _ ∧ _ ∧ _ ∧ _
  exact ⟨by decide +kernel, fun _ h => List.mem_cons_of_mem _ (List.mem_append_left _ (List.mem_append_left _ (List.mem_append_left _ (List.mem_append_left _ (List.mem_append_left _ (List.mem_append_left _ (List.mem_append_left _ (List.mem_append_left _ (List.mem_append_left _ (List.mem_append_right _ h)))))))))), List.mem_of_getElem? (i := 4) rfl, Or.inl rfl⟩
theorem kv_X11_odds_X1_becomes : KV RX11 wsX11_odds (rmz 6) 189 RX1 yX1_becomes wsX1_becomes (rmz 1) 1 := ⟨_, _, _, _, gX11_odds_X1_becomes, rfl, by decide +kernel, by decide +kernel⟩
theorem fa_X11_odds_133 : FA RX11 wsX11_odds 133 1 7 "NineMowers$Course" := by
  show _ ∧ _ ∧ _ ∧ _
  exact ⟨by decide +kernel, fun _ h => List.mem_cons_of_mem _ (List.mem_append_left _ (List.mem_append_left _ (List.mem_append_left _ (List.mem_append_left _ (List.mem_append_left _ (List.mem_append_left _ (List.mem_append_left _ (List.mem_append_left _ (List.mem_append_right _ h))))))))), List.mem_of_getElem? (i := 5) rfl, Or.inl rfl⟩
theorem kv_X11_odds_X11_heldTimes : KV RX11 wsX11_odds (rmz 6) 193 RX11 yX11_heldTimes wsX11_heldTimes (rmz 5) 2 := ⟨_, _, _, _, gX11_odds_X11_heldTimes, rfl, by decide +kernel, by decide +kernel⟩
noncomputable def K_X11_odds (l : Launch) (V : Vx) (a1 : Int32) (a2 : Int32) (a3 : Int32) (σ : Sg) (Qk : Int64 → Sg → Prop) : Prop := Ka l V yX11_odds wsX11_odds (rmz 6) 0 0 [.ref 0, .int a1, .int a2, .int a3] σ (QL V Qk)
theorem e_X11_odds {l : Launch} {V : Vx} {a1 : Int32} {a2 : Int32} {a3 : Int32} {σ : Sg} {Qk : Int64 → Sg → Prop} (h : ∀ M : Mx, mL M = l → mV M = V → mN M = 6 → Cx M cX11_odds (some .long) RX11 wsX11_odds (rmz 6) 0 0 (QL (mV M) Qk) → PS M 0 [(0, .ref 0), (1, .int a1), (2, .int a2), (3, .int a3)] [] σ (0, 0)) : K_X11_odds l V a1 a2 a3 σ Qk :=
  Ka_of (by decide +kernel) rfl rfl (Nat.le_of_ble_eq_true rfl) (fun M h1 h2 h3 C => h M h1 h2 h3 (by rw [h2]; exact C))
set_option maxRecDepth 100000 in
set_option maxHeartbeats 4000000 in
theorem s_X11_odds_0 {M : Mx} {Qk : Int64 → Sg → Prop} (C : Cx M cX11_odds (some .long) RX11 wsX11_odds (rmz 6) 0 0 (QL (mV M) Qk)) (hN : mN M = 6) {a1 : Int32} {a2 : Int32} {a3 : Int32} {σ : Sg} (h : K_X11_isMower (mL M) (mV M) a1 σ (fun r2 σ1 => ((r2 = 0 → Qk (-9223372036854775808 : Int64) σ1) ∧ (¬ r2 = 0 → ((a2 < (1 : Int32) → Qk (-9223372036854775808 : Int64) σ1) ∧ (¬ a2 < (1 : Int32) → (((60 : Int32) < a2 → Qk (-9223372036854775808 : Int64) σ1) ∧ (¬ (60 : Int32) < a2 → ((a3 = 0 → PS M 38 [(0, .ref 0), (1, .int a1), (2, .int a2), (3, .int a3), (4, .int (0 : Int32)), (5, .int (0 : Int32))] [] σ1 (0, 0)) ∧ (¬ a3 = 0 → ((a3 = (1 : Int32) → PS M 38 [(0, .ref 0), (1, .int a1), (2, .int a2), (3, .int a3), (4, .int (0 : Int32)), (5, .int (0 : Int32))] [] σ1 (0, 0)) ∧ (¬ a3 = (1 : Int32) → Qk (-9223372036854775808 : Int64) σ1)))))))))))) : PS M 0 [(0, .ref 0), (1, .int a1), (2, .int a2), (3, .int a3)] [] σ (0, 0) := by
  refine P_aload_n C dX11_odds_0 0 rfl ?_
  refine P_iload_n C dX11_odds_1 1 rfl ?_
  refine P_ci (R_v (ci := 11) C kv_X11_odds_X11_isMower (As := [.int a1]) rfl kd_0 rfl (fxl fx_0) (Nat.le_of_ble_eq_true rfl) dX11_odds_2 ⟨Nat.le_refl _, Nat.le_refl _⟩ h) (fun r2 σ1 h => ?_)
  refine P_if_eq C dX11_odds_5 (tgt := 28) (by decide +kernel) (fun q3 => ?_) (fun q3 => ?_)
  · have h := h.1 q3
    refine P_ldc2 C (v := (-9223372036854775808 : Int64)) (List.mem_of_getElem? (i := 1) rfl) dX11_odds_28 ?_
    exact P_lret C dX11_odds_31 h
  · have h := h.2 q3
    refine P_iload_n C dX11_odds_8 2 rfl ?_
    refine P_iconst C dX11_odds_9 (v := (1 : Int32)) rfl ?_
    refine P_icmp_lt C dX11_odds_10 (tgt := 28) (by decide +kernel) (fun q4 => ?_) (fun q4 => ?_)
    · have h := h.1 q4
      refine P_ldc2 C (v := (-9223372036854775808 : Int64)) (List.mem_of_getElem? (i := 1) rfl) dX11_odds_28 ?_
      exact P_lret C dX11_odds_31 h
    · have h := h.2 q4
      refine P_iload_n C dX11_odds_13 2 rfl ?_
      refine P_bipush C dX11_odds_14 (v := (60 : Int32)) rfl ?_
      refine P_icmp_gt C dX11_odds_16 (tgt := 28) (by decide +kernel) (fun q5 => ?_) (fun q5 => ?_)
      · have h := h.1 q5
        refine P_ldc2 C (v := (-9223372036854775808 : Int64)) (List.mem_of_getElem? (i := 1) rfl) dX11_odds_28 ?_
        exact P_lret C dX11_odds_31 h
      · have h := h.2 q5
        refine P_iload_n C dX11_odds_19 3 rfl ?_
        refine P_if_eq C dX11_odds_20 (tgt := 32) (by decide +kernel) (fun q6 => ?_) (fun q6 => ?_)
        · have h := h.1 q6
          refine P_iconst C dX11_odds_32 (v := (0 : Int32)) rfl ?_
          refine P_istore C dX11_odds_33 (by rw [hN]; decide) rfl ?_
          refine P_iconst C dX11_odds_35 (v := (0 : Int32)) rfl ?_
          refine P_istore C dX11_odds_36 (by rw [hN]; decide) rfl ?_
          exact P_sub [2, 3, 4, 5, 1, 0] rfl h
        · have h := h.2 q6
          refine P_iload_n C dX11_odds_23 3 rfl ?_
          refine P_iconst C dX11_odds_24 (v := (1 : Int32)) rfl ?_
          refine P_icmp_eq C dX11_odds_25 (tgt := 32) (by decide +kernel) (fun q7 => ?_) (fun q7 => ?_)
          · have h := h.1 q7
            refine P_iconst C dX11_odds_32 (v := (0 : Int32)) rfl ?_
            refine P_istore C dX11_odds_33 (by rw [hN]; decide) rfl ?_
            refine P_iconst C dX11_odds_35 (v := (0 : Int32)) rfl ?_
            refine P_istore C dX11_odds_36 (by rw [hN]; decide) rfl ?_
            exact P_sub [2, 3, 4, 5, 1, 0] rfl h
          · have h := h.2 q7
            refine P_ldc2 C (v := (-9223372036854775808 : Int64)) (List.mem_of_getElem? (i := 1) rfl) dX11_odds_28 ?_
            exact P_lret C dX11_odds_31 h
set_option maxRecDepth 100000 in
set_option maxHeartbeats 4000000 in
theorem s_X11_odds_38 {M : Mx} {Qk : Int64 → Sg → Prop} (C : Cx M cX11_odds (some .long) RX11 wsX11_odds (rmz 6) 0 0 (QL (mV M) Qk)) (hN : mN M = 6) {x1 : Int32} {x2 : Int32} {x3 : Int32} {x4 : Int32} {x5 : Int32} {σ : Sg} (h : (((gi σ 1 1) ≤ x5 → K_X11_lowest (mL M) (mV M) x4 (gi σ 1 1) x3 σ (fun r3 σ2 => Qk r3 σ2)) ∧ (¬ (gi σ 1 1) ≤ x5 → K_X1_becomes (mL M) (mV M) 33 1 σ (fun σ4 => (vp_in x5 6 ∧ (vp_in x5 6 ∧ (∀ σ7 : Sg, σ7 = si σ4 39 x5.toNatClampNeg ((gi σ4 39 x5.toNatClampNeg) + (5 : Int32)) → K_X11_heldTimes (mL M) (mV M) x1 x2 σ7 (fun r9 σ8 => ((r9 ≤ 0 → (∀ v11 : Int32, v11 = x5 + 1 → PS M 38 [(0, .ref 0), (1, .int x1), (2, .int x2), (3, .int x3), (4, .int x4), (5, .int v11)] [] σ8 (0, 0))) ∧ (¬ r9 ≤ 0 → (∀ v12 : Int32, v12 = x4 + 1 → (∀ v13 : Int32, v13 = x5 + 1 → PS M 38 [(0, .ref 0), (1, .int x1), (2, .int x2), (3, .int x3), (4, .int v12), (5, .int v13)] [] σ8 (0, 0))))))))))))) : PS M 38 [(0, .ref 0), (1, .int x1), (2, .int x2), (3, .int x3), (4, .int x4), (5, .int x5)] [] σ (0, 0) := by
  refine P_iload C dX11_odds_38 5 rfl ?_
  refine P_aload_n C dX11_odds_40 0 rfl ?_
  refine P_getS C (e := 1) fa_X11_odds_12 kd_0 (d := 1) rfl (fxl fx_0) rfl dX11_odds_41 ?_
  refine P_getI C fa_X11_odds_76 kd_1 rfl (fxl fx_1) dX11_odds_44 ?_
  refine P_icmp_ge C dX11_odds_47 (tgt := 93) (by decide +kernel) (fun q1 => ?_) (fun q1 => ?_)
  · have h := h.1 q1
    refine P_iload C dX11_odds_93 4 rfl ?_
    refine P_aload_n C dX11_odds_95 0 rfl ?_
    refine P_getS C (e := 1) fa_X11_odds_12 kd_0 (d := 1) rfl (fxl fx_0) rfl dX11_odds_96 ?_
    refine P_getI C fa_X11_odds_76 kd_1 rfl (fxl fx_1) dX11_odds_99 ?_
    refine P_iload_n C dX11_odds_102 3 rfl ?_
    refine P_cl (R_f C kf_X11_odds_X11_lowest (As := [.int x4, .int (gi σ 1 1), .int x3]) rfl (Nat.le_of_ble_eq_true rfl) dX11_odds_103 ⟨Nat.le_refl _, Nat.le_refl _⟩ h) (fun r3 σ2 h => ?_)
    exact P_lret C dX11_odds_106 h
  · have h := h.2 q1
    refine P_aload_n C dX11_odds_50 0 rfl ?_
    refine P_getS C (e := 33) fa_X11_odds_21 kd_0 (d := 33) rfl (fxl fx_0) rfl dX11_odds_51 ?_
    refine P_aload_n C dX11_odds_54 0 rfl ?_
    refine P_getS C (e := 1) fa_X11_odds_12 kd_0 (d := 1) rfl (fxl fx_0) rfl dX11_odds_55 ?_
    refine P_cv (R_v (ci := 1) C kv_X11_odds_X1_becomes (As := [.ref 1]) rfl kd_33 rfl (fxl fx_33) (Nat.le_of_ble_eq_true rfl) dX11_odds_58 ⟨Nat.le_refl _, Nat.le_refl _⟩ h) (fun σ4 h => ?_)
    refine P_aload_n C dX11_odds_61 0 rfl ?_
    refine P_getS C (e := 33) fa_X11_odds_21 kd_0 (d := 33) rfl (fxl fx_0) rfl dX11_odds_62 ?_
    refine P_getS C (e := 39) fa_X11_odds_133 kd_33 (d := 6) rfl (fxl fx_33) rfl dX11_odds_65 ?_
    refine P_iload C dX11_odds_68 5 rfl ?_
    refine P_dup2 C dX11_odds_70 rfl rfl ?_
    obtain ⟨hv5, h⟩ := h
    refine P_iald C kd_39 (fxl fx_39) hv5 dX11_odds_71 ?_
    refine P_iconst C dX11_odds_72 (v := (5 : Int32)) rfl ?_
    refine P_iadd C dX11_odds_73 ?_
    obtain ⟨hv6, h⟩ := h
    refine P_iast C kd_39 (fxl fx_39) hv6 dX11_odds_74 ?_
    refine P_nm (fun σ7 eσ7 => ?_)
    have h := h σ7 eσ7
    refine P_aload_n C dX11_odds_75 0 rfl ?_
    refine P_iload_n C dX11_odds_76 1 rfl ?_
    refine P_iload_n C dX11_odds_77 2 rfl ?_
    refine P_ci (R_v (ci := 11) C kv_X11_odds_X11_heldTimes (As := [.int x1, .int x2]) rfl kd_0 rfl (fxl fx_0) (Nat.le_of_ble_eq_true rfl) dX11_odds_78 ⟨Nat.le_refl _, Nat.le_refl _⟩ h) (fun r9 σ8 h => ?_)
    refine P_if_le C dX11_odds_81 (tgt := 87) (by decide +kernel) (fun q10 => ?_) (fun q10 => ?_)
    · have h := h.1 q10
      obtain ⟨v11, ev11⟩ : ∃ v : Int32, v = x5 + 1 := ⟨_, rfl⟩
      have h := h v11 ev11
      refine P_iinc (v := v11) C dX11_odds_87 5 rfl (by rw [ev11]; rfl) (by rw [hN]; decide) rfl ?_
      refine P_goto C dX11_odds_90 (tgt := 38) (by decide +kernel) ?_
      exact P_sub [1, 2, 3, 4, 5, 0] rfl h
    · have h := h.2 q10
      obtain ⟨v12, ev12⟩ : ∃ v : Int32, v = x4 + 1 := ⟨_, rfl⟩
      have h := h v12 ev12
      refine P_iinc (v := v12) C dX11_odds_84 4 rfl (by rw [ev12]; rfl) (by rw [hN]; decide) rfl ?_
      obtain ⟨v13, ev13⟩ : ∃ v : Int32, v = x5 + 1 := ⟨_, rfl⟩
      have h := h v13 ev13
      refine P_iinc (v := v13) C dX11_odds_87 5 rfl (by rw [ev13]; rfl) (by rw [hN]; decide) rfl ?_
      refine P_goto C dX11_odds_90 (tgt := 38) (by decide +kernel) ?_
      exact P_sub [2, 3, 4, 5, 1, 0] rfl h
theorem fa_X11_mean_12 : FA RX11 wsX11_mean 12 11 0 "NineMowers" := by
  show _ ∧ _ ∧ _ ∧ _
  exact ⟨by decide +kernel, fun _ h => List.mem_cons_of_mem _ (List.mem_append_left _ (List.mem_append_left _ (List.mem_append_left _ (List.mem_append_left _ (List.mem_append_left _ (List.mem_append_left _ (List.mem_append_left _ (List.mem_append_left _ (List.mem_append_left _ (List.mem_append_right _ h)))))))))), List.mem_of_getElem? (i := 1) rfl, Or.inl rfl⟩
theorem fa_X11_mean_76 : FA RX11 wsX11_mean 76 1 1 "NineMowers$Course" := by
  show _ ∧ _ ∧ _ ∧ _
  exact ⟨by decide +kernel, fun _ h => List.mem_cons_of_mem _ (List.mem_append_left _ (List.mem_append_left _ (List.mem_append_left _ (List.mem_append_left _ (List.mem_append_left _ (List.mem_append_left _ (List.mem_append_left _ (List.mem_append_left _ (List.mem_append_right _ h))))))))), List.mem_of_getElem? (i := 2) rfl, Or.inl rfl⟩
theorem fa_X11_mean_21 : FA RX11 wsX11_mean 21 11 2 "NineMowers" := by
  show _ ∧ _ ∧ _ ∧ _
  exact ⟨by decide +kernel, fun _ h => List.mem_cons_of_mem _ (List.mem_append_left _ (List.mem_append_left _ (List.mem_append_left _ (List.mem_append_left _ (List.mem_append_left _ (List.mem_append_left _ (List.mem_append_left _ (List.mem_append_left _ (List.mem_append_left _ (List.mem_append_right _ h)))))))))), List.mem_of_getElem? (i := 4) rfl, Or.inl rfl⟩
theorem kv_X11_mean_X1_becomes : KV RX11 wsX11_mean (rmz 6) 189 RX1 yX1_becomes wsX1_becomes (rmz 1) 1 := ⟨_, _, _, _, gX11_mean_X1_becomes, rfl, by decide +kernel, by decide +kernel⟩
theorem kv_X11_mean_X1_goes : KV RX11 wsX11_mean (rmz 6) 196 RX1 yX1_goes wsX1_goes (rmz 5) 1 := ⟨_, _, _, _, gX11_mean_X1_goes, rfl, by decide +kernel, by decide +kernel⟩
theorem kv_X11_mean_X1_allAt : KV RX11 wsX11_mean (rmz 6) 199 RX1 yX1_allAt wsX1_allAt (rmz 0) 0 := ⟨_, _, _, _, gX11_mean_X1_allAt, rfl, by decide +kernel, by decide +kernel⟩
theorem kf_X11_mean_X11_lowest : KF RX11 wsX11_mean (rmz 6) 275 yX11_lowest wsX11_lowest (rmz 0) 3 := ⟨_, _, _, _, gX11_mean_X11_lowest, rfl, by decide +kernel, by decide +kernel⟩
noncomputable def K_X11_mean (l : Launch) (V : Vx) (a1 : Int32) (a2 : Int32) (σ : Sg) (Qk : Int64 → Sg → Prop) : Prop := Ka l V yX11_mean wsX11_mean (rmz 6) 0 0 [.ref 0, .int a1, .int a2] σ (QL V Qk)
theorem e_X11_mean {l : Launch} {V : Vx} {a1 : Int32} {a2 : Int32} {σ : Sg} {Qk : Int64 → Sg → Prop} (h : ∀ M : Mx, mL M = l → mV M = V → mN M = 3 → Cx M cX11_mean (some .long) RX11 wsX11_mean (rmz 6) 0 0 (QL (mV M) Qk) → PS M 0 [(0, .ref 0), (1, .int a1), (2, .int a2)] [] σ (0, 0)) : K_X11_mean l V a1 a2 σ Qk :=
  Ka_of (by decide +kernel) rfl rfl (Nat.le_of_ble_eq_true rfl) (fun M h1 h2 h3 C => h M h1 h2 h3 (by rw [h2]; exact C))
set_option maxRecDepth 100000 in
set_option maxHeartbeats 4000000 in
theorem s_X11_mean_0 {M : Mx} {Qk : Int64 → Sg → Prop} (C : Cx M cX11_mean (some .long) RX11 wsX11_mean (rmz 6) 0 0 (QL (mV M) Qk)) (hN : mN M = 3) {a1 : Int32} {a2 : Int32} {σ : Sg} (h : (((gi σ 1 1) = 0 → Qk (-9223372036854775808 : Int64) σ) ∧ (¬ (gi σ 1 1) = 0 → ((a1 < (1 : Int32) → Qk (-9223372036854775808 : Int64) σ) ∧ (¬ a1 < (1 : Int32) → (((60 : Int32) < a1 → Qk (-9223372036854775808 : Int64) σ) ∧ (¬ (60 : Int32) < a1 → ((a2 = 0 → PS M 34 [(0, .ref 0), (1, .int a1), (2, .int a2)] [] σ (0, 0)) ∧ (¬ a2 = 0 → ((a2 = (1 : Int32) → PS M 34 [(0, .ref 0), (1, .int a1), (2, .int a2)] [] σ (0, 0)) ∧ (¬ a2 = (1 : Int32) → Qk (-9223372036854775808 : Int64) σ))))))))))) : PS M 0 [(0, .ref 0), (1, .int a1), (2, .int a2)] [] σ (0, 0) := by
  refine P_aload_n C dX11_mean_0 0 rfl ?_
  refine P_getS C (e := 1) fa_X11_mean_12 kd_0 (d := 1) rfl (fxl fx_0) rfl dX11_mean_1 ?_
  refine P_getI C fa_X11_mean_76 kd_1 rfl (fxl fx_1) dX11_mean_4 ?_
  refine P_if_eq C dX11_mean_7 (tgt := 30) (by decide +kernel) (fun q1 => ?_) (fun q1 => ?_)
  · have h := h.1 q1
    refine P_ldc2 C (v := (-9223372036854775808 : Int64)) (List.mem_of_getElem? (i := 3) rfl) dX11_mean_30 ?_
    exact P_lret C dX11_mean_33 h
  · have h := h.2 q1
    refine P_iload_n C dX11_mean_10 1 rfl ?_
    refine P_iconst C dX11_mean_11 (v := (1 : Int32)) rfl ?_
    refine P_icmp_lt C dX11_mean_12 (tgt := 30) (by decide +kernel) (fun q2 => ?_) (fun q2 => ?_)
    · have h := h.1 q2
      refine P_ldc2 C (v := (-9223372036854775808 : Int64)) (List.mem_of_getElem? (i := 3) rfl) dX11_mean_30 ?_
      exact P_lret C dX11_mean_33 h
    · have h := h.2 q2
      refine P_iload_n C dX11_mean_15 1 rfl ?_
      refine P_bipush C dX11_mean_16 (v := (60 : Int32)) rfl ?_
      refine P_icmp_gt C dX11_mean_18 (tgt := 30) (by decide +kernel) (fun q3 => ?_) (fun q3 => ?_)
      · have h := h.1 q3
        refine P_ldc2 C (v := (-9223372036854775808 : Int64)) (List.mem_of_getElem? (i := 3) rfl) dX11_mean_30 ?_
        exact P_lret C dX11_mean_33 h
      · have h := h.2 q3
        refine P_iload_n C dX11_mean_21 2 rfl ?_
        refine P_if_eq C dX11_mean_22 (tgt := 34) (by decide +kernel) (fun q4 => ?_) (fun q4 => ?_)
        · have h := h.1 q4
          exact P_sub [0, 1, 2] rfl h
        · have h := h.2 q4
          refine P_iload_n C dX11_mean_25 2 rfl ?_
          refine P_iconst C dX11_mean_26 (v := (1 : Int32)) rfl ?_
          refine P_icmp_eq C dX11_mean_27 (tgt := 34) (by decide +kernel) (fun q5 => ?_) (fun q5 => ?_)
          · have h := h.1 q5
            exact P_sub [0, 1, 2] rfl h
          · have h := h.2 q5
            refine P_ldc2 C (v := (-9223372036854775808 : Int64)) (List.mem_of_getElem? (i := 3) rfl) dX11_mean_30 ?_
            exact P_lret C dX11_mean_33 h
set_option maxRecDepth 100000 in
set_option maxHeartbeats 4000000 in
theorem s_X11_mean_34 {M : Mx} {Qk : Int64 → Sg → Prop} (C : Cx M cX11_mean (some .long) RX11 wsX11_mean (rmz 6) 0 0 (QL (mV M) Qk)) (hN : mN M = 3) {x1 : Int32} {x2 : Int32} {σ : Sg} (h : K_X1_becomes (mL M) (mV M) 33 1 σ (fun σ1 => K_X1_goes (mL M) (mV M) 33 x1 σ1 (fun σ2 => K_X1_allAt (mL M) (mV M) 33 σ2 (fun r4 σ3 => K_X11_lowest (mL M) (mV M) r4 (gi σ3 1 1) x2 σ3 (fun r6 σ5 => Qk r6 σ5))))) : PS M 34 [(0, .ref 0), (1, .int x1), (2, .int x2)] [] σ (0, 0) := by
  refine P_aload_n C dX11_mean_34 0 rfl ?_
  refine P_getS C (e := 33) fa_X11_mean_21 kd_0 (d := 33) rfl (fxl fx_0) rfl dX11_mean_35 ?_
  refine P_aload_n C dX11_mean_38 0 rfl ?_
  refine P_getS C (e := 1) fa_X11_mean_12 kd_0 (d := 1) rfl (fxl fx_0) rfl dX11_mean_39 ?_
  refine P_cv (R_v (ci := 1) C kv_X11_mean_X1_becomes (As := [.ref 1]) rfl kd_33 rfl (fxl fx_33) (Nat.le_of_ble_eq_true rfl) dX11_mean_42 ⟨Nat.le_refl _, Nat.le_refl _⟩ h) (fun σ1 h => ?_)
  refine P_aload_n C dX11_mean_45 0 rfl ?_
  refine P_getS C (e := 33) fa_X11_mean_21 kd_0 (d := 33) rfl (fxl fx_0) rfl dX11_mean_46 ?_
  refine P_iload_n C dX11_mean_49 1 rfl ?_
  refine P_cv (R_v (ci := 1) C kv_X11_mean_X1_goes (As := [.int x1]) rfl kd_33 rfl (fxl fx_33) (Nat.le_of_ble_eq_true rfl) dX11_mean_50 ⟨Nat.le_refl _, Nat.le_refl _⟩ h) (fun σ2 h => ?_)
  refine P_aload_n C dX11_mean_53 0 rfl ?_
  refine P_getS C (e := 33) fa_X11_mean_21 kd_0 (d := 33) rfl (fxl fx_0) rfl dX11_mean_54 ?_
  refine P_ci (R_v (ci := 1) C kv_X11_mean_X1_allAt (As := []) rfl kd_33 rfl (fxl fx_33) (Nat.le_of_ble_eq_true rfl) dX11_mean_57 ⟨Nat.le_refl _, Nat.le_refl _⟩ h) (fun r4 σ3 h => ?_)
  refine P_aload_n C dX11_mean_60 0 rfl ?_
  refine P_getS C (e := 1) fa_X11_mean_12 kd_0 (d := 1) rfl (fxl fx_0) rfl dX11_mean_61 ?_
  refine P_getI C fa_X11_mean_76 kd_1 rfl (fxl fx_1) dX11_mean_64 ?_
  refine P_iload_n C dX11_mean_67 2 rfl ?_
  refine P_cl (R_f C kf_X11_mean_X11_lowest (As := [.int r4, .int (gi σ3 1 1), .int x2]) rfl (Nat.le_of_ble_eq_true rfl) dX11_mean_68 ⟨Nat.le_refl _, Nat.le_refl _⟩ h) (fun r6 σ5 h => ?_)
  exact P_lret C dX11_mean_71 h
theorem fa_X11_order_12 : FA RX11 wsX11_order 12 11 0 "NineMowers" := by
  show _ ∧ _ ∧ _ ∧ _
  exact ⟨by decide +kernel, fun _ h => List.mem_cons_of_mem _ (List.mem_append_left _ (List.mem_append_left _ (List.mem_append_left _ (List.mem_append_left _ (List.mem_append_left _ (List.mem_append_left _ (List.mem_append_left _ (List.mem_append_left _ (List.mem_append_left _ (List.mem_append_right _ h)))))))))), List.mem_of_getElem? (i := 1) rfl, Or.inl rfl⟩
theorem fa_X11_order_76 : FA RX11 wsX11_order 76 1 1 "NineMowers$Course" := by
  show _ ∧ _ ∧ _ ∧ _
  exact ⟨by decide +kernel, fun _ h => List.mem_cons_of_mem _ (List.mem_append_left _ (List.mem_append_left _ (List.mem_append_left _ (List.mem_append_left _ (List.mem_append_left _ (List.mem_append_left _ (List.mem_append_left _ (List.mem_append_left _ (List.mem_append_right _ h))))))))), List.mem_of_getElem? (i := 2) rfl, Or.inl rfl⟩
theorem kv_X11_order_X11_findsBestOrder : KV RX11 wsX11_order (rmz 7) 206 RX11 yX11_findsBestOrder wsX11_findsBestOrder (rmz 6) 1 := ⟨_, _, _, _, gX11_order_X11_findsBestOrder, rfl, by decide +kernel, by decide +kernel⟩
theorem fa_X11_order_64 : FA RX11 wsX11_order 64 11 11 "NineMowers" := by
  show _ ∧ _ ∧ _ ∧ _
  exact ⟨by decide +kernel, fun _ h => List.mem_cons_of_mem _ (List.mem_append_left _ (List.mem_append_left _ (List.mem_append_left _ (List.mem_append_left _ (List.mem_append_left _ (List.mem_append_left _ (List.mem_append_left _ (List.mem_append_left _ (List.mem_append_left _ (List.mem_append_right _ h)))))))))), List.mem_of_getElem? (i := 3) rfl, Or.inl rfl⟩
noncomputable def K_X11_order (l : Launch) (V : Vx) (a1 : Int32) (a2 : Int32) (σ : Sg) (Qk : Int32 → Sg → Prop) : Prop := Ka l V yX11_order wsX11_order (rmz 7) 0 0 [.ref 0, .int a1, .int a2] σ (QI V Qk)
theorem e_X11_order {l : Launch} {V : Vx} {a1 : Int32} {a2 : Int32} {σ : Sg} {Qk : Int32 → Sg → Prop} (h : ∀ M : Mx, mL M = l → mV M = V → mN M = 4 → Cx M cX11_order (some .int) RX11 wsX11_order (rmz 7) 0 0 (QI (mV M) Qk) → PS M 0 [(0, .ref 0), (1, .int a1), (2, .int a2)] [] σ (0, 0)) : K_X11_order l V a1 a2 σ Qk :=
  Ka_of (by decide +kernel) rfl rfl (Nat.le_of_ble_eq_true rfl) (fun M h1 h2 h3 C => h M h1 h2 h3 (by rw [h2]; exact C))
set_option maxRecDepth 100000 in
set_option maxHeartbeats 4000000 in
theorem s_X11_order_0 {M : Mx} {Qk : Int32 → Sg → Prop} (C : Cx M cX11_order (some .int) RX11 wsX11_order (rmz 7) 0 0 (QI (mV M) Qk)) (hN : mN M = 4) {a1 : Int32} {a2 : Int32} {σ : Sg} (h : ((a2 < (-1 : Int32) → Qk (-1 : Int32) σ) ∧ (¬ a2 < (-1 : Int32) → ((a2 ≤ (4 : Int32) → ((a1 < (1 : Int32) → Qk (-2 : Int32) σ) ∧ (¬ a1 < (1 : Int32) → ((a1 ≤ (12 : Int32) → (((gi σ 1 1) ≤ (5 : Int32) → ((a2 < (gi σ 1 1) → K_X11_findsBestOrder (mL M) (mV M) a1 σ (fun r8 σ7 => ((0 ≤ a2 → (vp_in a2 5 ∧ Qk (gi σ7 67 a2.toNatClampNeg) σ7)) ∧ (¬ 0 ≤ a2 → Qk r8 σ7)))) ∧ (¬ a2 < (gi σ 1 1) → Qk (-5 : Int32) σ))) ∧ (¬ (gi σ 1 1) ≤ (5 : Int32) → Qk (-9 : Int32) σ))) ∧ (¬ a1 ≤ (12 : Int32) → Qk (-2 : Int32) σ))))) ∧ (¬ a2 ≤ (4 : Int32) → Qk (-1 : Int32) σ))))) : PS M 0 [(0, .ref 0), (1, .int a1), (2, .int a2)] [] σ (0, 0) := by
  refine P_iload_n C dX11_order_0 2 rfl ?_
  refine P_iconst C dX11_order_1 (v := (-1 : Int32)) rfl ?_
  refine P_icmp_lt C dX11_order_2 (tgt := 10) (by decide +kernel) (fun q1 => ?_) (fun q1 => ?_)
  · have h := h.1 q1
    refine P_iconst C dX11_order_10 (v := (-1 : Int32)) rfl ?_
    exact P_iret C dX11_order_11 h
  · have h := h.2 q1
    refine P_iload_n C dX11_order_5 2 rfl ?_
    refine P_iconst C dX11_order_6 (v := (4 : Int32)) rfl ?_
    refine P_icmp_le C dX11_order_7 (tgt := 12) (by decide +kernel) (fun q2 => ?_) (fun q2 => ?_)
    · have h := h.1 q2
      refine P_iload_n C dX11_order_12 1 rfl ?_
      refine P_iconst C dX11_order_13 (v := (1 : Int32)) rfl ?_
      refine P_icmp_lt C dX11_order_14 (tgt := 23) (by decide +kernel) (fun q3 => ?_) (fun q3 => ?_)
      · have h := h.1 q3
        refine P_bipush C dX11_order_23 (v := (-2 : Int32)) rfl ?_
        exact P_iret C dX11_order_25 h
      · have h := h.2 q3
        refine P_iload_n C dX11_order_17 1 rfl ?_
        refine P_bipush C dX11_order_18 (v := (12 : Int32)) rfl ?_
        refine P_icmp_le C dX11_order_20 (tgt := 26) (by decide +kernel) (fun q4 => ?_) (fun q4 => ?_)
        · have h := h.1 q4
          refine P_aload_n C dX11_order_26 0 rfl ?_
          refine P_getS C (e := 1) fa_X11_order_12 kd_0 (d := 1) rfl (fxl fx_0) rfl dX11_order_27 ?_
          refine P_getI C fa_X11_order_76 kd_1 rfl (fxl fx_1) dX11_order_30 ?_
          refine P_iconst C dX11_order_33 (v := (5 : Int32)) rfl ?_
          refine P_icmp_le C dX11_order_34 (tgt := 40) (by decide +kernel) (fun q5 => ?_) (fun q5 => ?_)
          · have h := h.1 q5
            refine P_iload_n C dX11_order_40 2 rfl ?_
            refine P_aload_n C dX11_order_41 0 rfl ?_
            refine P_getS C (e := 1) fa_X11_order_12 kd_0 (d := 1) rfl (fxl fx_0) rfl dX11_order_42 ?_
            refine P_getI C fa_X11_order_76 kd_1 rfl (fxl fx_1) dX11_order_45 ?_
            refine P_icmp_lt C dX11_order_48 (tgt := 54) (by decide +kernel) (fun q6 => ?_) (fun q6 => ?_)
            · have h := h.1 q6
              refine P_aload_n C dX11_order_54 0 rfl ?_
              refine P_iload_n C dX11_order_55 1 rfl ?_
              refine P_ci (R_v (ci := 11) C kv_X11_order_X11_findsBestOrder (As := [.int a1]) rfl kd_0 rfl (fxl fx_0) (Nat.le_of_ble_eq_true rfl) dX11_order_56 ⟨Nat.le_refl _, Nat.le_refl _⟩ h) (fun r8 σ7 h => ?_)
              refine P_istore_n C dX11_order_59 (by rw [hN]; decide) rfl ?_
              refine P_iload_n C dX11_order_60 3 rfl ?_
              refine P_if_ge C dX11_order_61 (tgt := 68) (by decide +kernel) (fun q9 => ?_) (fun q9 => ?_)
              · have h := h.1 q9
                refine P_aload_n C dX11_order_68 1 rfl ?_
                refine P_getS C (e := 67) fa_X11_order_64 kd_0 (d := 67) rfl (fxl fx_0) rfl dX11_order_69 ?_
                refine P_iload_n C dX11_order_72 3 rfl ?_
                obtain ⟨hv10, h⟩ := h
                refine P_iald C kd_67 (fxl fx_67) hv10 dX11_order_73 ?_
                exact P_iret C dX11_order_74 h
              · have h := h.2 q9
                refine P_iload_n C dX11_order_64 0 rfl ?_
                refine P_goto C dX11_order_65 (tgt := 74) (by decide +kernel) ?_
                exact P_iret C dX11_order_74 h
            · have h := h.2 q6
              refine P_bipush C dX11_order_51 (v := (-5 : Int32)) rfl ?_
              exact P_iret C dX11_order_53 h
          · have h := h.2 q5
            refine P_bipush C dX11_order_37 (v := (-9 : Int32)) rfl ?_
            exact P_iret C dX11_order_39 h
        · have h := h.2 q4
          refine P_bipush C dX11_order_23 (v := (-2 : Int32)) rfl ?_
          exact P_iret C dX11_order_25 h
    · have h := h.2 q2
      refine P_iconst C dX11_order_10 (v := (-1 : Int32)) rfl ?_
      exact P_iret C dX11_order_11 h
theorem kv_X11_whets_X11_mostBy : KV RX11 wsX11_whets (rmz 7) 230 RX11 yX11_mostBy wsX11_mostBy (rmz 6) 5 := ⟨_, _, _, _, gX11_whets_X11_mostBy, rfl, by decide +kernel, by decide +kernel⟩
noncomputable def K_X11_whets (l : Launch) (V : Vx) (a1 : Int32) (a2 : Int32) (σ : Sg) (Qk : Int32 → Sg → Prop) : Prop := Ka l V yX11_whets wsX11_whets (rmz 7) 0 0 [.ref 0, .int a1, .int a2] σ (QI V Qk)
theorem e_X11_whets {l : Launch} {V : Vx} {a1 : Int32} {a2 : Int32} {σ : Sg} {Qk : Int32 → Sg → Prop} (h : ∀ M : Mx, mL M = l → mV M = V → mN M = 3 → Cx M cX11_whets (some .int) RX11 wsX11_whets (rmz 7) 0 0 (QI (mV M) Qk) → PS M 0 [(0, .ref 0), (1, .int a1), (2, .int a2)] [] σ (0, 0)) : K_X11_whets l V a1 a2 σ Qk :=
  Ka_of (by decide +kernel) rfl rfl (Nat.le_of_ble_eq_true rfl) (fun M h1 h2 h3 C => h M h1 h2 h3 (by rw [h2]; exact C))
set_option maxRecDepth 100000 in
set_option maxHeartbeats 4000000 in
theorem s_X11_whets_0 {M : Mx} {Qk : Int32 → Sg → Prop} (C : Cx M cX11_whets (some .int) RX11 wsX11_whets (rmz 7) 0 0 (QI (mV M) Qk)) (hN : mN M = 3) {a1 : Int32} {a2 : Int32} {σ : Sg} (h : ((a2 = 0 → PS M 11 [(0, .ref 0), (1, .int a1), (2, .int a2)] [] σ (0, 0)) ∧ (¬ a2 = 0 → ((a2 = (1 : Int32) → PS M 11 [(0, .ref 0), (1, .int a1), (2, .int a2)] [] σ (0, 0)) ∧ (¬ a2 = (1 : Int32) → Qk (-1 : Int32) σ))))) : PS M 0 [(0, .ref 0), (1, .int a1), (2, .int a2)] [] σ (0, 0) := by
  refine P_iload_n C dX11_whets_0 2 rfl ?_
  refine P_if_eq C dX11_whets_1 (tgt := 11) (by decide +kernel) (fun q1 => ?_) (fun q1 => ?_)
  · have h := h.1 q1
    exact P_sub [0, 1, 2] rfl h
  · have h := h.2 q1
    refine P_iload_n C dX11_whets_4 2 rfl ?_
    refine P_iconst C dX11_whets_5 (v := (1 : Int32)) rfl ?_
    refine P_icmp_eq C dX11_whets_6 (tgt := 11) (by decide +kernel) (fun q2 => ?_) (fun q2 => ?_)
    · have h := h.1 q2
      exact P_sub [0, 1, 2] rfl h
    · have h := h.2 q2
      refine P_iconst C dX11_whets_9 (v := (-1 : Int32)) rfl ?_
      exact P_iret C dX11_whets_10 h
set_option maxRecDepth 100000 in
set_option maxHeartbeats 4000000 in
theorem s_X11_whets_11 {M : Mx} {Qk : Int32 → Sg → Prop} (C : Cx M cX11_whets (some .int) RX11 wsX11_whets (rmz 7) 0 0 (QI (mV M) Qk)) (hN : mN M = 3) {x1 : Int32} {x2 : Int32} {σ : Sg} (h : ((x1 < (1 : Int32) → Qk (-2 : Int32) σ) ∧ (¬ x1 < (1 : Int32) → ((x1 ≤ (60 : Int32) → K_X11_mostBy (mL M) (mV M) (0 : Int32) x1 (1 : Int32) (16 : Int32) x2 σ (fun r4 σ3 => Qk r4 σ3)) ∧ (¬ x1 ≤ (60 : Int32) → Qk (-2 : Int32) σ))))) : PS M 11 [(0, .ref 0), (1, .int x1), (2, .int x2)] [] σ (0, 0) := by
  refine P_iload_n C dX11_whets_11 1 rfl ?_
  refine P_iconst C dX11_whets_12 (v := (1 : Int32)) rfl ?_
  refine P_icmp_lt C dX11_whets_13 (tgt := 22) (by decide +kernel) (fun q1 => ?_) (fun q1 => ?_)
  · have h := h.1 q1
    refine P_bipush C dX11_whets_22 (v := (-2 : Int32)) rfl ?_
    refine P_goto C dX11_whets_24 (tgt := 37) (by decide +kernel) ?_
    exact P_iret C dX11_whets_37 h
  · have h := h.2 q1
    refine P_iload_n C dX11_whets_16 1 rfl ?_
    refine P_bipush C dX11_whets_17 (v := (60 : Int32)) rfl ?_
    refine P_icmp_le C dX11_whets_19 (tgt := 27) (by decide +kernel) (fun q2 => ?_) (fun q2 => ?_)
    · have h := h.1 q2
      refine P_aload_n C dX11_whets_27 0 rfl ?_
      refine P_iconst C dX11_whets_28 (v := (0 : Int32)) rfl ?_
      refine P_iload_n C dX11_whets_29 1 rfl ?_
      refine P_iconst C dX11_whets_30 (v := (1 : Int32)) rfl ?_
      refine P_bipush C dX11_whets_31 (v := (16 : Int32)) rfl ?_
      refine P_iload_n C dX11_whets_33 2 rfl ?_
      refine P_ci (R_v (ci := 11) C kv_X11_whets_X11_mostBy (As := [.int (0 : Int32), .int x1, .int (1 : Int32), .int (16 : Int32), .int x2]) rfl kd_0 rfl (fxl fx_0) (Nat.le_of_ble_eq_true rfl) dX11_whets_34 ⟨Nat.le_refl _, Nat.le_refl _⟩ h) (fun r4 σ3 h => ?_)
      exact P_iret C dX11_whets_37 h
    · have h := h.2 q2
      refine P_bipush C dX11_whets_22 (v := (-2 : Int32)) rfl ?_
      refine P_goto C dX11_whets_24 (tgt := 37) (by decide +kernel) ?_
      exact P_iret C dX11_whets_37 h
theorem kv_X11_apart_X11_mostBy : KV RX11 wsX11_apart (rmz 7) 230 RX11 yX11_mostBy wsX11_mostBy (rmz 6) 5 := ⟨_, _, _, _, gX11_apart_X11_mostBy, rfl, by decide +kernel, by decide +kernel⟩
noncomputable def K_X11_apart (l : Launch) (V : Vx) (a1 : Int32) (a2 : Int32) (σ : Sg) (Qk : Int32 → Sg → Prop) : Prop := Ka l V yX11_apart wsX11_apart (rmz 7) 0 0 [.ref 0, .int a1, .int a2] σ (QI V Qk)
theorem e_X11_apart {l : Launch} {V : Vx} {a1 : Int32} {a2 : Int32} {σ : Sg} {Qk : Int32 → Sg → Prop} (h : ∀ M : Mx, mL M = l → mV M = V → mN M = 3 → Cx M cX11_apart (some .int) RX11 wsX11_apart (rmz 7) 0 0 (QI (mV M) Qk) → PS M 0 [(0, .ref 0), (1, .int a1), (2, .int a2)] [] σ (0, 0)) : K_X11_apart l V a1 a2 σ Qk :=
  Ka_of (by decide +kernel) rfl rfl (Nat.le_of_ble_eq_true rfl) (fun M h1 h2 h3 C => h M h1 h2 h3 (by rw [h2]; exact C))
set_option maxRecDepth 100000 in
set_option maxHeartbeats 4000000 in
theorem s_X11_apart_0 {M : Mx} {Qk : Int32 → Sg → Prop} (C : Cx M cX11_apart (some .int) RX11 wsX11_apart (rmz 7) 0 0 (QI (mV M) Qk)) (hN : mN M = 3) {a1 : Int32} {a2 : Int32} {σ : Sg} (h : ((a2 = 0 → PS M 11 [(0, .ref 0), (1, .int a1), (2, .int a2)] [] σ (0, 0)) ∧ (¬ a2 = 0 → ((a2 = (1 : Int32) → PS M 11 [(0, .ref 0), (1, .int a1), (2, .int a2)] [] σ (0, 0)) ∧ (¬ a2 = (1 : Int32) → Qk (-1 : Int32) σ))))) : PS M 0 [(0, .ref 0), (1, .int a1), (2, .int a2)] [] σ (0, 0) := by
  refine P_iload_n C dX11_apart_0 2 rfl ?_
  refine P_if_eq C dX11_apart_1 (tgt := 11) (by decide +kernel) (fun q1 => ?_) (fun q1 => ?_)
  · have h := h.1 q1
    exact P_sub [0, 1, 2] rfl h
  · have h := h.2 q1
    refine P_iload_n C dX11_apart_4 2 rfl ?_
    refine P_iconst C dX11_apart_5 (v := (1 : Int32)) rfl ?_
    refine P_icmp_eq C dX11_apart_6 (tgt := 11) (by decide +kernel) (fun q2 => ?_) (fun q2 => ?_)
    · have h := h.1 q2
      exact P_sub [0, 1, 2] rfl h
    · have h := h.2 q2
      refine P_iconst C dX11_apart_9 (v := (-1 : Int32)) rfl ?_
      exact P_iret C dX11_apart_10 h
set_option maxRecDepth 100000 in
set_option maxHeartbeats 4000000 in
theorem s_X11_apart_11 {M : Mx} {Qk : Int32 → Sg → Prop} (C : Cx M cX11_apart (some .int) RX11 wsX11_apart (rmz 7) 0 0 (QI (mV M) Qk)) (hN : mN M = 3) {x1 : Int32} {x2 : Int32} {σ : Sg} (h : ((x1 < (1 : Int32) → Qk (-2 : Int32) σ) ∧ (¬ x1 < (1 : Int32) → ((x1 ≤ (60 : Int32) → K_X11_mostBy (mL M) (mV M) (1 : Int32) x1 (0 : Int32) (9 : Int32) x2 σ (fun r4 σ3 => Qk r4 σ3)) ∧ (¬ x1 ≤ (60 : Int32) → Qk (-2 : Int32) σ))))) : PS M 11 [(0, .ref 0), (1, .int x1), (2, .int x2)] [] σ (0, 0) := by
  refine P_iload_n C dX11_apart_11 1 rfl ?_
  refine P_iconst C dX11_apart_12 (v := (1 : Int32)) rfl ?_
  refine P_icmp_lt C dX11_apart_13 (tgt := 22) (by decide +kernel) (fun q1 => ?_) (fun q1 => ?_)
  · have h := h.1 q1
    refine P_bipush C dX11_apart_22 (v := (-2 : Int32)) rfl ?_
    refine P_goto C dX11_apart_24 (tgt := 37) (by decide +kernel) ?_
    exact P_iret C dX11_apart_37 h
  · have h := h.2 q1
    refine P_iload_n C dX11_apart_16 1 rfl ?_
    refine P_bipush C dX11_apart_17 (v := (60 : Int32)) rfl ?_
    refine P_icmp_le C dX11_apart_19 (tgt := 27) (by decide +kernel) (fun q2 => ?_) (fun q2 => ?_)
    · have h := h.1 q2
      refine P_aload_n C dX11_apart_27 0 rfl ?_
      refine P_iconst C dX11_apart_28 (v := (1 : Int32)) rfl ?_
      refine P_iload_n C dX11_apart_29 1 rfl ?_
      refine P_iconst C dX11_apart_30 (v := (0 : Int32)) rfl ?_
      refine P_bipush C dX11_apart_31 (v := (9 : Int32)) rfl ?_
      refine P_iload_n C dX11_apart_33 2 rfl ?_
      refine P_ci (R_v (ci := 11) C kv_X11_apart_X11_mostBy (As := [.int (1 : Int32), .int x1, .int (0 : Int32), .int (9 : Int32), .int x2]) rfl kd_0 rfl (fxl fx_0) (Nat.le_of_ble_eq_true rfl) dX11_apart_34 ⟨Nat.le_refl _, Nat.le_refl _⟩ h) (fun r4 σ3 h => ?_)
      exact P_iret C dX11_apart_37 h
    · have h := h.2 q2
      refine P_bipush C dX11_apart_22 (v := (-2 : Int32)) rfl ?_
      refine P_goto C dX11_apart_24 (tgt := 37) (by decide +kernel) ?_
      exact P_iret C dX11_apart_37 h
theorem fa_X11_rest_12 : FA RX11 wsX11_rest 12 11 0 "NineMowers" := by
  show _ ∧ _ ∧ _ ∧ _
  exact ⟨by decide +kernel, fun _ h => List.mem_cons_of_mem _ (List.mem_append_left _ (List.mem_append_left _ (List.mem_append_left _ (List.mem_append_left _ (List.mem_append_left _ (List.mem_append_left _ (List.mem_append_left _ (List.mem_append_left _ (List.mem_append_left _ (List.mem_append_right _ h)))))))))), List.mem_of_getElem? (i := 1) rfl, Or.inl rfl⟩
theorem fa_X11_rest_76 : FA RX11 wsX11_rest 76 1 1 "NineMowers$Course" := by
  show _ ∧ _ ∧ _ ∧ _
  exact ⟨by decide +kernel, fun _ h => List.mem_cons_of_mem _ (List.mem_append_left _ (List.mem_append_left _ (List.mem_append_left _ (List.mem_append_left _ (List.mem_append_left _ (List.mem_append_left _ (List.mem_append_left _ (List.mem_append_left _ (List.mem_append_right _ h))))))))), List.mem_of_getElem? (i := 2) rfl, Or.inl rfl⟩
theorem kv_X11_rest_X11_mostBy : KV RX11 wsX11_rest (rmz 7) 230 RX11 yX11_mostBy wsX11_mostBy (rmz 6) 5 := ⟨_, _, _, _, gX11_rest_X11_mostBy, rfl, by decide +kernel, by decide +kernel⟩
theorem kv_X11_rest_X11_totalBy : KV RX11 wsX11_rest (rmz 7) 234 RX11 yX11_totalBy wsX11_totalBy (rmz 5) 3 := ⟨_, _, _, _, gX11_rest_X11_totalBy, rfl, by decide +kernel, by decide +kernel⟩
noncomputable def K_X11_rest (l : Launch) (V : Vx) (a1 : Int32) (a2 : Int32) (σ : Sg) (Qk : Int32 → Sg → Prop) : Prop := Ka l V yX11_rest wsX11_rest (rmz 7) 0 0 [.ref 0, .int a1, .int a2] σ (QI V Qk)
theorem e_X11_rest {l : Launch} {V : Vx} {a1 : Int32} {a2 : Int32} {σ : Sg} {Qk : Int32 → Sg → Prop} (h : ∀ M : Mx, mL M = l → mV M = V → mN M = 4 → Cx M cX11_rest (some .int) RX11 wsX11_rest (rmz 7) 0 0 (QI (mV M) Qk) → PS M 0 [(0, .ref 0), (1, .int a1), (2, .int a2)] [] σ (0, 0)) : K_X11_rest l V a1 a2 σ Qk :=
  Ka_of (by decide +kernel) rfl rfl (Nat.le_of_ble_eq_true rfl) (fun M h1 h2 h3 C => h M h1 h2 h3 (by rw [h2]; exact C))
set_option maxRecDepth 100000 in
set_option maxHeartbeats 4000000 in
theorem s_X11_rest_0 {M : Mx} {Qk : Int32 → Sg → Prop} (C : Cx M cX11_rest (some .int) RX11 wsX11_rest (rmz 7) 0 0 (QI (mV M) Qk)) (hN : mN M = 4) {a1 : Int32} {a2 : Int32} {σ : Sg} (h : ((a2 = 0 → PS M 11 [(0, .ref 0), (1, .int a1), (2, .int a2)] [] σ (0, 0)) ∧ (¬ a2 = 0 → ((a2 = (1 : Int32) → PS M 11 [(0, .ref 0), (1, .int a1), (2, .int a2)] [] σ (0, 0)) ∧ (¬ a2 = (1 : Int32) → Qk (-1 : Int32) σ))))) : PS M 0 [(0, .ref 0), (1, .int a1), (2, .int a2)] [] σ (0, 0) := by
  refine P_iload_n C dX11_rest_0 2 rfl ?_
  refine P_if_eq C dX11_rest_1 (tgt := 11) (by decide +kernel) (fun q1 => ?_) (fun q1 => ?_)
  · have h := h.1 q1
    exact P_sub [0, 1, 2] rfl h
  · have h := h.2 q1
    refine P_iload_n C dX11_rest_4 2 rfl ?_
    refine P_iconst C dX11_rest_5 (v := (1 : Int32)) rfl ?_
    refine P_icmp_eq C dX11_rest_6 (tgt := 11) (by decide +kernel) (fun q2 => ?_) (fun q2 => ?_)
    · have h := h.1 q2
      exact P_sub [0, 1, 2] rfl h
    · have h := h.2 q2
      refine P_iconst C dX11_rest_9 (v := (-1 : Int32)) rfl ?_
      exact P_iret C dX11_rest_10 h
set_option maxRecDepth 100000 in
set_option maxHeartbeats 4000000 in
theorem s_X11_rest_11 {M : Mx} {Qk : Int32 → Sg → Prop} (C : Cx M cX11_rest (some .int) RX11 wsX11_rest (rmz 7) 0 0 (QI (mV M) Qk)) (hN : mN M = 4) {x1 : Int32} {x2 : Int32} {σ : Sg} (h : ((x1 < (1 : Int32) → Qk (-2 : Int32) σ) ∧ (¬ x1 < (1 : Int32) → ((x1 ≤ (60 : Int32) → K_X11_mostBy (mL M) (mV M) (2 : Int32) x1 (-1 : Int32) ((gi σ 1 1) - (1 : Int32)) (0 : Int32) σ (fun r4 σ3 => ((0 ≤ r4 → ((¬ x2 = 0 → K_X11_totalBy (mL M) (mV M) (2 : Int32) x1 r4 σ3 (fun r8 σ7 => Qk r8 σ7)) ∧ (x2 = 0 → Qk r4 σ3))) ∧ (¬ 0 ≤ r4 → Qk (-5 : Int32) σ3)))) ∧ (¬ x1 ≤ (60 : Int32) → Qk (-2 : Int32) σ))))) : PS M 11 [(0, .ref 0), (1, .int x1), (2, .int x2)] [] σ (0, 0) := by
  refine P_iload_n C dX11_rest_11 1 rfl ?_
  refine P_iconst C dX11_rest_12 (v := (1 : Int32)) rfl ?_
  refine P_icmp_lt C dX11_rest_13 (tgt := 22) (by decide +kernel) (fun q1 => ?_) (fun q1 => ?_)
  · have h := h.1 q1
    refine P_bipush C dX11_rest_22 (v := (-2 : Int32)) rfl ?_
    exact P_iret C dX11_rest_24 h
  · have h := h.2 q1
    refine P_iload_n C dX11_rest_16 1 rfl ?_
    refine P_bipush C dX11_rest_17 (v := (60 : Int32)) rfl ?_
    refine P_icmp_le C dX11_rest_19 (tgt := 25) (by decide +kernel) (fun q2 => ?_) (fun q2 => ?_)
    · have h := h.1 q2
      refine P_aload_n C dX11_rest_25 0 rfl ?_
      refine P_iconst C dX11_rest_26 (v := (2 : Int32)) rfl ?_
      refine P_iload_n C dX11_rest_27 1 rfl ?_
      refine P_iconst C dX11_rest_28 (v := (-1 : Int32)) rfl ?_
      refine P_aload_n C dX11_rest_29 0 rfl ?_
      refine P_getS C (e := 1) fa_X11_rest_12 kd_0 (d := 1) rfl (fxl fx_0) rfl dX11_rest_30 ?_
      refine P_getI C fa_X11_rest_76 kd_1 rfl (fxl fx_1) dX11_rest_33 ?_
      refine P_iconst C dX11_rest_36 (v := (1 : Int32)) rfl ?_
      refine P_isub C dX11_rest_37 ?_
      refine P_iconst C dX11_rest_38 (v := (0 : Int32)) rfl ?_
      refine P_ci (R_v (ci := 11) C kv_X11_rest_X11_mostBy (As := [.int (2 : Int32), .int x1, .int (-1 : Int32), .int ((gi σ 1 1) - (1 : Int32)), .int (0 : Int32)]) rfl kd_0 rfl (fxl fx_0) (Nat.le_of_ble_eq_true rfl) dX11_rest_39 ⟨Nat.le_refl _, Nat.le_refl _⟩ h) (fun r4 σ3 h => ?_)
      refine P_istore_n C dX11_rest_42 (by rw [hN]; decide) rfl ?_
      refine P_iload_n C dX11_rest_43 0 rfl ?_
      refine P_if_ge C dX11_rest_44 (tgt := 50) (by decide +kernel) (fun q5 => ?_) (fun q5 => ?_)
      · have h := h.1 q5
        refine P_iload_n C dX11_rest_50 3 rfl ?_
        refine P_if_ne C dX11_rest_51 (tgt := 58) (by decide +kernel) (fun q6 => ?_) (fun q6 => ?_)
        · have h := h.1 q6
          refine P_aload_n C dX11_rest_58 1 rfl ?_
          refine P_iconst C dX11_rest_59 (v := (2 : Int32)) rfl ?_
          refine P_iload_n C dX11_rest_60 2 rfl ?_
          refine P_iload_n C dX11_rest_61 0 rfl ?_
          refine P_ci (R_v (ci := 11) C kv_X11_rest_X11_totalBy (As := [.int (2 : Int32), .int x1, .int r4]) rfl kd_0 rfl (fxl fx_0) (Nat.le_of_ble_eq_true rfl) dX11_rest_62 ⟨Nat.le_refl _, Nat.le_refl _⟩ h) (fun r8 σ7 h => ?_)
          exact P_iret C dX11_rest_65 h
        · have h := h.2 q6
          refine P_iload_n C dX11_rest_54 0 rfl ?_
          refine P_goto C dX11_rest_55 (tgt := 65) (by decide +kernel) ?_
          exact P_iret C dX11_rest_65 h
      · have h := h.2 q5
        refine P_bipush C dX11_rest_47 (v := (-5 : Int32)) rfl ?_
        exact P_iret C dX11_rest_49 h
    · have h := h.2 q2
      refine P_bipush C dX11_rest_22 (v := (-2 : Int32)) rfl ?_
      exact P_iret C dX11_rest_24 h
theorem kv_X11_paused_X11_mostBy : KV RX11 wsX11_paused (rmz 7) 230 RX11 yX11_mostBy wsX11_mostBy (rmz 6) 5 := ⟨_, _, _, _, gX11_paused_X11_mostBy, rfl, by decide +kernel, by decide +kernel⟩
noncomputable def K_X11_paused (l : Launch) (V : Vx) (a1 : Int32) (a2 : Int32) (σ : Sg) (Qk : Int32 → Sg → Prop) : Prop := Ka l V yX11_paused wsX11_paused (rmz 7) 0 0 [.ref 0, .int a1, .int a2] σ (QI V Qk)
theorem e_X11_paused {l : Launch} {V : Vx} {a1 : Int32} {a2 : Int32} {σ : Sg} {Qk : Int32 → Sg → Prop} (h : ∀ M : Mx, mL M = l → mV M = V → mN M = 3 → Cx M cX11_paused (some .int) RX11 wsX11_paused (rmz 7) 0 0 (QI (mV M) Qk) → PS M 0 [(0, .ref 0), (1, .int a1), (2, .int a2)] [] σ (0, 0)) : K_X11_paused l V a1 a2 σ Qk :=
  Ka_of (by decide +kernel) rfl rfl (Nat.le_of_ble_eq_true rfl) (fun M h1 h2 h3 C => h M h1 h2 h3 (by rw [h2]; exact C))
set_option maxRecDepth 100000 in
set_option maxHeartbeats 4000000 in
theorem s_X11_paused_0 {M : Mx} {Qk : Int32 → Sg → Prop} (C : Cx M cX11_paused (some .int) RX11 wsX11_paused (rmz 7) 0 0 (QI (mV M) Qk)) (hN : mN M = 3) {a1 : Int32} {a2 : Int32} {σ : Sg} (h : ((a2 = 0 → PS M 11 [(0, .ref 0), (1, .int a1), (2, .int a2)] [] σ (0, 0)) ∧ (¬ a2 = 0 → ((a2 = (1 : Int32) → PS M 11 [(0, .ref 0), (1, .int a1), (2, .int a2)] [] σ (0, 0)) ∧ (¬ a2 = (1 : Int32) → Qk (-1 : Int32) σ))))) : PS M 0 [(0, .ref 0), (1, .int a1), (2, .int a2)] [] σ (0, 0) := by
  refine P_iload_n C dX11_paused_0 2 rfl ?_
  refine P_if_eq C dX11_paused_1 (tgt := 11) (by decide +kernel) (fun q1 => ?_) (fun q1 => ?_)
  · have h := h.1 q1
    exact P_sub [0, 1, 2] rfl h
  · have h := h.2 q1
    refine P_iload_n C dX11_paused_4 2 rfl ?_
    refine P_iconst C dX11_paused_5 (v := (1 : Int32)) rfl ?_
    refine P_icmp_eq C dX11_paused_6 (tgt := 11) (by decide +kernel) (fun q2 => ?_) (fun q2 => ?_)
    · have h := h.1 q2
      exact P_sub [0, 1, 2] rfl h
    · have h := h.2 q2
      refine P_iconst C dX11_paused_9 (v := (-1 : Int32)) rfl ?_
      exact P_iret C dX11_paused_10 h
set_option maxRecDepth 100000 in
set_option maxHeartbeats 4000000 in
theorem s_X11_paused_11 {M : Mx} {Qk : Int32 → Sg → Prop} (C : Cx M cX11_paused (some .int) RX11 wsX11_paused (rmz 7) 0 0 (QI (mV M) Qk)) (hN : mN M = 3) {x1 : Int32} {x2 : Int32} {σ : Sg} (h : ((x1 < (1 : Int32) → Qk (-2 : Int32) σ) ∧ (¬ x1 < (1 : Int32) → ((x1 ≤ (30 : Int32) → K_X11_mostBy (mL M) (mV M) (3 : Int32) x1 (0 : Int32) x1 x2 σ (fun r4 σ3 => Qk r4 σ3)) ∧ (¬ x1 ≤ (30 : Int32) → Qk (-2 : Int32) σ))))) : PS M 11 [(0, .ref 0), (1, .int x1), (2, .int x2)] [] σ (0, 0) := by
  refine P_iload_n C dX11_paused_11 1 rfl ?_
  refine P_iconst C dX11_paused_12 (v := (1 : Int32)) rfl ?_
  refine P_icmp_lt C dX11_paused_13 (tgt := 22) (by decide +kernel) (fun q1 => ?_) (fun q1 => ?_)
  · have h := h.1 q1
    refine P_bipush C dX11_paused_22 (v := (-2 : Int32)) rfl ?_
    refine P_goto C dX11_paused_24 (tgt := 36) (by decide +kernel) ?_
    exact P_iret C dX11_paused_36 h
  · have h := h.2 q1
    refine P_iload_n C dX11_paused_16 1 rfl ?_
    refine P_bipush C dX11_paused_17 (v := (30 : Int32)) rfl ?_
    refine P_icmp_le C dX11_paused_19 (tgt := 27) (by decide +kernel) (fun q2 => ?_) (fun q2 => ?_)
    · have h := h.1 q2
      refine P_aload_n C dX11_paused_27 0 rfl ?_
      refine P_iconst C dX11_paused_28 (v := (3 : Int32)) rfl ?_
      refine P_iload_n C dX11_paused_29 1 rfl ?_
      refine P_iconst C dX11_paused_30 (v := (0 : Int32)) rfl ?_
      refine P_iload_n C dX11_paused_31 1 rfl ?_
      refine P_iload_n C dX11_paused_32 2 rfl ?_
      refine P_ci (R_v (ci := 11) C kv_X11_paused_X11_mostBy (As := [.int (3 : Int32), .int x1, .int (0 : Int32), .int x1, .int x2]) rfl kd_0 rfl (fxl fx_0) (Nat.le_of_ble_eq_true rfl) dX11_paused_33 ⟨Nat.le_refl _, Nat.le_refl _⟩ h) (fun r4 σ3 h => ?_)
      exact P_iret C dX11_paused_36 h
    · have h := h.2 q2
      refine P_bipush C dX11_paused_22 (v := (-2 : Int32)) rfl ?_
      refine P_goto C dX11_paused_24 (tgt := 36) (by decide +kernel) ?_
      exact P_iret C dX11_paused_36 h
