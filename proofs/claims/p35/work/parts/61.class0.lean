theorem fa_X5_isFull_7 : FA RX5 wsX5_isFull 7 5 1 "NineMowers$Numbers" := by
  show _ ∧ _ ∧ _ ∧ _
  exact ⟨by decide, fun _ h => List.mem_cons_of_mem _ (List.mem_append_right _ h), List.mem_of_getElem? (i := 1) rfl, Or.inl rfl⟩
theorem fa_X5_isFull_13 : FA RX5 wsX5_isFull 13 5 0 "NineMowers$Numbers" := by
  show _ ∧ _ ∧ _ ∧ _
  exact ⟨by decide, fun _ h => List.mem_cons_of_mem _ (List.mem_append_right _ h), List.mem_of_getElem? (i := 2) rfl, Or.inl rfl⟩
noncomputable def K_X5_isFull (l : Launch) (V : Vx) (c0 : Nat) (σ : Sg) (Qk : Int32 → Sg → Prop) : Prop := Ka l V yX5_isFull wsX5_isFull (rmz 0) 0 0 [.ref c0] σ (QI V Qk)
theorem e_X5_isFull {l : Launch} {V : Vx} {c0 : Nat} {σ : Sg} {Qk : Int32 → Sg → Prop} (h : ∀ M : Mx, mL M = l → mV M = V → mN M = 1 → Cx M cX5_isFull (some .boolean) RX5 wsX5_isFull (rmz 0) 0 0 (QI (mV M) Qk) → PS M 0 [(0, .ref c0)] [] σ (0, 0)) : K_X5_isFull l V c0 σ Qk :=
  Ka_of (by decide +kernel) rfl rfl (Nat.le_of_ble_eq_true rfl) (fun M h1 h2 h3 C => h M h1 h2 h3 (by rw [h2]; exact C))
set_option maxRecDepth 100000 in
set_option maxHeartbeats 4000000 in
theorem s_X5_isFull_0 {M : Mx} {Qk : Int32 → Sg → Prop} (C : Cx M cX5_isFull (some .boolean) RX5 wsX5_isFull (rmz 0) 0 0 (QI (mV M) Qk)) (hN : mN M = 1) {c0 : Nat} (hc0 : isN c0) {σ : Sg} (h : (((gi σ c0 1) < (Int32.ofNat (nl c0)) → Qk (0 : Int32) σ) ∧ (¬ (gi σ c0 1) < (Int32.ofNat (nl c0)) → Qk (1 : Int32) σ))) : PS M 0 [(0, .ref c0)] [] σ (0, 0) := by
  refine P_aload_n C dX5_isFull_0 0 rfl ?_
  refine P_getI C fa_X5_isFull_7 (kdN_0 hc0) rfl (fxl (fxN_0 hc0)) dX5_isFull_1 ?_
  refine P_aload_n C dX5_isFull_4 0 rfl ?_
  refine P_getS C (e := (c0 + 1)) fa_X5_isFull_13 (kdN_0 hc0) (d := 1) rfl (fxl (fxN_0 hc0)) rfl dX5_isFull_5 ?_
  refine P_alen C (kdN_1 hc0) (by decide) (fxl (fxN_1 hc0)) (v := Int32.ofNat (nl c0)) rfl dX5_isFull_8 ?_
  refine P_icmp_lt C dX5_isFull_9 (tgt := 16) (by decide) (fun q1 => ?_) (fun q1 => ?_)
  · have h := h.1 q1
    refine P_iconst C dX5_isFull_16 (v := (0 : Int32)) rfl ?_
    exact P_zret C (by decide) dX5_isFull_17 h
  · have h := h.2 q1
    refine P_iconst C dX5_isFull_12 (v := (1 : Int32)) rfl ?_
    refine P_goto C dX5_isFull_13 (tgt := 17) (by decide) ?_
    exact P_zret C (by decide) dX5_isFull_17 h
theorem fa_X5_has_7 : FA RX5 wsX5_has 7 5 1 "NineMowers$Numbers" := by
  show _ ∧ _ ∧ _ ∧ _
  exact ⟨by decide, fun _ h => List.mem_cons_of_mem _ (List.mem_append_right _ h), List.mem_of_getElem? (i := 1) rfl, Or.inl rfl⟩
theorem fa_X5_has_13 : FA RX5 wsX5_has 13 5 0 "NineMowers$Numbers" := by
  show _ ∧ _ ∧ _ ∧ _
  exact ⟨by decide, fun _ h => List.mem_cons_of_mem _ (List.mem_append_right _ h), List.mem_of_getElem? (i := 2) rfl, Or.inl rfl⟩
noncomputable def K_X5_has (l : Launch) (V : Vx) (c0 : Nat) (a1 : Int32) (σ : Sg) (Qk : Int32 → Sg → Prop) : Prop := Ka l V yX5_has wsX5_has (rmz 0) 0 0 [.ref c0, .int a1] σ (QI V Qk)
theorem e_X5_has {l : Launch} {V : Vx} {c0 : Nat} {a1 : Int32} {σ : Sg} {Qk : Int32 → Sg → Prop} (h : ∀ M : Mx, mL M = l → mV M = V → mN M = 2 → Cx M cX5_has (some .boolean) RX5 wsX5_has (rmz 0) 0 0 (QI (mV M) Qk) → PS M 0 [(0, .ref c0), (1, .int a1)] [] σ (0, 0)) : K_X5_has l V c0 a1 σ Qk :=
  Ka_of (by decide +kernel) rfl rfl (Nat.le_of_ble_eq_true rfl) (fun M h1 h2 h3 C => h M h1 h2 h3 (by rw [h2]; exact C))
set_option maxRecDepth 100000 in
set_option maxHeartbeats 4000000 in
theorem s_X5_has_0 {M : Mx} {Qk : Int32 → Sg → Prop} (C : Cx M cX5_has (some .boolean) RX5 wsX5_has (rmz 0) 0 0 (QI (mV M) Qk)) (hN : mN M = 2) {c0 : Nat} {a1 : Int32} (hc0 : isN c0) {σ : Sg} (h : ((a1 < 0 → Qk (0 : Int32) σ) ∧ (¬ a1 < 0 → (((gi σ c0 1) ≤ a1 → Qk (0 : Int32) σ) ∧ (¬ (gi σ c0 1) ≤ a1 → (((Int32.ofNat (nl c0)) ≤ a1 → Qk (0 : Int32) σ) ∧ (¬ (Int32.ofNat (nl c0)) ≤ a1 → Qk (1 : Int32) σ))))))) : PS M 0 [(0, .ref c0), (1, .int a1)] [] σ (0, 0) := by
  refine P_iload_n C dX5_has_0 1 rfl ?_
  refine P_if_lt C dX5_has_1 (tgt := 25) (by decide) (fun q1 => ?_) (fun q1 => ?_)
  · have h := h.1 q1
    refine P_iconst C dX5_has_25 (v := (0 : Int32)) rfl ?_
    exact P_zret C (by decide) dX5_has_26 h
  · have h := h.2 q1
    refine P_iload_n C dX5_has_4 1 rfl ?_
    refine P_aload_n C dX5_has_5 0 rfl ?_
    refine P_getI C fa_X5_has_7 (kdN_0 hc0) rfl (fxl (fxN_0 hc0)) dX5_has_6 ?_
    refine P_icmp_ge C dX5_has_9 (tgt := 25) (by decide) (fun q2 => ?_) (fun q2 => ?_)
    · have h := h.1 q2
      refine P_iconst C dX5_has_25 (v := (0 : Int32)) rfl ?_
      exact P_zret C (by decide) dX5_has_26 h
    · have h := h.2 q2
      refine P_iload_n C dX5_has_12 1 rfl ?_
      refine P_aload_n C dX5_has_13 0 rfl ?_
      refine P_getS C (e := (c0 + 1)) fa_X5_has_13 (kdN_0 hc0) (d := 1) rfl (fxl (fxN_0 hc0)) rfl dX5_has_14 ?_
      refine P_alen C (kdN_1 hc0) (by decide) (fxl (fxN_1 hc0)) (v := Int32.ofNat (nl c0)) rfl dX5_has_17 ?_
      refine P_icmp_ge C dX5_has_18 (tgt := 25) (by decide) (fun q3 => ?_) (fun q3 => ?_)
      · have h := h.1 q3
        refine P_iconst C dX5_has_25 (v := (0 : Int32)) rfl ?_
        exact P_zret C (by decide) dX5_has_26 h
      · have h := h.2 q3
        refine P_iconst C dX5_has_21 (v := (1 : Int32)) rfl ?_
        refine P_goto C dX5_has_22 (tgt := 26) (by decide) ?_
        exact P_zret C (by decide) dX5_has_26 h
theorem fa_X5_comes_7 : FA RX5 wsX5_comes 7 5 1 "NineMowers$Numbers" := by
  show _ ∧ _ ∧ _ ∧ _
  exact ⟨by decide, fun _ h => List.mem_cons_of_mem _ (List.mem_append_right _ h), List.mem_of_getElem? (i := 1) rfl, Or.inl rfl⟩
theorem fa_X5_comes_13 : FA RX5 wsX5_comes 13 5 0 "NineMowers$Numbers" := by
  show _ ∧ _ ∧ _ ∧ _
  exact ⟨by decide, fun _ h => List.mem_cons_of_mem _ (List.mem_append_right _ h), List.mem_of_getElem? (i := 2) rfl, Or.inl rfl⟩
theorem pa_X5_comes_7 : PA RX5 wsX5_comes 7 5 1 "NineMowers$Numbers" .int := by
  show _ ∧ _ ∧ _ ∧ _ ∧ _ ∧ _ ∧ _ ∧ _
  exact ⟨by decide, fun _ h => List.mem_cons_of_mem _ (List.mem_append_right _ h), List.mem_of_getElem? (i := 1) rfl, rfl, rfl, by decide +kernel, ⟨tyX5, tyX5_ok⟩, nmX5⟩
noncomputable def K_X5_comes (l : Launch) (V : Vx) (c0 : Nat) (a1 : Int32) (σ : Sg) (Qk : Sg → Prop) : Prop := Ka l V yX5_comes wsX5_comes (rmz 0) 0 0 [.ref c0, .int a1] σ (QV V Qk)
theorem e_X5_comes {l : Launch} {V : Vx} {c0 : Nat} {a1 : Int32} {σ : Sg} {Qk : Sg → Prop} (h : ∀ M : Mx, mL M = l → mV M = V → mN M = 2 → Cx M cX5_comes none RX5 wsX5_comes (rmz 0) 0 0 (QV (mV M) Qk) → PS M 0 [(0, .ref c0), (1, .int a1)] [] σ (0, 0)) : K_X5_comes l V c0 a1 σ Qk :=
  Ka_of (by decide +kernel) rfl rfl (Nat.le_of_ble_eq_true rfl) (fun M h1 h2 h3 C => h M h1 h2 h3 (by rw [h2]; exact C))
set_option maxRecDepth 100000 in
set_option maxHeartbeats 4000000 in
theorem s_X5_comes_0 {M : Mx} {Qk : Sg → Prop} (C : Cx M cX5_comes none RX5 wsX5_comes (rmz 0) 0 0 (QV (mV M) Qk)) (hN : mN M = 2) {c0 : Nat} {a1 : Int32} (hc0 : isN c0) {σ : Sg} (h : (((Int32.ofNat (nl c0)) ≤ (gi σ c0 1) → (∀ σ2 : Sg, σ2 = si σ c0 1 ((gi σ c0 1) + (1 : Int32)) → Qk σ2)) ∧ (¬ (Int32.ofNat (nl c0)) ≤ (gi σ c0 1) → (vp_in (gi σ c0 1) (nl c0) ∧ (∀ σ4 : Sg, σ4 = si σ (c0 + 1) (gi σ c0 1).toNatClampNeg a1 → (∀ σ5 : Sg, σ5 = si σ4 c0 1 ((gi σ4 c0 1) + (1 : Int32)) → Qk σ5)))))) : PS M 0 [(0, .ref c0), (1, .int a1)] [] σ (0, 0) := by
  refine P_aload_n C dX5_comes_0 0 rfl ?_
  refine P_getI C fa_X5_comes_7 (kdN_0 hc0) rfl (fxl (fxN_0 hc0)) dX5_comes_1 ?_
  refine P_aload_n C dX5_comes_4 0 rfl ?_
  refine P_getS C (e := (c0 + 1)) fa_X5_comes_13 (kdN_0 hc0) (d := 1) rfl (fxl (fxN_0 hc0)) rfl dX5_comes_5 ?_
  refine P_alen C (kdN_1 hc0) (by decide) (fxl (fxN_1 hc0)) (v := Int32.ofNat (nl c0)) rfl dX5_comes_8 ?_
  refine P_icmp_ge C dX5_comes_9 (tgt := 22) (by decide) (fun q1 => ?_) (fun q1 => ?_)
  · have h := h.1 q1
    refine P_aload_n C dX5_comes_22 0 rfl ?_
    refine P_dup C dX5_comes_23 rfl ?_
    refine P_getI C fa_X5_comes_7 (kdN_0 hc0) rfl (fxl (fxN_0 hc0)) dX5_comes_24 ?_
    refine P_iconst C dX5_comes_27 (v := (1 : Int32)) rfl ?_
    refine P_iadd C dX5_comes_28 ?_
    refine P_putI C pa_X5_comes_7 (kdN_0 hc0) rfl (fxl (fxN_0 hc0)) dX5_comes_29 ?_
    refine P_nm (fun σ2 eσ2 => ?_)
    have h := h σ2 eσ2
    exact P_vret C dX5_comes_32 h
  · have h := h.2 q1
    refine P_aload_n C dX5_comes_12 0 rfl ?_
    refine P_getS C (e := (c0 + 1)) fa_X5_comes_13 (kdN_0 hc0) (d := 1) rfl (fxl (fxN_0 hc0)) rfl dX5_comes_13 ?_
    refine P_aload_n C dX5_comes_16 0 rfl ?_
    refine P_getI C fa_X5_comes_7 (kdN_0 hc0) rfl (fxl (fxN_0 hc0)) dX5_comes_17 ?_
    refine P_iload_n C dX5_comes_20 1 rfl ?_
    obtain ⟨hv3, h⟩ := h
    refine P_iast C (kdN_1 hc0) (fxl (fxN_1 hc0)) hv3 dX5_comes_21 ?_
    refine P_nm (fun σ4 eσ4 => ?_)
    have h := h σ4 eσ4
    refine P_aload_n C dX5_comes_22 0 rfl ?_
    refine P_dup C dX5_comes_23 rfl ?_
    refine P_getI C fa_X5_comes_7 (kdN_0 hc0) rfl (fxl (fxN_0 hc0)) dX5_comes_24 ?_
    refine P_iconst C dX5_comes_27 (v := (1 : Int32)) rfl ?_
    refine P_iadd C dX5_comes_28 ?_
    refine P_putI C pa_X5_comes_7 (kdN_0 hc0) rfl (fxl (fxN_0 hc0)) dX5_comes_29 ?_
    refine P_nm (fun σ5 eσ5 => ?_)
    have h := h σ5 eσ5
    exact P_vret C dX5_comes_32 h
theorem fa_X5_becomes_7 : FA RX5 wsX5_becomes 7 5 1 "NineMowers$Numbers" := by
  show _ ∧ _ ∧ _ ∧ _
  exact ⟨by decide, fun _ h => List.mem_cons_of_mem _ (List.mem_append_right _ h), List.mem_of_getElem? (i := 1) rfl, Or.inl rfl⟩
theorem pa_X5_becomes_7 : PA RX5 wsX5_becomes 7 5 1 "NineMowers$Numbers" .int := by
  show _ ∧ _ ∧ _ ∧ _ ∧ _ ∧ _ ∧ _ ∧ _
  exact ⟨by decide, fun _ h => List.mem_cons_of_mem _ (List.mem_append_right _ h), List.mem_of_getElem? (i := 1) rfl, rfl, rfl, by decide +kernel, ⟨tyX5, tyX5_ok⟩, nmX5⟩
theorem fa_X5_becomes_13 : FA RX5 wsX5_becomes 13 5 0 "NineMowers$Numbers" := by
  show _ ∧ _ ∧ _ ∧ _
  exact ⟨by decide, fun _ h => List.mem_cons_of_mem _ (List.mem_append_right _ h), List.mem_of_getElem? (i := 2) rfl, Or.inl rfl⟩
theorem km_X5_becomes_min : KM RX5 wsX5_becomes 17 Lib.Math.min.name Lib.Math.min.code := ⟨List.mem_of_getElem? (i := 3) rfl, List.mem_of_getElem? (i := 4) rfl, List.mem_of_getElem? (i := 5) rfl, List.mem_of_getElem? (i := 6) rfl⟩
theorem kc_X5_becomes_23 : KC RX5 wsX5_becomes 23 := ⟨List.mem_of_getElem? (i := 7) rfl, List.mem_of_getElem? (i := 8) rfl, List.mem_of_getElem? (i := 9) rfl, List.mem_of_getElem? (i := 10) rfl⟩
noncomputable def K_X5_becomes (l : Launch) (V : Vx) (c0 : Nat) (a1 : Nat) (σ : Sg) (Qk : Sg → Prop) : Prop := Ka l V yX5_becomes wsX5_becomes (rmz 1) 0 0 [.ref c0, .ref a1] σ (QV V Qk)
theorem e_X5_becomes {l : Launch} {V : Vx} {c0 : Nat} {a1 : Nat} {σ : Sg} {Qk : Sg → Prop} (h : ∀ M : Mx, mL M = l → mV M = V → mN M = 2 → Cx M cX5_becomes none RX5 wsX5_becomes (rmz 1) 0 0 (QV (mV M) Qk) → PS M 0 [(0, .ref c0), (1, .ref a1)] [] σ (0, 0)) : K_X5_becomes l V c0 a1 σ Qk :=
  Ka_of (by decide +kernel) rfl rfl (Nat.le_of_ble_eq_true rfl) (fun M h1 h2 h3 C => h M h1 h2 h3 (by rw [h2]; exact C))
set_option maxRecDepth 100000 in
set_option maxHeartbeats 4000000 in
theorem s_X5_becomes_0 {M : Mx} {Qk : Sg → Prop} (C : Cx M cX5_becomes none RX5 wsX5_becomes (rmz 1) 0 0 (QV (mV M) Qk)) (hN : mN M = 2) {c0 : Nat} {a1 : Nat} (hc0 : isN c0) (ha1 : isN a1) {σ : Sg} (h : (∀ σ1 : Sg, σ1 = si σ c0 1 (gi σ a1 1) → (∀ v2 : Int32, v2 = jmin (Int32.ofNat (nl c0)) (Int32.ofNat (nl a1)) → ((¬ (0 : Int32) < 0 ∧ ¬ (0 : Int32) < 0 ∧ ¬ v2 < 0 ∧ (0 : Int32).toNatClampNeg + v2.toNatClampNeg ≤ (nl a1) ∧ (0 : Int32).toNatClampNeg + v2.toNatClampNeg ≤ (nl c0)) ∧ (∀ σ3 : Sg, σ3 = sia σ1 (c0 + 1) (va_cpy (σ1.1 (a1 + 1)) (σ1.1 (c0 + 1)) (0 : Int32).toNatClampNeg (0 : Int32).toNatClampNeg v2.toNatClampNeg) → Qk σ3))))) : PS M 0 [(0, .ref c0), (1, .ref a1)] [] σ (0, 0) := by
  refine P_aload_n C dX5_becomes_0 0 rfl ?_
  refine P_aload_n C dX5_becomes_1 1 rfl ?_
  refine P_getI C fa_X5_becomes_7 (kdN_0 ha1) rfl (fxl (fxN_0 ha1)) dX5_becomes_2 ?_
  refine P_putI C pa_X5_becomes_7 (kdN_0 hc0) rfl (fxl (fxN_0 hc0)) dX5_becomes_5 ?_
  refine P_nm (fun σ1 eσ1 => ?_)
  have h := h σ1 eσ1
  refine P_aload_n C dX5_becomes_8 1 rfl ?_
  refine P_getS C (e := (a1 + 1)) fa_X5_becomes_13 (kdN_0 ha1) (d := 1) rfl (fxl (fxN_0 ha1)) rfl dX5_becomes_9 ?_
  refine P_iconst C dX5_becomes_12 (v := (0 : Int32)) rfl ?_
  refine P_aload_n C dX5_becomes_13 0 rfl ?_
  refine P_getS C (e := (c0 + 1)) fa_X5_becomes_13 (kdN_0 hc0) (d := 1) rfl (fxl (fxN_0 hc0)) rfl dX5_becomes_14 ?_
  refine P_iconst C dX5_becomes_17 (v := (0 : Int32)) rfl ?_
  refine P_aload_n C dX5_becomes_18 0 rfl ?_
  refine P_getS C (e := (c0 + 1)) fa_X5_becomes_13 (kdN_0 hc0) (d := 1) rfl (fxl (fxN_0 hc0)) rfl dX5_becomes_19 ?_
  refine P_alen C (kdN_1 hc0) (by decide) (fxl (fxN_1 hc0)) (v := Int32.ofNat (nl c0)) rfl dX5_becomes_22 ?_
  refine P_aload_n C dX5_becomes_23 1 rfl ?_
  refine P_getS C (e := (a1 + 1)) fa_X5_becomes_13 (kdN_0 ha1) (d := 1) rfl (fxl (fxN_0 ha1)) rfl dX5_becomes_24 ?_
  refine P_alen C (kdN_1 ha1) (by decide) (fxl (fxN_1 ha1)) (v := Int32.ofNat (nl a1)) rfl dX5_becomes_27 ?_
  refine P_min C km_X5_becomes_min (by decide) (Nat.le_of_ble_eq_true rfl) ⟨Nat.le_refl _, Nat.le_refl _⟩ dX5_becomes_28 ?_
  refine P_nmi (fun v2 ev2 => ?_)
  have h := h v2 ev2
  obtain ⟨⟨cq1, cq2, cq3, cq4, cq5⟩, h⟩ := h
  refine P_copyi C kc_X5_becomes_23 (kdN_1 ha1) (fxl (fxN_1 ha1)) (kdN_1 hc0) (fxl (fxN_1 hc0)) cq1 cq2 cq3 cq4 cq5 (by decide) (Nat.le_of_ble_eq_true rfl) dX5_becomes_31 ?_
  refine P_nm (fun σ3 eσ3 => ?_)
  have h := h σ3 eσ3
  exact P_vret C dX5_becomes_34 h
theorem fa_X9_isEmpty_13 : FA RX9 wsX9_isEmpty 13 9 1 "NineMowers$Tape" := by
  show _ ∧ _ ∧ _ ∧ _
  exact ⟨by decide, fun _ h => List.mem_cons_of_mem _ (List.mem_append_right _ h), List.mem_of_getElem? (i := 1) rfl, Or.inl rfl⟩
noncomputable def K_X9_isEmpty (l : Launch) (V : Vx) (c0 : Nat) (σ : Sg) (Qk : Int32 → Sg → Prop) : Prop := Ka l V yX9_isEmpty wsX9_isEmpty (rmz 0) 0 0 [.ref c0] σ (QI V Qk)
theorem e_X9_isEmpty {l : Launch} {V : Vx} {c0 : Nat} {σ : Sg} {Qk : Int32 → Sg → Prop} (h : ∀ M : Mx, mL M = l → mV M = V → mN M = 1 → Cx M cX9_isEmpty (some .boolean) RX9 wsX9_isEmpty (rmz 0) 0 0 (QI (mV M) Qk) → PS M 0 [(0, .ref c0)] [] σ (0, 0)) : K_X9_isEmpty l V c0 σ Qk :=
  Ka_of (by decide +kernel) rfl rfl (Nat.le_of_ble_eq_true rfl) (fun M h1 h2 h3 C => h M h1 h2 h3 (by rw [h2]; exact C))
set_option maxRecDepth 100000 in
set_option maxHeartbeats 4000000 in
theorem s_X9_isEmpty_0 {M : Mx} {Qk : Int32 → Sg → Prop} (C : Cx M cX9_isEmpty (some .boolean) RX9 wsX9_isEmpty (rmz 0) 0 0 (QI (mV M) Qk)) (hN : mN M = 1) {c0 : Nat} (hc0 : isT c0) {σ : Sg} (h : ((0 ≤ (gi σ c0 1) → Qk (0 : Int32) σ) ∧ (¬ 0 ≤ (gi σ c0 1) → Qk (1 : Int32) σ))) : PS M 0 [(0, .ref c0)] [] σ (0, 0) := by
  refine P_aload_n C dX9_isEmpty_0 0 rfl ?_
  refine P_getI C fa_X9_isEmpty_13 (kdT_0 hc0) rfl (fxl (fxT_0 hc0)) dX9_isEmpty_1 ?_
  refine P_if_ge C dX9_isEmpty_4 (tgt := 11) (by decide) (fun q1 => ?_) (fun q1 => ?_)
  · have h := h.1 q1
    refine P_iconst C dX9_isEmpty_11 (v := (0 : Int32)) rfl ?_
    exact P_zret C (by decide) dX9_isEmpty_12 h
  · have h := h.2 q1
    refine P_iconst C dX9_isEmpty_7 (v := (1 : Int32)) rfl ?_
    refine P_goto C dX9_isEmpty_8 (tgt := 12) (by decide) ?_
    exact P_zret C (by decide) dX9_isEmpty_12 h
theorem fa_X9_has_17 : FA RX9 wsX9_has 17 9 2 "NineMowers$Tape" := by
  show _ ∧ _ ∧ _ ∧ _
  exact ⟨by decide, fun _ h => List.mem_cons_of_mem _ (List.mem_append_right _ h), List.mem_of_getElem? (i := 1) rfl, Or.inl rfl⟩
noncomputable def K_X9_has (l : Launch) (V : Vx) (c0 : Nat) (a1 : Int32) (σ : Sg) (Qk : Int32 → Sg → Prop) : Prop := Ka l V yX9_has wsX9_has (rmz 0) 0 0 [.ref c0, .int a1] σ (QI V Qk)
theorem e_X9_has {l : Launch} {V : Vx} {c0 : Nat} {a1 : Int32} {σ : Sg} {Qk : Int32 → Sg → Prop} (h : ∀ M : Mx, mL M = l → mV M = V → mN M = 2 → Cx M cX9_has (some .boolean) RX9 wsX9_has (rmz 0) 0 0 (QI (mV M) Qk) → PS M 0 [(0, .ref c0), (1, .int a1)] [] σ (0, 0)) : K_X9_has l V c0 a1 σ Qk :=
  Ka_of (by decide +kernel) rfl rfl (Nat.le_of_ble_eq_true rfl) (fun M h1 h2 h3 C => h M h1 h2 h3 (by rw [h2]; exact C))
set_option maxRecDepth 100000 in
set_option maxHeartbeats 4000000 in
theorem s_X9_has_0 {M : Mx} {Qk : Int32 → Sg → Prop} (C : Cx M cX9_has (some .boolean) RX9 wsX9_has (rmz 0) 0 0 (QI (mV M) Qk)) (hN : mN M = 2) {c0 : Nat} {a1 : Int32} (hc0 : isT c0) {σ : Sg} (h : ((a1 < 0 → Qk (0 : Int32) σ) ∧ (¬ a1 < 0 → (((gi σ c0 2) ≤ a1 → Qk (0 : Int32) σ) ∧ (¬ (gi σ c0 2) ≤ a1 → Qk (1 : Int32) σ))))) : PS M 0 [(0, .ref c0), (1, .int a1)] [] σ (0, 0) := by
  refine P_iload_n C dX9_has_0 1 rfl ?_
  refine P_if_lt C dX9_has_1 (tgt := 16) (by decide) (fun q1 => ?_) (fun q1 => ?_)
  · have h := h.1 q1
    refine P_iconst C dX9_has_16 (v := (0 : Int32)) rfl ?_
    exact P_zret C (by decide) dX9_has_17 h
  · have h := h.2 q1
    refine P_iload_n C dX9_has_4 1 rfl ?_
    refine P_aload_n C dX9_has_5 0 rfl ?_
    refine P_getI C fa_X9_has_17 (kdT_0 hc0) rfl (fxl (fxT_0 hc0)) dX9_has_6 ?_
    refine P_icmp_ge C dX9_has_9 (tgt := 16) (by decide) (fun q2 => ?_) (fun q2 => ?_)
    · have h := h.1 q2
      refine P_iconst C dX9_has_16 (v := (0 : Int32)) rfl ?_
      exact P_zret C (by decide) dX9_has_17 h
    · have h := h.2 q2
      refine P_iconst C dX9_has_12 (v := (1 : Int32)) rfl ?_
      refine P_goto C dX9_has_13 (tgt := 17) (by decide) ?_
      exact P_zret C (by decide) dX9_has_17 h
theorem fa_X9_hasPart_17 : FA RX9 wsX9_hasPart 17 9 2 "NineMowers$Tape" := by
  show _ ∧ _ ∧ _ ∧ _
  exact ⟨by decide, fun _ h => List.mem_cons_of_mem _ (List.mem_append_right _ h), List.mem_of_getElem? (i := 1) rfl, Or.inl rfl⟩
noncomputable def K_X9_hasPart (l : Launch) (V : Vx) (c0 : Nat) (a1 : Int32) (a2 : Int32) (σ : Sg) (Qk : Int32 → Sg → Prop) : Prop := Ka l V yX9_hasPart wsX9_hasPart (rmz 0) 0 0 [.ref c0, .int a1, .int a2] σ (QI V Qk)
theorem e_X9_hasPart {l : Launch} {V : Vx} {c0 : Nat} {a1 : Int32} {a2 : Int32} {σ : Sg} {Qk : Int32 → Sg → Prop} (h : ∀ M : Mx, mL M = l → mV M = V → mN M = 3 → Cx M cX9_hasPart (some .boolean) RX9 wsX9_hasPart (rmz 0) 0 0 (QI (mV M) Qk) → PS M 0 [(0, .ref c0), (1, .int a1), (2, .int a2)] [] σ (0, 0)) : K_X9_hasPart l V c0 a1 a2 σ Qk :=
  Ka_of (by decide +kernel) rfl rfl (Nat.le_of_ble_eq_true rfl) (fun M h1 h2 h3 C => h M h1 h2 h3 (by rw [h2]; exact C))
set_option maxRecDepth 100000 in
set_option maxHeartbeats 4000000 in
theorem s_X9_hasPart_0 {M : Mx} {Qk : Int32 → Sg → Prop} (C : Cx M cX9_hasPart (some .boolean) RX9 wsX9_hasPart (rmz 0) 0 0 (QI (mV M) Qk)) (hN : mN M = 3) {c0 : Nat} {a1 : Int32} {a2 : Int32} (hc0 : isT c0) {σ : Sg} (h : ((a2 < 0 → Qk (0 : Int32) σ) ∧ (¬ a2 < 0 → ((a1 < 0 → Qk (0 : Int32) σ) ∧ (¬ a1 < 0 → (((gi σ c0 2) < a2 → Qk (0 : Int32) σ) ∧ (¬ (gi σ c0 2) < a2 → ((((gi σ c0 2) - a2) < a1 → Qk (0 : Int32) σ) ∧ (¬ ((gi σ c0 2) - a2) < a1 → Qk (1 : Int32) σ))))))))) : PS M 0 [(0, .ref c0), (1, .int a1), (2, .int a2)] [] σ (0, 0) := by
  refine P_iload_n C dX9_hasPart_0 2 rfl ?_
  refine P_if_lt C dX9_hasPart_1 (tgt := 30) (by decide) (fun q1 => ?_) (fun q1 => ?_)
  · have h := h.1 q1
    refine P_iconst C dX9_hasPart_30 (v := (0 : Int32)) rfl ?_
    exact P_zret C (by decide) dX9_hasPart_31 h
  · have h := h.2 q1
    refine P_iload_n C dX9_hasPart_4 1 rfl ?_
    refine P_if_lt C dX9_hasPart_5 (tgt := 30) (by decide) (fun q2 => ?_) (fun q2 => ?_)
    · have h := h.1 q2
      refine P_iconst C dX9_hasPart_30 (v := (0 : Int32)) rfl ?_
      exact P_zret C (by decide) dX9_hasPart_31 h
    · have h := h.2 q2
      refine P_iload_n C dX9_hasPart_8 2 rfl ?_
      refine P_aload_n C dX9_hasPart_9 0 rfl ?_
      refine P_getI C fa_X9_hasPart_17 (kdT_0 hc0) rfl (fxl (fxT_0 hc0)) dX9_hasPart_10 ?_
      refine P_icmp_gt C dX9_hasPart_13 (tgt := 30) (by decide) (fun q3 => ?_) (fun q3 => ?_)
      · have h := h.1 q3
        refine P_iconst C dX9_hasPart_30 (v := (0 : Int32)) rfl ?_
        exact P_zret C (by decide) dX9_hasPart_31 h
      · have h := h.2 q3
        refine P_iload_n C dX9_hasPart_16 1 rfl ?_
        refine P_aload_n C dX9_hasPart_17 0 rfl ?_
        refine P_getI C fa_X9_hasPart_17 (kdT_0 hc0) rfl (fxl (fxT_0 hc0)) dX9_hasPart_18 ?_
        refine P_iload_n C dX9_hasPart_21 2 rfl ?_
        refine P_isub C dX9_hasPart_22 ?_
        refine P_icmp_gt C dX9_hasPart_23 (tgt := 30) (by decide) (fun q4 => ?_) (fun q4 => ?_)
        · have h := h.1 q4
          refine P_iconst C dX9_hasPart_30 (v := (0 : Int32)) rfl ?_
          exact P_zret C (by decide) dX9_hasPart_31 h
        · have h := h.2 q4
          refine P_iconst C dX9_hasPart_26 (v := (1 : Int32)) rfl ?_
          refine P_goto C dX9_hasPart_27 (tgt := 31) (by decide) ?_
          exact P_zret C (by decide) dX9_hasPart_31 h
theorem fa_X9_cut_13 : FA RX9 wsX9_cut 13 9 1 "NineMowers$Tape" := by
  show _ ∧ _ ∧ _ ∧ _
  exact ⟨by decide, fun _ h => List.mem_cons_of_mem _ (List.mem_append_right _ h), List.mem_of_getElem? (i := 1) rfl, Or.inl rfl⟩
noncomputable def K_X9_cut (l : Launch) (V : Vx) (c0 : Nat) (a1 : Int64) (σ : Sg) (Qk : Int64 → Sg → Prop) : Prop := Ka l V yX9_cut wsX9_cut (rmz 0) 0 0 [.ref c0, .long a1] σ (QL V Qk)
theorem e_X9_cut {l : Launch} {V : Vx} {c0 : Nat} {a1 : Int64} {σ : Sg} {Qk : Int64 → Sg → Prop} (h : ∀ M : Mx, mL M = l → mV M = V → mN M = 3 → Cx M cX9_cut (some .long) RX9 wsX9_cut (rmz 0) 0 0 (QL (mV M) Qk) → PS M 0 [(0, .ref c0), (1, .long a1)] [] σ (0, 0)) : K_X9_cut l V c0 a1 σ Qk :=
  Ka_of (by decide +kernel) rfl rfl (Nat.le_of_ble_eq_true rfl) (fun M h1 h2 h3 C => h M h1 h2 h3 (by rw [h2]; exact C))
set_option maxRecDepth 100000 in
set_option maxHeartbeats 4000000 in
theorem s_X9_cut_0 {M : Mx} {Qk : Int64 → Sg → Prop} (C : Cx M cX9_cut (some .long) RX9 wsX9_cut (rmz 0) 0 0 (QL (mV M) Qk)) (hN : mN M = 3) {c0 : Nat} {a1 : Int64} (hc0 : isT c0) {σ : Sg} (h : (((gi σ c0 1).toInt < 0 ∨ 4 < (gi σ c0 1).toInt → Qk a1 σ) ∧ ((gi σ c0 1).toInt = 0 → Qk a1.toInt32.toInt8.toInt32.toInt64 σ) ∧ ((gi σ c0 1).toInt = 1 → Qk a1.toInt32.toInt16.toInt32.toInt64 σ) ∧ ((gi σ c0 1).toInt = 2 → Qk a1.toInt32.toInt64 σ) ∧ ((gi σ c0 1).toInt = 3 → Qk a1 σ) ∧ ((gi σ c0 1).toInt = 4 → (((lg_cmp a1 (0 : Int64)) = 0 → Qk (0 : Int64) σ) ∧ (¬ (lg_cmp a1 (0 : Int64)) = 0 → Qk (1 : Int64) σ))))) : PS M 0 [(0, .ref c0), (1, .long a1)] [] σ (0, 0) := by
  refine P_aload_n C dX9_cut_0 0 rfl ?_
  refine P_getI C fa_X9_cut_13 (kdT_0 hc0) rfl (fxl (fxT_0 hc0)) dX9_cut_1 ?_
  refine P_tsw C dX9_cut_4 66 (by decide) (fun q1 => ?_) (by decide) (fun i off ho q1 => ?_)
  · have h := h.1 q1
    refine P_lload_n C dX9_cut_66 1 rfl ?_
    exact P_lret C dX9_cut_67 h
  · rcases i with _ | _ | _ | _ | _ | i
    · obtain rfl : (36 : Int) = off := Option.some.inj ho
      refine ⟨?_, by decide⟩
      show PS M 40 _ _ _ _
      have h := h.2.1 (by have q := q1; simp at q; omega)
      refine P_lload_n C dX9_cut_40 1 rfl ?_
      refine P_l2i C dX9_cut_41 ?_
      refine P_i2b C dX9_cut_42 ?_
      refine P_i2l C dX9_cut_43 ?_
      exact P_lret C dX9_cut_44 h
    · obtain rfl : (41 : Int) = off := Option.some.inj ho
      refine ⟨?_, by decide⟩
      show PS M 45 _ _ _ _
      have h := h.2.2.1 (by have q := q1; simp at q; omega)
      refine P_lload_n C dX9_cut_45 1 rfl ?_
      refine P_l2i C dX9_cut_46 ?_
      refine P_i2s C dX9_cut_47 ?_
      refine P_i2l C dX9_cut_48 ?_
      exact P_lret C dX9_cut_49 h
    · obtain rfl : (46 : Int) = off := Option.some.inj ho
      refine ⟨?_, by decide⟩
      show PS M 50 _ _ _ _
      have h := h.2.2.2.1 (by have q := q1; simp at q; omega)
      refine P_lload_n C dX9_cut_50 1 rfl ?_
      refine P_l2i C dX9_cut_51 ?_
      refine P_i2l C dX9_cut_52 ?_
      exact P_lret C dX9_cut_53 h
    · obtain rfl : (62 : Int) = off := Option.some.inj ho
      refine ⟨?_, by decide⟩
      show PS M 66 _ _ _ _
      have h := h.2.2.2.2.1 (by have q := q1; simp at q; omega)
      refine P_lload_n C dX9_cut_66 1 rfl ?_
      exact P_lret C dX9_cut_67 h
    · obtain rfl : (50 : Int) = off := Option.some.inj ho
      refine ⟨?_, by decide⟩
      show PS M 54 _ _ _ _
      have h := h.2.2.2.2.2 (by have q := q1; simp at q; omega)
      refine P_lload_n C dX9_cut_54 1 rfl ?_
      refine P_lconst C dX9_cut_55 (v := (0 : Int64)) rfl ?_
      refine P_lcmp C dX9_cut_56 ?_
      refine P_if_eq C dX9_cut_57 (tgt := 64) (by decide) (fun q2 => ?_) (fun q2 => ?_)
      · have h := h.1 q2
        refine P_lconst C dX9_cut_64 (v := (0 : Int64)) rfl ?_
        exact P_lret C dX9_cut_65 h
      · have h := h.2 q2
        refine P_lconst C dX9_cut_60 (v := (1 : Int64)) rfl ?_
        refine P_goto C dX9_cut_61 (tgt := 65) (by decide) ?_
        exact P_lret C dX9_cut_65 h
    · exact absurd (Array.getElem?_eq_some_iff.mp ho).1 (Nat.not_lt.mpr (by show 5 ≤ _; omega))
theorem fa_X1_becomes_17 : FA RX1 wsX1_becomes 17 1 1 "NineMowers$Course" := by
  show _ ∧ _ ∧ _ ∧ _
  exact ⟨by decide, fun _ h => List.mem_cons_of_mem _ (List.mem_append_right _ h), List.mem_of_getElem? (i := 1) rfl, Or.inl rfl⟩
theorem pa_X1_becomes_17 : PA RX1 wsX1_becomes 17 1 1 "NineMowers$Course" .int := by
  show _ ∧ _ ∧ _ ∧ _ ∧ _ ∧ _ ∧ _ ∧ _
  exact ⟨by decide, fun _ h => List.mem_cons_of_mem _ (List.mem_append_right _ h), List.mem_of_getElem? (i := 1) rfl, rfl, rfl, by decide +kernel, ⟨tyX1, tyX1_ok⟩, nmX1⟩
theorem fa_X1_becomes_25 : FA RX1 wsX1_becomes 25 1 3 "NineMowers$Course" := by
  show _ ∧ _ ∧ _ ∧ _
  exact ⟨by decide, fun _ h => List.mem_cons_of_mem _ (List.mem_append_right _ h), List.mem_of_getElem? (i := 2) rfl, Or.inl rfl⟩
theorem pa_X1_becomes_25 : PA RX1 wsX1_becomes 25 1 3 "NineMowers$Course" .int := by
  show _ ∧ _ ∧ _ ∧ _ ∧ _ ∧ _ ∧ _ ∧ _
  exact ⟨by decide, fun _ h => List.mem_cons_of_mem _ (List.mem_append_right _ h), List.mem_of_getElem? (i := 2) rfl, rfl, rfl, by decide +kernel, ⟨tyX1, tyX1_ok⟩, nmX1⟩
theorem fa_X1_becomes_43 : FA RX1 wsX1_becomes 43 1 9 "NineMowers$Course" := by
  show _ ∧ _ ∧ _ ∧ _
  exact ⟨by decide, fun _ h => List.mem_cons_of_mem _ (List.mem_append_right _ h), List.mem_of_getElem? (i := 3) rfl, Or.inl rfl⟩
theorem pa_X1_becomes_43 : PA RX1 wsX1_becomes 43 1 9 "NineMowers$Course" .int := by
  show _ ∧ _ ∧ _ ∧ _ ∧ _ ∧ _ ∧ _ ∧ _
  exact ⟨by decide, fun _ h => List.mem_cons_of_mem _ (List.mem_append_right _ h), List.mem_of_getElem? (i := 3) rfl, rfl, rfl, by decide +kernel, ⟨tyX1, tyX1_ok⟩, nmX1⟩
theorem fa_X1_becomes_46 : FA RX1 wsX1_becomes 46 1 10 "NineMowers$Course" := by
  show _ ∧ _ ∧ _ ∧ _
  exact ⟨by decide, fun _ h => List.mem_cons_of_mem _ (List.mem_append_right _ h), List.mem_of_getElem? (i := 4) rfl, Or.inl rfl⟩
theorem pa_X1_becomes_46 : PA RX1 wsX1_becomes 46 1 10 "NineMowers$Course" (.object "NineMowers$Field") := by
  show _ ∧ _ ∧ _ ∧ _ ∧ _ ∧ _ ∧ _ ∧ _
  exact ⟨by decide, fun _ h => List.mem_cons_of_mem _ (List.mem_append_right _ h), List.mem_of_getElem? (i := 4) rfl, rfl, rfl, by decide +kernel, ⟨tyX1, tyX1_ok⟩, nmX1⟩
theorem fa_X1_becomes_50 : FA RX1 wsX1_becomes 50 1 11 "NineMowers$Course" := by
  show _ ∧ _ ∧ _ ∧ _
  exact ⟨by decide, fun _ h => List.mem_cons_of_mem _ (List.mem_append_right _ h), List.mem_of_getElem? (i := 5) rfl, Or.inl rfl⟩
theorem pa_X1_becomes_50 : PA RX1 wsX1_becomes 50 1 11 "NineMowers$Course" .int := by
  show _ ∧ _ ∧ _ ∧ _ ∧ _ ∧ _ ∧ _ ∧ _
  exact ⟨by decide, fun _ h => List.mem_cons_of_mem _ (List.mem_append_right _ h), List.mem_of_getElem? (i := 5) rfl, rfl, rfl, by decide +kernel, ⟨tyX1, tyX1_ok⟩, nmX1⟩
theorem fa_X1_becomes_40 : FA RX1 wsX1_becomes 40 1 8 "NineMowers$Course" := by
  show _ ∧ _ ∧ _ ∧ _
  exact ⟨by decide, fun _ h => List.mem_cons_of_mem _ (List.mem_append_right _ h), List.mem_of_getElem? (i := 12) rfl, Or.inl rfl⟩
theorem kc_X1_becomes_74 : KC RX1 wsX1_becomes 74 := ⟨List.mem_of_getElem? (i := 13) rfl, List.mem_of_getElem? (i := 14) rfl, List.mem_of_getElem? (i := 15) rfl, List.mem_of_getElem? (i := 16) rfl⟩
theorem fa_X1_becomes_11 : FA RX1 wsX1_becomes 11 1 0 "NineMowers$Course" := by
  show _ ∧ _ ∧ _ ∧ _
  exact ⟨by decide, fun _ h => List.mem_cons_of_mem _ (List.mem_append_right _ h), List.mem_of_getElem? (i := 6) rfl, Or.inl rfl⟩
theorem fa_X1_becomes_21 : FA RX1 wsX1_becomes 21 1 2 "NineMowers$Course" := by
  show _ ∧ _ ∧ _ ∧ _
  exact ⟨by decide, fun _ h => List.mem_cons_of_mem _ (List.mem_append_right _ h), List.mem_of_getElem? (i := 7) rfl, Or.inl rfl⟩
theorem fa_X1_becomes_28 : FA RX1 wsX1_becomes 28 1 4 "NineMowers$Course" := by
  show _ ∧ _ ∧ _ ∧ _
  exact ⟨by decide, fun _ h => List.mem_cons_of_mem _ (List.mem_append_right _ h), List.mem_of_getElem? (i := 8) rfl, Or.inl rfl⟩
theorem fa_X1_becomes_31 : FA RX1 wsX1_becomes 31 1 5 "NineMowers$Course" := by
  show _ ∧ _ ∧ _ ∧ _
  exact ⟨by decide, fun _ h => List.mem_cons_of_mem _ (List.mem_append_right _ h), List.mem_of_getElem? (i := 9) rfl, Or.inl rfl⟩
theorem fa_X1_becomes_34 : FA RX1 wsX1_becomes 34 1 6 "NineMowers$Course" := by
  show _ ∧ _ ∧ _ ∧ _
  exact ⟨by decide, fun _ h => List.mem_cons_of_mem _ (List.mem_append_right _ h), List.mem_of_getElem? (i := 10) rfl, Or.inl rfl⟩
theorem fa_X1_becomes_37 : FA RX1 wsX1_becomes 37 1 7 "NineMowers$Course" := by
  show _ ∧ _ ∧ _ ∧ _
  exact ⟨by decide, fun _ h => List.mem_cons_of_mem _ (List.mem_append_right _ h), List.mem_of_getElem? (i := 11) rfl, Or.inl rfl⟩
noncomputable def K_X1_becomes (l : Launch) (V : Vx) (c0 : Nat) (a1 : Nat) (σ : Sg) (Qk : Sg → Prop) : Prop := Ka l V yX1_becomes wsX1_becomes (rmz 1) 0 0 [.ref c0, .ref a1] σ (QV V Qk)
theorem e_X1_becomes {l : Launch} {V : Vx} {c0 : Nat} {a1 : Nat} {σ : Sg} {Qk : Sg → Prop} (h : ∀ M : Mx, mL M = l → mV M = V → mN M = 3 → Cx M cX1_becomes none RX1 wsX1_becomes (rmz 1) 0 0 (QV (mV M) Qk) → PS M 0 [(0, .ref c0), (1, .ref a1)] [] σ (0, 0)) : K_X1_becomes l V c0 a1 σ Qk :=
  Ka_of (by decide +kernel) rfl rfl (Nat.le_of_ble_eq_true rfl) (fun M h1 h2 h3 C => h M h1 h2 h3 (by rw [h2]; exact C))
set_option maxRecDepth 100000 in
set_option maxHeartbeats 4000000 in
theorem s_X1_becomes_0 {M : Mx} {Qk : Sg → Prop} (C : Cx M cX1_becomes none RX1 wsX1_becomes (rmz 1) 0 0 (QV (mV M) Qk)) (hN : mN M = 3) {c0 : Nat} {a1 : Nat} (hc0 : isC c0) (ha1 : isC a1) {σ : Sg} (h : (∀ σ1 : Sg, σ1 = si σ c0 1 (gi σ a1 1) → (∀ σ2 : Sg, σ2 = si σ1 c0 3 (gi σ1 a1 3) → (∀ σ3 : Sg, σ3 = si σ2 c0 9 (gi σ2 a1 9) → (∃ f4 : Nat, gr σ3 a1 10 = some f4 ∧ kd f4 = (12, 0) ∧ f4 ∈ ids (mV M) ∧ (∀ σ5 : Sg, σ5 = sr σ3 c0 10 (some f4) → (∀ σ6 : Sg, σ6 = si σ5 c0 11 (gi σ5 a1 11) → PS M 42 [(0, .ref c0), (1, .ref a1), (2, .int (0 : Int32))] [] σ6 (0, 0)))))))) : PS M 0 [(0, .ref c0), (1, .ref a1)] [] σ (0, 0) := by
  refine P_aload_n C dX1_becomes_0 0 rfl ?_
  refine P_aload_n C dX1_becomes_1 1 rfl ?_
  refine P_getI C fa_X1_becomes_17 (kdC_0 ha1) rfl (fxl (fxC_0 ha1)) dX1_becomes_2 ?_
  refine P_putI C pa_X1_becomes_17 (kdC_0 hc0) rfl (fxl (fxC_0 hc0)) dX1_becomes_5 ?_
  refine P_nm (fun σ1 eσ1 => ?_)
  have h := h σ1 eσ1
  refine P_aload_n C dX1_becomes_8 0 rfl ?_
  refine P_aload_n C dX1_becomes_9 1 rfl ?_
  refine P_getI C fa_X1_becomes_25 (kdC_0 ha1) rfl (fxl (fxC_0 ha1)) dX1_becomes_10 ?_
  refine P_putI C pa_X1_becomes_25 (kdC_0 hc0) rfl (fxl (fxC_0 hc0)) dX1_becomes_13 ?_
  refine P_nm (fun σ2 eσ2 => ?_)
  have h := h σ2 eσ2
  refine P_aload_n C dX1_becomes_16 0 rfl ?_
  refine P_aload_n C dX1_becomes_17 1 rfl ?_
  refine P_getI C fa_X1_becomes_43 (kdC_0 ha1) rfl (fxl (fxC_0 ha1)) dX1_becomes_18 ?_
  refine P_putI C pa_X1_becomes_43 (kdC_0 hc0) rfl (fxl (fxC_0 hc0)) dX1_becomes_21 ?_
  refine P_nm (fun σ3 eσ3 => ?_)
  have h := h σ3 eσ3
  refine P_aload_n C dX1_becomes_24 0 rfl ?_
  refine P_aload_n C dX1_becomes_25 1 rfl ?_
  obtain ⟨f4, hrf4, hf4, lf4, h⟩ := h
  refine P_getD C fa_X1_becomes_46 (kdC_0 ha1) rfl (fxl (fxC_0 ha1)) hrf4 dX1_becomes_26 ?_
  refine P_putD C pa_X1_becomes_46 (kdC_0 hc0) rfl (fxl (fxC_0 hc0)) (fun _ => rfl) (fun _ => rfl) dX1_becomes_29 ?_
  refine P_nm (fun σ5 eσ5 => ?_)
  have h := h σ5 eσ5
  refine P_aload_n C dX1_becomes_32 0 rfl ?_
  refine P_aload_n C dX1_becomes_33 1 rfl ?_
  refine P_getI C fa_X1_becomes_50 (kdC_0 ha1) rfl (fxl (fxC_0 ha1)) dX1_becomes_34 ?_
  refine P_putI C pa_X1_becomes_50 (kdC_0 hc0) rfl (fxl (fxC_0 hc0)) dX1_becomes_37 ?_
  refine P_nm (fun σ6 eσ6 => ?_)
  have h := h σ6 eσ6
  refine P_iconst C dX1_becomes_40 (v := (0 : Int32)) rfl ?_
  refine P_istore_n C dX1_becomes_41 (by rw [hN]; decide) rfl ?_
  exact P_sub [1, 2, 0] rfl h
set_option maxRecDepth 100000 in
set_option maxHeartbeats 4000000 in
theorem s_X1_becomes_42 {M : Mx} {Qk : Sg → Prop} (C : Cx M cX1_becomes none RX1 wsX1_becomes (rmz 1) 0 0 (QV (mV M) Qk)) (hN : mN M = 3) {x0 : Nat} {x1 : Nat} {x2 : Int32} (hx0 : isC x0) (hx1 : isC x1) {σ : Sg} (h : (((6 : Int32) ≤ x2 → ((¬ (0 : Int32) < 0 ∧ ¬ (0 : Int32) < 0 ∧ ¬ (24 : Int32) < 0 ∧ (0 : Int32).toNatClampNeg + (24 : Int32).toNatClampNeg ≤ 24 ∧ (0 : Int32).toNatClampNeg + (24 : Int32).toNatClampNeg ≤ 24) ∧ (∀ σ2 : Sg, σ2 = sia σ (x0 + 7) (va_cpy (σ.1 (x1 + 7)) (σ.1 (x0 + 7)) (0 : Int32).toNatClampNeg (0 : Int32).toNatClampNeg (24 : Int32).toNatClampNeg) → Qk σ2))) ∧ (¬ (6 : Int32) ≤ x2 → (vp_in x2 6 ∧ vp_in x2 6 ∧ (∀ μ6 : Nat, gr σ (x1 + 1) x2.toNatClampNeg = some μ6 → isW M μ6) ∧ (∀ σ5 : Sg, σ5 = sr σ (x0 + 1) x2.toNatClampNeg (gr σ (x1 + 1) x2.toNatClampNeg) → (vp_in x2 6 ∧ (vp_in x2 6 ∧ (∀ σ9 : Sg, σ9 = si σ5 (x0 + 2) x2.toNatClampNeg (gi σ5 (x1 + 2) x2.toNatClampNeg) → (vp_in x2 6 ∧ (vp_in x2 6 ∧ (∀ σ12 : Sg, σ12 = si σ9 (x0 + 3) x2.toNatClampNeg (gi σ9 (x1 + 3) x2.toNatClampNeg) → (vp_in x2 6 ∧ (vp_in x2 6 ∧ (∀ σ15 : Sg, σ15 = si σ12 (x0 + 4) x2.toNatClampNeg (gi σ12 (x1 + 4) x2.toNatClampNeg) → (vp_in x2 6 ∧ (vp_in x2 6 ∧ (∀ σ18 : Sg, σ18 = si σ15 (x0 + 5) x2.toNatClampNeg (gi σ15 (x1 + 5) x2.toNatClampNeg) → (vp_in x2 6 ∧ (vp_in x2 6 ∧ (∀ σ21 : Sg, σ21 = si σ18 (x0 + 6) x2.toNatClampNeg (gi σ18 (x1 + 6) x2.toNatClampNeg) → (∀ v22 : Int32, v22 = x2 + 1 → PS M 42 [(0, .ref x0), (1, .ref x1), (2, .int v22)] [] σ21 (0, 0)))))))))))))))))))))) : PS M 42 [(0, .ref x0), (1, .ref x1), (2, .int x2)] [] σ (0, 0) := by
  refine P_iload_n C dX1_becomes_42 2 rfl ?_
  refine P_bipush C dX1_becomes_43 (v := (6 : Int32)) rfl ?_
  refine P_icmp_ge C dX1_becomes_45 (tgt := 126) (by decide) (fun q1 => ?_) (fun q1 => ?_)
  · have h := h.1 q1
    refine P_aload_n C dX1_becomes_126 1 rfl ?_
    refine P_getS C (e := (x1 + 7)) fa_X1_becomes_40 (kdC_0 hx1) (d := 7) rfl (fxl (fxC_0 hx1)) rfl dX1_becomes_127 ?_
    refine P_iconst C dX1_becomes_130 (v := (0 : Int32)) rfl ?_
    refine P_aload_n C dX1_becomes_131 0 rfl ?_
    refine P_getS C (e := (x0 + 7)) fa_X1_becomes_40 (kdC_0 hx0) (d := 7) rfl (fxl (fxC_0 hx0)) rfl dX1_becomes_132 ?_
    refine P_iconst C dX1_becomes_135 (v := (0 : Int32)) rfl ?_
    refine P_aload_n C dX1_becomes_136 0 rfl ?_
    refine P_getS C (e := (x0 + 7)) fa_X1_becomes_40 (kdC_0 hx0) (d := 7) rfl (fxl (fxC_0 hx0)) rfl dX1_becomes_137 ?_
    refine P_alen C (kdC_7 hx0) (by decide) (fxl (fxC_7 hx0)) (v := (24 : Int32)) rfl dX1_becomes_140 ?_
    obtain ⟨⟨cq1, cq2, cq3, cq4, cq5⟩, h⟩ := h
    refine P_copyi C kc_X1_becomes_74 (kdC_7 hx1) (fxl (fxC_7 hx1)) (kdC_7 hx0) (fxl (fxC_7 hx0)) cq1 cq2 cq3 cq4 cq5 (by decide) (Nat.le_of_ble_eq_true rfl) dX1_becomes_141 ?_
    refine P_nm (fun σ2 eσ2 => ?_)
    have h := h σ2 eσ2
    exact P_vret C dX1_becomes_144 h
  · have h := h.2 q1
    refine P_aload_n C dX1_becomes_48 0 rfl ?_
    refine P_getS C (e := (x0 + 1)) fa_X1_becomes_11 (kdC_0 hx0) (d := 1) rfl (fxl (fxC_0 hx0)) rfl dX1_becomes_49 ?_
    refine P_iload_n C dX1_becomes_52 2 rfl ?_
    refine P_aload_n C dX1_becomes_53 1 rfl ?_
    refine P_getS C (e := (x1 + 1)) fa_X1_becomes_11 (kdC_0 hx1) (d := 1) rfl (fxl (fxC_0 hx1)) rfl dX1_becomes_54 ?_
    refine P_iload_n C dX1_becomes_57 2 rfl ?_
    obtain ⟨hv3, hv4, hμ6, h⟩ := h
    refine P_mcopy C (kdC_1 hx1) (fxl (fxC_1 hx1)) hv3 (kdC_1 hx0) (fxl (fxC_1 hx0)) hv4 hμ6 dX1_becomes_58 dX1_becomes_59 ?_
    refine P_nm (fun σ5 eσ5 => ?_)
    have h := h σ5 eσ5
    refine P_aload_n C dX1_becomes_60 0 rfl ?_
    refine P_getS C (e := (x0 + 2)) fa_X1_becomes_21 (kdC_0 hx0) (d := 2) rfl (fxl (fxC_0 hx0)) rfl dX1_becomes_61 ?_
    refine P_iload_n C dX1_becomes_64 2 rfl ?_
    refine P_aload_n C dX1_becomes_65 1 rfl ?_
    refine P_getS C (e := (x1 + 2)) fa_X1_becomes_21 (kdC_0 hx1) (d := 2) rfl (fxl (fxC_0 hx1)) rfl dX1_becomes_66 ?_
    refine P_iload_n C dX1_becomes_69 2 rfl ?_
    obtain ⟨hv7, h⟩ := h
    refine P_iald C (kdC_2 hx1) (fxl (fxC_2 hx1)) hv7 dX1_becomes_70 ?_
    obtain ⟨hv8, h⟩ := h
    refine P_iast C (kdC_2 hx0) (fxl (fxC_2 hx0)) hv8 dX1_becomes_71 ?_
    refine P_nm (fun σ9 eσ9 => ?_)
    have h := h σ9 eσ9
    refine P_aload_n C dX1_becomes_72 0 rfl ?_
    refine P_getS C (e := (x0 + 3)) fa_X1_becomes_28 (kdC_0 hx0) (d := 3) rfl (fxl (fxC_0 hx0)) rfl dX1_becomes_73 ?_
    refine P_iload_n C dX1_becomes_76 2 rfl ?_
    refine P_aload_n C dX1_becomes_77 1 rfl ?_
    refine P_getS C (e := (x1 + 3)) fa_X1_becomes_28 (kdC_0 hx1) (d := 3) rfl (fxl (fxC_0 hx1)) rfl dX1_becomes_78 ?_
    refine P_iload_n C dX1_becomes_81 2 rfl ?_
    obtain ⟨hv10, h⟩ := h
    refine P_iald C (kdC_3 hx1) (fxl (fxC_3 hx1)) hv10 dX1_becomes_82 ?_
    obtain ⟨hv11, h⟩ := h
    refine P_iast C (kdC_3 hx0) (fxl (fxC_3 hx0)) hv11 dX1_becomes_83 ?_
    refine P_nm (fun σ12 eσ12 => ?_)
    have h := h σ12 eσ12
    refine P_aload_n C dX1_becomes_84 0 rfl ?_
    refine P_getS C (e := (x0 + 4)) fa_X1_becomes_31 (kdC_0 hx0) (d := 4) rfl (fxl (fxC_0 hx0)) rfl dX1_becomes_85 ?_
    refine P_iload_n C dX1_becomes_88 2 rfl ?_
    refine P_aload_n C dX1_becomes_89 1 rfl ?_
    refine P_getS C (e := (x1 + 4)) fa_X1_becomes_31 (kdC_0 hx1) (d := 4) rfl (fxl (fxC_0 hx1)) rfl dX1_becomes_90 ?_
    refine P_iload_n C dX1_becomes_93 2 rfl ?_
    obtain ⟨hv13, h⟩ := h
    refine P_iald C (kdC_4 hx1) (fxl (fxC_4 hx1)) hv13 dX1_becomes_94 ?_
    obtain ⟨hv14, h⟩ := h
    refine P_iast C (kdC_4 hx0) (fxl (fxC_4 hx0)) hv14 dX1_becomes_95 ?_
    refine P_nm (fun σ15 eσ15 => ?_)
    have h := h σ15 eσ15
    refine P_aload_n C dX1_becomes_96 0 rfl ?_
    refine P_getS C (e := (x0 + 5)) fa_X1_becomes_34 (kdC_0 hx0) (d := 5) rfl (fxl (fxC_0 hx0)) rfl dX1_becomes_97 ?_
    refine P_iload_n C dX1_becomes_100 2 rfl ?_
    refine P_aload_n C dX1_becomes_101 1 rfl ?_
    refine P_getS C (e := (x1 + 5)) fa_X1_becomes_34 (kdC_0 hx1) (d := 5) rfl (fxl (fxC_0 hx1)) rfl dX1_becomes_102 ?_
    refine P_iload_n C dX1_becomes_105 2 rfl ?_
    obtain ⟨hv16, h⟩ := h
    refine P_iald C (kdC_5 hx1) (fxl (fxC_5 hx1)) hv16 dX1_becomes_106 ?_
    obtain ⟨hv17, h⟩ := h
    refine P_iast C (kdC_5 hx0) (fxl (fxC_5 hx0)) hv17 dX1_becomes_107 ?_
    refine P_nm (fun σ18 eσ18 => ?_)
    have h := h σ18 eσ18
    refine P_aload_n C dX1_becomes_108 0 rfl ?_
    refine P_getS C (e := (x0 + 6)) fa_X1_becomes_37 (kdC_0 hx0) (d := 6) rfl (fxl (fxC_0 hx0)) rfl dX1_becomes_109 ?_
    refine P_iload_n C dX1_becomes_112 2 rfl ?_
    refine P_aload_n C dX1_becomes_113 1 rfl ?_
    refine P_getS C (e := (x1 + 6)) fa_X1_becomes_37 (kdC_0 hx1) (d := 6) rfl (fxl (fxC_0 hx1)) rfl dX1_becomes_114 ?_
    refine P_iload_n C dX1_becomes_117 2 rfl ?_
    obtain ⟨hv19, h⟩ := h
    refine P_iald C (kdC_6 hx1) (fxl (fxC_6 hx1)) hv19 dX1_becomes_118 ?_
    obtain ⟨hv20, h⟩ := h
    refine P_iast C (kdC_6 hx0) (fxl (fxC_6 hx0)) hv20 dX1_becomes_119 ?_
    refine P_nm (fun σ21 eσ21 => ?_)
    have h := h σ21 eσ21
    obtain ⟨v22, ev22⟩ : ∃ v : Int32, v = x2 + 1 := ⟨_, rfl⟩
    have h := h v22 ev22
    refine P_iinc (v := v22) C dX1_becomes_120 2 rfl (by rw [ev22]; rfl) (by rw [hN]; decide) rfl ?_
    refine P_goto C dX1_becomes_123 (tgt := 42) (by decide) ?_
    exact P_sub [1, 2, 0] rfl h
theorem fa_X1_comes_84 : FA RX1 wsX1_comes 84 4 1 "NineMowers$Mower" := by
  show _ ∧ _ ∧ _ ∧ _
  exact ⟨by decide, fun _ h => List.mem_cons_of_mem _ (List.mem_append_left _ (List.mem_append_left _ (List.mem_append_left _ (List.mem_append_left _ (List.mem_append_left _ (List.mem_append_right _ h)))))), List.mem_of_getElem? (i := 1) rfl, Or.inl rfl⟩
theorem fa_X1_comes_11 : FA RX1 wsX1_comes 11 1 0 "NineMowers$Course" := by
  show _ ∧ _ ∧ _ ∧ _
  exact ⟨by decide, fun _ h => List.mem_cons_of_mem _ (List.mem_append_right _ h), List.mem_of_getElem? (i := 2) rfl, Or.inl rfl⟩
theorem fa_X1_comes_31 : FA RX1 wsX1_comes 31 1 5 "NineMowers$Course" := by
  show _ ∧ _ ∧ _ ∧ _
  exact ⟨by decide, fun _ h => List.mem_cons_of_mem _ (List.mem_append_right _ h), List.mem_of_getElem? (i := 3) rfl, Or.inl rfl⟩
theorem fa_X1_comes_21 : FA RX1 wsX1_comes 21 1 2 "NineMowers$Course" := by
  show _ ∧ _ ∧ _ ∧ _
  exact ⟨by decide, fun _ h => List.mem_cons_of_mem _ (List.mem_append_right _ h), List.mem_of_getElem? (i := 4) rfl, Or.inl rfl⟩
theorem fa_X1_comes_17 : FA RX1 wsX1_comes 17 1 1 "NineMowers$Course" := by
  show _ ∧ _ ∧ _ ∧ _
  exact ⟨by decide, fun _ h => List.mem_cons_of_mem _ (List.mem_append_right _ h), List.mem_of_getElem? (i := 5) rfl, Or.inl rfl⟩
theorem pa_X1_comes_17 : PA RX1 wsX1_comes 17 1 1 "NineMowers$Course" .int := by
  show _ ∧ _ ∧ _ ∧ _ ∧ _ ∧ _ ∧ _ ∧ _
  exact ⟨by decide, fun _ h => List.mem_cons_of_mem _ (List.mem_append_right _ h), List.mem_of_getElem? (i := 5) rfl, rfl, rfl, by decide +kernel, ⟨tyX1, tyX1_ok⟩, nmX1⟩
theorem pa_X1_comes_25 : PA RX1 wsX1_comes 25 1 3 "NineMowers$Course" .int := by
  show _ ∧ _ ∧ _ ∧ _ ∧ _ ∧ _ ∧ _ ∧ _
  exact ⟨by decide, fun _ h => List.mem_cons_of_mem _ (List.mem_append_right _ h), List.mem_of_getElem? (i := 6) rfl, rfl, rfl, by decide +kernel, ⟨tyX1, tyX1_ok⟩, nmX1⟩
noncomputable def K_X1_comes (l : Launch) (V : Vx) (c0 : Nat) (a1 : Nat) (σ : Sg) (Qk : Int32 → Sg → Prop) : Prop := Ka l V yX1_comes wsX1_comes (rmz 0) 0 0 [.ref c0, .ref a1] σ (QI V Qk)
theorem e_X1_comes {l : Launch} {V : Vx} {c0 : Nat} {a1 : Nat} {σ : Sg} {Qk : Int32 → Sg → Prop} (h : ∀ M : Mx, mL M = l → mV M = V → mN M = 3 → Cx M cX1_comes (some .int) RX1 wsX1_comes (rmz 0) 0 0 (QI (mV M) Qk) → PS M 0 [(0, .ref c0), (1, .ref a1)] [] σ (0, 0)) : K_X1_comes l V c0 a1 σ Qk :=
  Ka_of (by decide +kernel) rfl rfl (Nat.le_of_ble_eq_true rfl) (fun M h1 h2 h3 C => h M h1 h2 h3 (by rw [h2]; exact C))
set_option maxRecDepth 100000 in
set_option maxHeartbeats 4000000 in
theorem s_X1_comes_0 {M : Mx} {Qk : Int32 → Sg → Prop} (C : Cx M cX1_comes (some .int) RX1 wsX1_comes (rmz 0) 0 0 (QI (mV M) Qk)) (hN : mN M = 3) {c0 : Nat} {a1 : Nat} (hc0 : isC c0) {ci1 : Nat} (sa1 : isMc ci1) (ha1 : kd a1 = (10 + ci1, 0)) (la1 : a1 ∈ ids (mV M)) {σ : Sg} (h : (∀ v1 : Int32, v1 = gi σ a1 1 → (vp_in v1 6 ∧ (∀ σ3 : Sg, σ3 = sr σ (c0 + 1) v1.toNatClampNeg (some a1) → (vp_in v1 6 ∧ (∀ σ5 : Sg, σ5 = si σ3 (c0 + 4) v1.toNatClampNeg (10 : Int32) → (vp_in (gi σ5 c0 1) 6 ∧ (∀ σ7 : Sg, σ7 = si σ5 (c0 + 2) (gi σ5 c0 1).toNatClampNeg v1 → (∀ σ8 : Sg, σ8 = si σ7 c0 1 ((gi σ7 c0 1) + (1 : Int32)) → (∀ σ9 : Sg, σ9 = si σ8 c0 3 (gi σ8 c0 1) → Qk v1 σ9)))))))))) : PS M 0 [(0, .ref c0), (1, .ref a1)] [] σ (0, 0) := by
  refine P_aload_n C dX1_comes_0 1 rfl ?_
  refine P_getM C fa_X1_comes_84 (by decide) sa1 ha1 la1 dX1_comes_1 ?_
  refine P_nmi (fun v1 ev1 => ?_)
  have h := h v1 ev1
  refine P_istore_n C dX1_comes_4 (by rw [hN]; decide) rfl ?_
  refine P_aload_n C dX1_comes_5 1 rfl ?_
  refine P_getS C (e := (c0 + 1)) fa_X1_comes_11 (kdC_0 hc0) (d := 1) rfl (fxl (fxC_0 hc0)) rfl dX1_comes_6 ?_
  refine P_iload_n C dX1_comes_9 0 rfl ?_
  refine P_aload_n C dX1_comes_10 2 rfl ?_
  obtain ⟨hv2, h⟩ := h
  refine P_astM C (kdC_1 hc0) (fxl (fxC_1 hc0)) hv2 sa1 ha1 la1 dX1_comes_11 ?_
  refine P_nm (fun σ3 eσ3 => ?_)
  have h := h σ3 eσ3
  refine P_aload_n C dX1_comes_12 1 rfl ?_
  refine P_getS C (e := (c0 + 4)) fa_X1_comes_31 (kdC_0 hc0) (d := 4) rfl (fxl (fxC_0 hc0)) rfl dX1_comes_13 ?_
  refine P_iload_n C dX1_comes_16 0 rfl ?_
  refine P_bipush C dX1_comes_17 (v := (10 : Int32)) rfl ?_
  obtain ⟨hv4, h⟩ := h
  refine P_iast C (kdC_4 hc0) (fxl (fxC_4 hc0)) hv4 dX1_comes_19 ?_
  refine P_nm (fun σ5 eσ5 => ?_)
  have h := h σ5 eσ5
  refine P_aload_n C dX1_comes_20 1 rfl ?_
  refine P_getS C (e := (c0 + 2)) fa_X1_comes_21 (kdC_0 hc0) (d := 2) rfl (fxl (fxC_0 hc0)) rfl dX1_comes_21 ?_
  refine P_aload_n C dX1_comes_24 1 rfl ?_
  refine P_getI C fa_X1_comes_17 (kdC_0 hc0) rfl (fxl (fxC_0 hc0)) dX1_comes_25 ?_
  refine P_iload_n C dX1_comes_28 0 rfl ?_
  obtain ⟨hv6, h⟩ := h
  refine P_iast C (kdC_2 hc0) (fxl (fxC_2 hc0)) hv6 dX1_comes_29 ?_
  refine P_nm (fun σ7 eσ7 => ?_)
  have h := h σ7 eσ7
  refine P_aload_n C dX1_comes_30 1 rfl ?_
  refine P_dup C dX1_comes_31 rfl ?_
  refine P_getI C fa_X1_comes_17 (kdC_0 hc0) rfl (fxl (fxC_0 hc0)) dX1_comes_32 ?_
  refine P_iconst C dX1_comes_35 (v := (1 : Int32)) rfl ?_
  refine P_iadd C dX1_comes_36 ?_
  refine P_putI C pa_X1_comes_17 (kdC_0 hc0) rfl (fxl (fxC_0 hc0)) dX1_comes_37 ?_
  refine P_nm (fun σ8 eσ8 => ?_)
  have h := h σ8 eσ8
  refine P_aload_n C dX1_comes_40 1 rfl ?_
  refine P_aload_n C dX1_comes_41 1 rfl ?_
  refine P_getI C fa_X1_comes_17 (kdC_0 hc0) rfl (fxl (fxC_0 hc0)) dX1_comes_42 ?_
  refine P_putI C pa_X1_comes_25 (kdC_0 hc0) rfl (fxl (fxC_0 hc0)) dX1_comes_45 ?_
  refine P_nm (fun σ9 eσ9 => ?_)
  have h := h σ9 eσ9
  refine P_iload_n C dX1_comes_48 0 rfl ?_
  exact P_iret C dX1_comes_49 h
theorem fa_X1_placeOf_25 : FA RX1 wsX1_placeOf 25 1 3 "NineMowers$Course" := by
  show _ ∧ _ ∧ _ ∧ _
  exact ⟨by decide, fun _ h => List.mem_cons_of_mem _ (List.mem_append_right _ h), List.mem_of_getElem? (i := 1) rfl, Or.inl rfl⟩
theorem fa_X1_placeOf_21 : FA RX1 wsX1_placeOf 21 1 2 "NineMowers$Course" := by
  show _ ∧ _ ∧ _ ∧ _
  exact ⟨by decide, fun _ h => List.mem_cons_of_mem _ (List.mem_append_right _ h), List.mem_of_getElem? (i := 2) rfl, Or.inl rfl⟩
noncomputable def K_X1_placeOf (l : Launch) (V : Vx) (c0 : Nat) (a1 : Int32) (σ : Sg) (Qk : Int32 → Sg → Prop) : Prop := Ka l V yX1_placeOf wsX1_placeOf (rmz 0) 0 0 [.ref c0, .int a1] σ (QI V Qk)
theorem e_X1_placeOf {l : Launch} {V : Vx} {c0 : Nat} {a1 : Int32} {σ : Sg} {Qk : Int32 → Sg → Prop} (h : ∀ M : Mx, mL M = l → mV M = V → mN M = 3 → Cx M cX1_placeOf (some .int) RX1 wsX1_placeOf (rmz 0) 0 0 (QI (mV M) Qk) → PS M 0 [(0, .ref c0), (1, .int a1)] [] σ (0, 0)) : K_X1_placeOf l V c0 a1 σ Qk :=
  Ka_of (by decide +kernel) rfl rfl (Nat.le_of_ble_eq_true rfl) (fun M h1 h2 h3 C => h M h1 h2 h3 (by rw [h2]; exact C))
set_option maxRecDepth 100000 in
set_option maxHeartbeats 4000000 in
theorem s_X1_placeOf_0 {M : Mx} {Qk : Int32 → Sg → Prop} (C : Cx M cX1_placeOf (some .int) RX1 wsX1_placeOf (rmz 0) 0 0 (QI (mV M) Qk)) (hN : mN M = 3) {c0 : Nat} {a1 : Int32} (hc0 : isC c0) {σ : Sg} (h : PS M 2 [(0, .ref c0), (1, .int a1), (2, .int (0 : Int32))] [] σ (0, 0)) : PS M 0 [(0, .ref c0), (1, .int a1)] [] σ (0, 0) := by
  refine P_iconst C dX1_placeOf_0 (v := (0 : Int32)) rfl ?_
  refine P_istore_n C dX1_placeOf_1 (by rw [hN]; decide) rfl ?_
  exact P_sub [1, 2, 0] rfl h
set_option maxRecDepth 100000 in
set_option maxHeartbeats 4000000 in
theorem s_X1_placeOf_2 {M : Mx} {Qk : Int32 → Sg → Prop} (C : Cx M cX1_placeOf (some .int) RX1 wsX1_placeOf (rmz 0) 0 0 (QI (mV M) Qk)) (hN : mN M = 3) {x0 : Nat} {x1 : Int32} {x2 : Int32} (hx0 : isC x0) {σ : Sg} (h : ((((gi σ x0 3) - (1 : Int32)) ≤ x2 → Qk x2 σ) ∧ (¬ ((gi σ x0 3) - (1 : Int32)) ≤ x2 → (vp_in x2 6 ∧ (((gi σ (x0 + 2) x2.toNatClampNeg) = x1 → Qk x2 σ) ∧ (¬ (gi σ (x0 + 2) x2.toNatClampNeg) = x1 → (∀ v4 : Int32, v4 = x2 + 1 → PS M 2 [(0, .ref x0), (1, .int x1), (2, .int v4)] [] σ (0, 0)))))))) : PS M 2 [(0, .ref x0), (1, .int x1), (2, .int x2)] [] σ (0, 0) := by
  refine P_iload_n C dX1_placeOf_2 2 rfl ?_
  refine P_aload_n C dX1_placeOf_3 0 rfl ?_
  refine P_getI C fa_X1_placeOf_25 (kdC_0 hx0) rfl (fxl (fxC_0 hx0)) dX1_placeOf_4 ?_
  refine P_iconst C dX1_placeOf_7 (v := (1 : Int32)) rfl ?_
  refine P_isub C dX1_placeOf_8 ?_
  refine P_icmp_ge C dX1_placeOf_9 (tgt := 28) (by decide) (fun q1 => ?_) (fun q1 => ?_)
  · have h := h.1 q1
    refine P_iload_n C dX1_placeOf_28 2 rfl ?_
    exact P_iret C dX1_placeOf_29 h
  · have h := h.2 q1
    refine P_aload_n C dX1_placeOf_12 0 rfl ?_
    refine P_getS C (e := (x0 + 2)) fa_X1_placeOf_21 (kdC_0 hx0) (d := 2) rfl (fxl (fxC_0 hx0)) rfl dX1_placeOf_13 ?_
    refine P_iload_n C dX1_placeOf_16 2 rfl ?_
    obtain ⟨hv2, h⟩ := h
    refine P_iald C (kdC_2 hx0) (fxl (fxC_2 hx0)) hv2 dX1_placeOf_17 ?_
    refine P_iload_n C dX1_placeOf_18 1 rfl ?_
    refine P_icmp_eq C dX1_placeOf_19 (tgt := 28) (by decide) (fun q3 => ?_) (fun q3 => ?_)
    · have h := h.1 q3
      refine P_iload_n C dX1_placeOf_28 2 rfl ?_
      exact P_iret C dX1_placeOf_29 h
    · have h := h.2 q3
      obtain ⟨v4, ev4⟩ : ∃ v : Int32, v = x2 + 1 := ⟨_, rfl⟩
      have h := h v4 ev4
      refine P_iinc (v := v4) C dX1_placeOf_22 2 rfl (by rw [ev4]; rfl) (by rw [hN]; decide) rfl ?_
      refine P_goto C dX1_placeOf_25 (tgt := 2) (by decide) ?_
      exact P_sub [1, 2, 0] rfl h
theorem kv_X1_moves_X1_placeOf : KV RX1 wsX1_moves (rmz 1) 87 RX1 yX1_placeOf wsX1_placeOf (rmz 0) 1 := ⟨_, _, _, _, gX1_moves_X1_placeOf, rfl, by decide +kernel, by decide⟩
theorem fa_X1_moves_21 : FA RX1 wsX1_moves 21 1 2 "NineMowers$Course" := by
  show _ ∧ _ ∧ _ ∧ _
  exact ⟨by decide, fun _ h => List.mem_cons_of_mem _ (List.mem_append_right _ h), List.mem_of_getElem? (i := 1) rfl, Or.inl rfl⟩
noncomputable def K_X1_moves (l : Launch) (V : Vx) (c0 : Nat) (a1 : Int32) (a2 : Int32) (σ : Sg) (Qk : Int32 → Sg → Prop) : Prop := Ka l V yX1_moves wsX1_moves (rmz 1) 0 0 [.ref c0, .int a1, .int a2] σ (QI V Qk)
theorem e_X1_moves {l : Launch} {V : Vx} {c0 : Nat} {a1 : Int32} {a2 : Int32} {σ : Sg} {Qk : Int32 → Sg → Prop} (h : ∀ M : Mx, mL M = l → mV M = V → mN M = 5 → Cx M cX1_moves (some .int) RX1 wsX1_moves (rmz 1) 0 0 (QI (mV M) Qk) → PS M 0 [(0, .ref c0), (1, .int a1), (2, .int a2)] [] σ (0, 0)) : K_X1_moves l V c0 a1 a2 σ Qk :=
  Ka_of (by decide +kernel) rfl rfl (Nat.le_of_ble_eq_true rfl) (fun M h1 h2 h3 C => h M h1 h2 h3 (by rw [h2]; exact C))
set_option maxRecDepth 100000 in
set_option maxHeartbeats 4000000 in
theorem s_X1_moves_0 {M : Mx} {Qk : Int32 → Sg → Prop} (C : Cx M cX1_moves (some .int) RX1 wsX1_moves (rmz 1) 0 0 (QI (mV M) Qk)) (hN : mN M = 5) {c0 : Nat} {a1 : Int32} {a2 : Int32} (hc0 : isC c0) {σ : Sg} (h : K_X1_placeOf (mL M) (mV M) c0 a1 σ (fun r2 σ1 => PS M 9 [(0, .ref c0), (1, .int a1), (2, .int a2), (3, .int r2), (4, .int r2)] [] σ1 (0, 0))) : PS M 0 [(0, .ref c0), (1, .int a1), (2, .int a2)] [] σ (0, 0) := by
  refine P_aload_n C dX1_moves_0 0 rfl ?_
  refine P_iload_n C dX1_moves_1 1 rfl ?_
  refine P_ci (R_v (ci := 1) C kv_X1_moves_X1_placeOf (As := [.int a1]) rfl (kdC_0 hc0) rfl (fxl (fxC_0 hc0)) (Nat.le_of_ble_eq_true rfl) dX1_moves_2 ⟨Nat.le_refl _, Nat.le_refl _⟩ h) (fun r2 σ1 h => ?_)
  refine P_istore_n C dX1_moves_5 (by rw [hN]; decide) rfl ?_
  refine P_iload_n C dX1_moves_6 0 rfl ?_
  refine P_istore C dX1_moves_7 (by rw [hN]; decide) rfl ?_
  exact P_sub [2, 3, 4, 1, 0] rfl h
set_option maxRecDepth 100000 in
set_option maxHeartbeats 4000000 in
theorem s_X1_moves_9 {M : Mx} {Qk : Int32 → Sg → Prop} (C : Cx M cX1_moves (some .int) RX1 wsX1_moves (rmz 1) 0 0 (QI (mV M) Qk)) (hN : mN M = 5) {x0 : Nat} {x1 : Int32} {x2 : Int32} {x3 : Int32} {x4 : Int32} (hx0 : isC x0) {σ : Sg} (h : ((x4 ≤ x2 → PS M 40 [(0, .ref x0), (1, .int x1), (2, .int x2), (3, .int x3), (4, .int x3)] [] σ (0, 0)) ∧ (¬ x4 ≤ x2 → (vp_in (x4 - (1 : Int32)) 6 ∧ (vp_in x4 6 ∧ (∀ σ4 : Sg, σ4 = si σ (x0 + 2) x4.toNatClampNeg (gi σ (x0 + 2) (x4 - (1 : Int32)).toNatClampNeg) → (∀ v5 : Int32, v5 = x4 - 1 → PS M 9 [(0, .ref x0), (1, .int x1), (2, .int x2), (3, .int x3), (4, .int v5)] [] σ4 (0, 0)))))))) : PS M 9 [(0, .ref x0), (1, .int x1), (2, .int x2), (3, .int x3), (4, .int x4)] [] σ (0, 0) := by
  refine P_iload C dX1_moves_9 4 rfl ?_
  refine P_iload_n C dX1_moves_11 2 rfl ?_
  refine P_icmp_le C dX1_moves_12 (tgt := 37) (by decide) (fun q1 => ?_) (fun q1 => ?_)
  · have h := h.1 q1
    refine P_iload_n C dX1_moves_37 3 rfl ?_
    refine P_istore C dX1_moves_38 (by rw [hN]; decide) rfl ?_
    exact P_sub [1, 2, 3, 4, 0] rfl h
  · have h := h.2 q1
    refine P_aload_n C dX1_moves_15 0 rfl ?_
    refine P_getS C (e := (x0 + 2)) fa_X1_moves_21 (kdC_0 hx0) (d := 2) rfl (fxl (fxC_0 hx0)) rfl dX1_moves_16 ?_
    refine P_iload C dX1_moves_19 4 rfl ?_
    refine P_aload_n C dX1_moves_21 0 rfl ?_
    refine P_getS C (e := (x0 + 2)) fa_X1_moves_21 (kdC_0 hx0) (d := 2) rfl (fxl (fxC_0 hx0)) rfl dX1_moves_22 ?_
    refine P_iload C dX1_moves_25 4 rfl ?_
    refine P_iconst C dX1_moves_27 (v := (1 : Int32)) rfl ?_
    refine P_isub C dX1_moves_28 ?_
    obtain ⟨hv2, h⟩ := h
    refine P_iald C (kdC_2 hx0) (fxl (fxC_2 hx0)) hv2 dX1_moves_29 ?_
    obtain ⟨hv3, h⟩ := h
    refine P_iast C (kdC_2 hx0) (fxl (fxC_2 hx0)) hv3 dX1_moves_30 ?_
    refine P_nm (fun σ4 eσ4 => ?_)
    have h := h σ4 eσ4
    obtain ⟨v5, ev5⟩ : ∃ v : Int32, v = x4 - 1 := ⟨_, rfl⟩
    have h := h v5 ev5
    refine P_iinc (v := v5) C dX1_moves_31 4 rfl (by rw [ev5]; exact sub_one _) (by rw [hN]; decide) rfl ?_
    refine P_goto C dX1_moves_34 (tgt := 9) (by decide) ?_
    exact P_sub [1, 2, 3, 4, 0] rfl h
set_option maxRecDepth 100000 in
set_option maxHeartbeats 4000000 in
theorem s_X1_moves_40 {M : Mx} {Qk : Int32 → Sg → Prop} (C : Cx M cX1_moves (some .int) RX1 wsX1_moves (rmz 1) 0 0 (QI (mV M) Qk)) (hN : mN M = 5) {x0 : Nat} {x1 : Int32} {x2 : Int32} {x3 : Int32} {x4 : Int32} (hx0 : isC x0) {σ : Sg} (h : ((x2 ≤ x4 → (vp_in x2 6 ∧ (∀ σ3 : Sg, σ3 = si σ (x0 + 2) x2.toNatClampNeg x1 → Qk x3 σ3))) ∧ (¬ x2 ≤ x4 → (vp_in (x4 + (1 : Int32)) 6 ∧ (vp_in x4 6 ∧ (∀ σ6 : Sg, σ6 = si σ (x0 + 2) x4.toNatClampNeg (gi σ (x0 + 2) (x4 + (1 : Int32)).toNatClampNeg) → (∀ v7 : Int32, v7 = x4 + 1 → PS M 40 [(0, .ref x0), (1, .int x1), (2, .int x2), (3, .int x3), (4, .int v7)] [] σ6 (0, 0)))))))) : PS M 40 [(0, .ref x0), (1, .int x1), (2, .int x2), (3, .int x3), (4, .int x4)] [] σ (0, 0) := by
  refine P_iload C dX1_moves_40 4 rfl ?_
  refine P_iload_n C dX1_moves_42 2 rfl ?_
  refine P_icmp_ge C dX1_moves_43 (tgt := 68) (by decide) (fun q1 => ?_) (fun q1 => ?_)
  · have h := h.1 q1
    refine P_aload_n C dX1_moves_68 0 rfl ?_
    refine P_getS C (e := (x0 + 2)) fa_X1_moves_21 (kdC_0 hx0) (d := 2) rfl (fxl (fxC_0 hx0)) rfl dX1_moves_69 ?_
    refine P_iload_n C dX1_moves_72 2 rfl ?_
    refine P_iload_n C dX1_moves_73 1 rfl ?_
    obtain ⟨hv2, h⟩ := h
    refine P_iast C (kdC_2 hx0) (fxl (fxC_2 hx0)) hv2 dX1_moves_74 ?_
    refine P_nm (fun σ3 eσ3 => ?_)
    have h := h σ3 eσ3
    refine P_iload_n C dX1_moves_75 3 rfl ?_
    exact P_iret C dX1_moves_76 h
  · have h := h.2 q1
    refine P_aload_n C dX1_moves_46 0 rfl ?_
    refine P_getS C (e := (x0 + 2)) fa_X1_moves_21 (kdC_0 hx0) (d := 2) rfl (fxl (fxC_0 hx0)) rfl dX1_moves_47 ?_
    refine P_iload C dX1_moves_50 4 rfl ?_
    refine P_aload_n C dX1_moves_52 0 rfl ?_
    refine P_getS C (e := (x0 + 2)) fa_X1_moves_21 (kdC_0 hx0) (d := 2) rfl (fxl (fxC_0 hx0)) rfl dX1_moves_53 ?_
    refine P_iload C dX1_moves_56 4 rfl ?_
    refine P_iconst C dX1_moves_58 (v := (1 : Int32)) rfl ?_
    refine P_iadd C dX1_moves_59 ?_
    obtain ⟨hv4, h⟩ := h
    refine P_iald C (kdC_2 hx0) (fxl (fxC_2 hx0)) hv4 dX1_moves_60 ?_
    obtain ⟨hv5, h⟩ := h
    refine P_iast C (kdC_2 hx0) (fxl (fxC_2 hx0)) hv5 dX1_moves_61 ?_
    refine P_nm (fun σ6 eσ6 => ?_)
    have h := h σ6 eσ6
    obtain ⟨v7, ev7⟩ : ∃ v : Int32, v = x4 + 1 := ⟨_, rfl⟩
    have h := h v7 ev7
    refine P_iinc (v := v7) C dX1_moves_62 4 rfl (by rw [ev7]; rfl) (by rw [hN]; decide) rfl ?_
    refine P_goto C dX1_moves_65 (tgt := 40) (by decide) ?_
    exact P_sub [1, 2, 3, 4, 0] rfl h
theorem fa_X1_numbersOf_37 : FA RX1 wsX1_numbersOf 37 1 7 "NineMowers$Course" := by
  show _ ∧ _ ∧ _ ∧ _
  exact ⟨by decide, fun _ h => List.mem_cons_of_mem _ (List.mem_append_right _ h), List.mem_of_getElem? (i := 4) rfl, Or.inl rfl⟩
theorem fa_X1_numbersOf_28 : FA RX1 wsX1_numbersOf 28 1 4 "NineMowers$Course" := by
  show _ ∧ _ ∧ _ ∧ _
  exact ⟨by decide, fun _ h => List.mem_cons_of_mem _ (List.mem_append_right _ h), List.mem_of_getElem? (i := 1) rfl, Or.inl rfl⟩
theorem fa_X1_numbersOf_31 : FA RX1 wsX1_numbersOf 31 1 5 "NineMowers$Course" := by
  show _ ∧ _ ∧ _ ∧ _
  exact ⟨by decide, fun _ h => List.mem_cons_of_mem _ (List.mem_append_right _ h), List.mem_of_getElem? (i := 2) rfl, Or.inl rfl⟩
theorem fa_X1_numbersOf_34 : FA RX1 wsX1_numbersOf 34 1 6 "NineMowers$Course" := by
  show _ ∧ _ ∧ _ ∧ _
  exact ⟨by decide, fun _ h => List.mem_cons_of_mem _ (List.mem_append_right _ h), List.mem_of_getElem? (i := 3) rfl, Or.inl rfl⟩
noncomputable def K_X1_numbersOf (l : Launch) (V : Vx) (c0 : Nat) (a1 : Int32) (σ : Sg) (Qk : Nat → Sg → Prop) : Prop := Ka l V yX1_numbersOf wsX1_numbersOf (rmz 0) 0 0 [.ref c0, .int a1] σ (QR V Qk)
theorem e_X1_numbersOf {l : Launch} {V : Vx} {c0 : Nat} {a1 : Int32} {σ : Sg} {Qk : Nat → Sg → Prop} (h : ∀ M : Mx, mL M = l → mV M = V → mN M = 2 → Cx M cX1_numbersOf (some (.array .int)) RX1 wsX1_numbersOf (rmz 0) 0 0 (QR (mV M) Qk) → PS M 0 [(0, .ref c0), (1, .int a1)] [] σ (0, 0)) : K_X1_numbersOf l V c0 a1 σ Qk :=
  Ka_of (by decide +kernel) rfl rfl (Nat.le_of_ble_eq_true rfl) (fun M h1 h2 h3 C => h M h1 h2 h3 (by rw [h2]; exact C))
set_option maxRecDepth 100000 in
set_option maxHeartbeats 4000000 in
theorem s_X1_numbersOf_0 {M : Mx} {Qk : Nat → Sg → Prop} (C : Cx M cX1_numbersOf (some (.array .int)) RX1 wsX1_numbersOf (rmz 0) 0 0 (QR (mV M) Qk)) (hN : mN M = 2) {c0 : Nat} {a1 : Int32} (hc0 : isC c0) {σ : Sg} (h : ((a1.toInt < 0 ∨ 2 < a1.toInt → Qk (c0 + 6) σ) ∧ (a1.toInt = 0 → Qk (c0 + 3) σ) ∧ (a1.toInt = 1 → Qk (c0 + 4) σ) ∧ (a1.toInt = 2 → Qk (c0 + 5) σ))) : PS M 0 [(0, .ref c0), (1, .int a1)] [] σ (0, 0) := by
  refine P_iload_n C dX1_numbersOf_0 1 rfl ?_
  refine P_tsw C dX1_numbersOf_1 43 (by decide) (fun q1 => ?_) (by decide) (fun i off ho q1 => ?_)
  · have h := h.1 q1
    refine P_aload_n C dX1_numbersOf_43 0 rfl ?_
    refine P_getS C (e := (c0 + 6)) fa_X1_numbersOf_37 (kdC_0 hc0) (d := 6) rfl (fxl (fxC_0 hc0)) rfl dX1_numbersOf_44 ?_
    exact P_aret C (Or.inr ⟨_, rfl⟩) dX1_numbersOf_47 h
  · rcases i with _ | _ | _ | i
    · obtain rfl : (27 : Int) = off := Option.some.inj ho
      refine ⟨?_, by decide⟩
      show PS M 28 _ _ _ _
      have h := h.2.1 (by have q := q1; simp at q; omega)
      refine P_aload_n C dX1_numbersOf_28 0 rfl ?_
      refine P_getS C (e := (c0 + 3)) fa_X1_numbersOf_28 (kdC_0 hc0) (d := 3) rfl (fxl (fxC_0 hc0)) rfl dX1_numbersOf_29 ?_
      exact P_aret C (Or.inr ⟨_, rfl⟩) dX1_numbersOf_32 h
    · obtain rfl : (32 : Int) = off := Option.some.inj ho
      refine ⟨?_, by decide⟩
      show PS M 33 _ _ _ _
      have h := h.2.2.1 (by have q := q1; simp at q; omega)
      refine P_aload_n C dX1_numbersOf_33 0 rfl ?_
      refine P_getS C (e := (c0 + 4)) fa_X1_numbersOf_31 (kdC_0 hc0) (d := 4) rfl (fxl (fxC_0 hc0)) rfl dX1_numbersOf_34 ?_
      exact P_aret C (Or.inr ⟨_, rfl⟩) dX1_numbersOf_37 h
    · obtain rfl : (37 : Int) = off := Option.some.inj ho
      refine ⟨?_, by decide⟩
      show PS M 38 _ _ _ _
      have h := h.2.2.2 (by have q := q1; simp at q; omega)
      refine P_aload_n C dX1_numbersOf_38 0 rfl ?_
      refine P_getS C (e := (c0 + 5)) fa_X1_numbersOf_34 (kdC_0 hc0) (d := 5) rfl (fxl (fxC_0 hc0)) rfl dX1_numbersOf_39 ?_
      exact P_aret C (Or.inr ⟨_, rfl⟩) dX1_numbersOf_42 h
    · exact absurd (Array.getElem?_eq_some_iff.mp ho).1 (Nat.not_lt.mpr (by show 3 ≤ _; omega))
theorem fa_X1_gap_50 : FA RX1 wsX1_gap 50 1 11 "NineMowers$Course" := by
  show _ ∧ _ ∧ _ ∧ _
  exact ⟨by decide, fun _ h => List.mem_cons_of_mem _ (List.mem_append_left _ (List.mem_append_right _ h)), List.mem_of_getElem? (i := 1) rfl, Or.inl rfl⟩
theorem fa_X1_gap_46 : FA RX1 wsX1_gap 46 1 10 "NineMowers$Course" := by
  show _ ∧ _ ∧ _ ∧ _
  exact ⟨by decide, fun _ h => List.mem_cons_of_mem _ (List.mem_append_left _ (List.mem_append_right _ h)), List.mem_of_getElem? (i := 2) rfl, Or.inl rfl⟩
theorem fa_X1_gap_91 : FA RX1 wsX1_gap 91 2 0 "NineMowers$Field" := by
  show _ ∧ _ ∧ _ ∧ _
  exact ⟨by decide, fun _ h => List.mem_cons_of_mem _ (List.mem_append_right _ h), List.mem_of_getElem? (i := 3) rfl, Or.inl rfl⟩
noncomputable def K_X1_gap (l : Launch) (V : Vx) (c0 : Nat) (σ : Sg) (Qk : Int32 → Sg → Prop) : Prop := Ka l V yX1_gap wsX1_gap (rmz 0) 0 0 [.ref c0] σ (QI V Qk)
theorem e_X1_gap {l : Launch} {V : Vx} {c0 : Nat} {σ : Sg} {Qk : Int32 → Sg → Prop} (h : ∀ M : Mx, mL M = l → mV M = V → mN M = 1 → Cx M cX1_gap (some .int) RX1 wsX1_gap (rmz 0) 0 0 (QI (mV M) Qk) → PS M 0 [(0, .ref c0)] [] σ (0, 0)) : K_X1_gap l V c0 σ Qk :=
  Ka_of (by decide +kernel) rfl rfl (Nat.le_of_ble_eq_true rfl) (fun M h1 h2 h3 C => h M h1 h2 h3 (by rw [h2]; exact C))
set_option maxRecDepth 100000 in
set_option maxHeartbeats 4000000 in
theorem s_X1_gap_0 {M : Mx} {Qk : Int32 → Sg → Prop} (C : Cx M cX1_gap (some .int) RX1 wsX1_gap (rmz 0) 0 0 (QI (mV M) Qk)) (hN : mN M = 1) {c0 : Nat} (hc0 : isC c0) {σ : Sg} (h : (((gi σ c0 11) < 0 → (∃ f2 : Nat, gr σ c0 10 = some f2 ∧ kd f2 = (12, 0) ∧ f2 ∈ ids (mV M) ∧ Qk (gi σ f2 0) σ)) ∧ (¬ (gi σ c0 11) < 0 → Qk (gi σ c0 11) σ))) : PS M 0 [(0, .ref c0)] [] σ (0, 0) := by
  refine P_aload_n C dX1_gap_0 0 rfl ?_
  refine P_getI C fa_X1_gap_50 (kdC_0 hc0) rfl (fxl (fxC_0 hc0)) dX1_gap_1 ?_
  refine P_if_lt C dX1_gap_4 (tgt := 14) (by decide) (fun q1 => ?_) (fun q1 => ?_)
  · have h := h.1 q1
    refine P_aload_n C dX1_gap_14 0 rfl ?_
    obtain ⟨f2, hrf2, hf2, lf2, h⟩ := h
    refine P_getD C fa_X1_gap_46 (kdC_0 hc0) rfl (fxl (fxC_0 hc0)) hrf2 dX1_gap_15 ?_
    refine P_getI C fa_X1_gap_91 hf2 rfl lf2 dX1_gap_18 ?_
    exact P_iret C dX1_gap_21 h
  · have h := h.2 q1
    refine P_aload_n C dX1_gap_7 0 rfl ?_
    refine P_getI C fa_X1_gap_50 (kdC_0 hc0) rfl (fxl (fxC_0 hc0)) dX1_gap_8 ?_
    refine P_goto C dX1_gap_11 (tgt := 21) (by decide) ?_
    exact P_iret C dX1_gap_21 h
theorem fa_X1_roomAt_21 : FA RX1 wsX1_roomAt 21 1 2 "NineMowers$Course" := by
  show _ ∧ _ ∧ _ ∧ _
  exact ⟨by decide, fun _ h => List.mem_cons_of_mem _ (List.mem_append_left _ (List.mem_append_right _ h)), List.mem_of_getElem? (i := 1) rfl, Or.inl rfl⟩
theorem fa_X1_roomAt_28 : FA RX1 wsX1_roomAt 28 1 4 "NineMowers$Course" := by
  show _ ∧ _ ∧ _ ∧ _
  exact ⟨by decide, fun _ h => List.mem_cons_of_mem _ (List.mem_append_left _ (List.mem_append_right _ h)), List.mem_of_getElem? (i := 2) rfl, Or.inl rfl⟩
theorem fa_X1_roomAt_68 : FA RX1 wsX1_roomAt 68 1 15 "NineMowers$Course" := by
  show _ ∧ _ ∧ _ ∧ _
  exact ⟨by decide, fun _ h => List.mem_cons_of_mem _ (List.mem_append_left _ (List.mem_append_right _ h)), List.mem_of_getElem? (i := 3) rfl, Or.inl rfl⟩
theorem km_X1_roomAt_min : KM RX1 wsX1_roomAt 125 Lib.Math.min.name Lib.Math.min.code := ⟨List.mem_of_getElem? (i := 4) rfl, List.mem_of_getElem? (i := 5) rfl, List.mem_of_getElem? (i := 6) rfl, List.mem_of_getElem? (i := 7) rfl⟩
theorem kv_X1_roomAt_X1_gap : KV RX1 wsX1_roomAt (rmz 1) 109 RX1 yX1_gap wsX1_gap (rmz 0) 0 := ⟨_, _, _, _, gX1_roomAt_X1_gap, rfl, by decide +kernel, by decide⟩
theorem km_X1_roomAt_max : KM RX1 wsX1_roomAt 131 Lib.Math.max.name Lib.Math.max.code := ⟨List.mem_of_getElem? (i := 8) rfl, List.mem_of_getElem? (i := 9) rfl, List.mem_of_getElem? (i := 6) rfl, List.mem_of_getElem? (i := 10) rfl⟩
noncomputable def K_X1_roomAt (l : Launch) (V : Vx) (c0 : Nat) (a1 : Int32) (σ : Sg) (Qk : Int32 → Sg → Prop) : Prop := Ka l V yX1_roomAt wsX1_roomAt (rmz 1) 0 0 [.ref c0, .int a1] σ (QI V Qk)
theorem e_X1_roomAt {l : Launch} {V : Vx} {c0 : Nat} {a1 : Int32} {σ : Sg} {Qk : Int32 → Sg → Prop} (h : ∀ M : Mx, mL M = l → mV M = V → mN M = 4 → Cx M cX1_roomAt (some .int) RX1 wsX1_roomAt (rmz 1) 0 0 (QI (mV M) Qk) → PS M 0 [(0, .ref c0), (1, .int a1)] [] σ (0, 0)) : K_X1_roomAt l V c0 a1 σ Qk :=
  Ka_of (by decide +kernel) rfl rfl (Nat.le_of_ble_eq_true rfl) (fun M h1 h2 h3 C => h M h1 h2 h3 (by rw [h2]; exact C))
set_option maxRecDepth 100000 in
set_option maxHeartbeats 4000000 in
theorem s_X1_roomAt_0 {M : Mx} {Qk : Int32 → Sg → Prop} (C : Cx M cX1_roomAt (some .int) RX1 wsX1_roomAt (rmz 1) 0 0 (QI (mV M) Qk)) (hN : mN M = 4) {c0 : Nat} {a1 : Int32} (hc0 : isC c0) {σ : Sg} (h : (vp_in a1 6 ∧ (∀ v2 : Int32, v2 = gi σ (c0 + 2) a1.toNatClampNeg → (vp_in v2 6 ∧ (vp_in a1 6 ∧ (∀ v5 : Int32, v5 = jmin ((gi σ (c0 + 3) v2.toNatClampNeg) + (gi σ (c0 + 14) a1.toNatClampNeg)) (9999 : Int32) → ((a1 ≤ 0 → PS M 54 [(0, .ref c0), (2, .int v2), (3, .int v5)] [] σ (0, 0)) ∧ (¬ a1 ≤ 0 → (vp_in (a1 - (1 : Int32)) 6 ∧ (vp_in (gi σ (c0 + 2) (a1 - (1 : Int32)).toNatClampNeg) 6 ∧ K_X1_gap (mL M) (mV M) c0 σ (fun r10 σ9 => (∀ v11 : Int32, v11 = jmin v5 ((gi σ (c0 + 3) (gi σ (c0 + 2) (a1 - (1 : Int32)).toNatClampNeg).toNatClampNeg) - r10) → PS M 54 [(0, .ref c0), (2, .int v2), (3, .int v11)] [] σ9 (0, 0))))))))))))) : PS M 0 [(0, .ref c0), (1, .int a1)] [] σ (0, 0) := by
  refine P_aload_n C dX1_roomAt_0 0 rfl ?_
  refine P_getS C (e := (c0 + 2)) fa_X1_roomAt_21 (kdC_0 hc0) (d := 2) rfl (fxl (fxC_0 hc0)) rfl dX1_roomAt_1 ?_
  refine P_iload_n C dX1_roomAt_4 1 rfl ?_
  obtain ⟨hv1, h⟩ := h
  refine P_iald C (kdC_2 hc0) (fxl (fxC_2 hc0)) hv1 dX1_roomAt_5 ?_
  refine P_nmi (fun v2 ev2 => ?_)
  have h := h v2 ev2
  refine P_istore_n C dX1_roomAt_6 (by rw [hN]; decide) rfl ?_
  refine P_aload_n C dX1_roomAt_7 1 rfl ?_
  refine P_getS C (e := (c0 + 3)) fa_X1_roomAt_28 (kdC_0 hc0) (d := 3) rfl (fxl (fxC_0 hc0)) rfl dX1_roomAt_8 ?_
  refine P_iload_n C dX1_roomAt_11 0 rfl ?_
  obtain ⟨hv3, h⟩ := h
  refine P_iald C (kdC_3 hc0) (fxl (fxC_3 hc0)) hv3 dX1_roomAt_12 ?_
  refine P_aload_n C dX1_roomAt_13 1 rfl ?_
  refine P_getS C (e := (c0 + 14)) fa_X1_roomAt_68 (kdC_0 hc0) (d := 14) rfl (fxl (fxC_0 hc0)) rfl dX1_roomAt_14 ?_
  refine P_iload_n C dX1_roomAt_17 2 rfl ?_
  obtain ⟨hv4, h⟩ := h
  refine P_iald C (kdC_14 hc0) (fxl (fxC_14 hc0)) hv4 dX1_roomAt_18 ?_
  refine P_iadd C dX1_roomAt_19 ?_
  refine P_sipush C dX1_roomAt_20 (v := (9999 : Int32)) rfl ?_
  refine P_min C km_X1_roomAt_min (by decide) (Nat.le_of_ble_eq_true rfl) ⟨Nat.le_refl _, Nat.le_refl _⟩ dX1_roomAt_23 ?_
  refine P_nmi (fun v5 ev5 => ?_)
  have h := h v5 ev5
  refine P_istore_n C dX1_roomAt_26 (by rw [hN]; decide) rfl ?_
  refine P_iload_n C dX1_roomAt_27 3 rfl ?_
  refine P_if_le C dX1_roomAt_28 (tgt := 54) (by decide) (fun q6 => ?_) (fun q6 => ?_)
  · have h := h.1 q6
    exact P_sub [2, 1, 0] rfl h
  · have h := h.2 q6
    refine P_iload_n C dX1_roomAt_31 0 rfl ?_
    refine P_aload_n C dX1_roomAt_32 2 rfl ?_
    refine P_getS C (e := (c0 + 3)) fa_X1_roomAt_28 (kdC_0 hc0) (d := 3) rfl (fxl (fxC_0 hc0)) rfl dX1_roomAt_33 ?_
    refine P_aload_n C dX1_roomAt_36 2 rfl ?_
    refine P_getS C (e := (c0 + 2)) fa_X1_roomAt_21 (kdC_0 hc0) (d := 2) rfl (fxl (fxC_0 hc0)) rfl dX1_roomAt_37 ?_
    refine P_iload_n C dX1_roomAt_40 3 rfl ?_
    refine P_iconst C dX1_roomAt_41 (v := (1 : Int32)) rfl ?_
    refine P_isub C dX1_roomAt_42 ?_
    obtain ⟨hv7, h⟩ := h
    refine P_iald C (kdC_2 hc0) (fxl (fxC_2 hc0)) hv7 dX1_roomAt_43 ?_
    obtain ⟨hv8, h⟩ := h
    refine P_iald C (kdC_3 hc0) (fxl (fxC_3 hc0)) hv8 dX1_roomAt_44 ?_
    refine P_aload_n C dX1_roomAt_45 2 rfl ?_
    refine P_ci (R_v (ci := 1) C kv_X1_roomAt_X1_gap (As := []) rfl (kdC_0 hc0) rfl (fxl (fxC_0 hc0)) (Nat.le_of_ble_eq_true rfl) dX1_roomAt_46 ⟨Nat.le_refl _, Nat.le_refl _⟩ h) (fun r10 σ9 h => ?_)
    refine P_isub C dX1_roomAt_49 ?_
    refine P_min C km_X1_roomAt_min (by decide) (Nat.le_of_ble_eq_true rfl) ⟨Nat.le_refl _, Nat.le_refl _⟩ dX1_roomAt_50 ?_
    refine P_nmi (fun v11 ev11 => ?_)
    have h := h v11 ev11
    refine P_istore_n C dX1_roomAt_53 (by rw [hN]; decide) rfl ?_
    exact P_sub [2, 1, 0] rfl h
set_option maxRecDepth 100000 in
set_option maxHeartbeats 4000000 in
theorem s_X1_roomAt_54 {M : Mx} {Qk : Int32 → Sg → Prop} (C : Cx M cX1_roomAt (some .int) RX1 wsX1_roomAt (rmz 1) 0 0 (QI (mV M) Qk)) (hN : mN M = 4) {x0 : Nat} {x2 : Int32} {x3 : Int32} (hx0 : isC x0) {σ : Sg} (h : (vp_in x2 6 ∧ (∀ v2 : Int32, v2 = jmax (0 : Int32) (x3 - (gi σ (x0 + 3) x2.toNatClampNeg)) → Qk v2 σ))) : PS M 54 [(0, .ref x0), (2, .int x2), (3, .int x3)] [] σ (0, 0) := by
  refine P_iconst C dX1_roomAt_54 (v := (0 : Int32)) rfl ?_
  refine P_iload_n C dX1_roomAt_55 2 rfl ?_
  refine P_aload_n C dX1_roomAt_56 0 rfl ?_
  refine P_getS C (e := (x0 + 3)) fa_X1_roomAt_28 (kdC_0 hx0) (d := 3) rfl (fxl (fxC_0 hx0)) rfl dX1_roomAt_57 ?_
  refine P_iload_n C dX1_roomAt_60 1 rfl ?_
  obtain ⟨hv1, h⟩ := h
  refine P_iald C (kdC_3 hx0) (fxl (fxC_3 hx0)) hv1 dX1_roomAt_61 ?_
  refine P_isub C dX1_roomAt_62 ?_
  refine P_max C km_X1_roomAt_max (by decide) (Nat.le_of_ble_eq_true rfl) ⟨Nat.le_refl _, Nat.le_refl _⟩ dX1_roomAt_63 ?_
  refine P_nmi (fun v2 ev2 => ?_)
  have h := h v2 ev2
  exact P_iret C dX1_roomAt_66 h
theorem fa_X1_wears_34 : FA RX1 wsX1_wears 34 1 6 "NineMowers$Course" := by
  show _ ∧ _ ∧ _ ∧ _
  exact ⟨by decide, fun _ h => List.mem_cons_of_mem _ (List.mem_append_left _ (List.mem_append_right _ h)), List.mem_of_getElem? (i := 6) rfl, Or.inl rfl⟩
theorem km_X1_wears_max : KM RX1 wsX1_wears 131 Lib.Math.max.name Lib.Math.max.code := ⟨List.mem_of_getElem? (i := 2) rfl, List.mem_of_getElem? (i := 3) rfl, List.mem_of_getElem? (i := 4) rfl, List.mem_of_getElem? (i := 5) rfl⟩
theorem fa_X1_wears_31 : FA RX1 wsX1_wears 31 1 5 "NineMowers$Course" := by
  show _ ∧ _ ∧ _ ∧ _
  exact ⟨by decide, fun _ h => List.mem_cons_of_mem _ (List.mem_append_left _ (List.mem_append_right _ h)), List.mem_of_getElem? (i := 1) rfl, Or.inl rfl⟩
theorem fa_X1_wears_46 : FA RX1 wsX1_wears 46 1 10 "NineMowers$Course" := by
  show _ ∧ _ ∧ _ ∧ _
  exact ⟨by decide, fun _ h => List.mem_cons_of_mem _ (List.mem_append_left _ (List.mem_append_right _ h)), List.mem_of_getElem? (i := 7) rfl, Or.inl rfl⟩
theorem fa_X1_wears_134 : FA RX1 wsX1_wears 134 2 1 "NineMowers$Field" := by
  show _ ∧ _ ∧ _ ∧ _
  exact ⟨by decide, fun _ h => List.mem_cons_of_mem _ (List.mem_append_right _ h), List.mem_of_getElem? (i := 8) rfl, Or.inl rfl⟩
theorem km_X1_wears_min : KM RX1 wsX1_wears 125 Lib.Math.min.name Lib.Math.min.code := ⟨List.mem_of_getElem? (i := 9) rfl, List.mem_of_getElem? (i := 10) rfl, List.mem_of_getElem? (i := 4) rfl, List.mem_of_getElem? (i := 11) rfl⟩
noncomputable def K_X1_wears (l : Launch) (V : Vx) (c0 : Nat) (a1 : Int32) (a2 : Int32) (σ : Sg) (Qk : Sg → Prop) : Prop := Ka l V yX1_wears wsX1_wears (rmz 1) 0 0 [.ref c0, .int a1, .int a2] σ (QV V Qk)
theorem e_X1_wears {l : Launch} {V : Vx} {c0 : Nat} {a1 : Int32} {a2 : Int32} {σ : Sg} {Qk : Sg → Prop} (h : ∀ M : Mx, mL M = l → mV M = V → mN M = 3 → Cx M cX1_wears none RX1 wsX1_wears (rmz 1) 0 0 (QV (mV M) Qk) → PS M 0 [(0, .ref c0), (1, .int a1), (2, .int a2)] [] σ (0, 0)) : K_X1_wears l V c0 a1 a2 σ Qk :=
  Ka_of (by decide +kernel) rfl rfl (Nat.le_of_ble_eq_true rfl) (fun M h1 h2 h3 C => h M h1 h2 h3 (by rw [h2]; exact C))
set_option maxRecDepth 100000 in
set_option maxHeartbeats 4000000 in
theorem s_X1_wears_0 {M : Mx} {Qk : Sg → Prop} (C : Cx M cX1_wears none RX1 wsX1_wears (rmz 1) 0 0 (QV (mV M) Qk)) (hN : mN M = 3) {c0 : Nat} {a1 : Int32} {a2 : Int32} (hc0 : isC c0) {σ : Sg} (h : ((a2 = 0 → (vp_in a1 6 ∧ (∀ v3 : Int32, v3 = jmax (0 : Int32) ((gi σ (c0 + 5) a1.toNatClampNeg) - (2 : Int32)) → (vp_in a1 6 ∧ (∀ σ5 : Sg, σ5 = si σ (c0 + 5) a1.toNatClampNeg v3 → Qk σ5))))) ∧ (¬ a2 = 0 → (vp_in a1 6 ∧ (∀ v7 : Int32, v7 = jmax (0 : Int32) ((gi σ (c0 + 4) a1.toNatClampNeg) - (1 : Int32)) → (vp_in a1 6 ∧ (∀ σ9 : Sg, σ9 = si σ (c0 + 4) a1.toNatClampNeg v7 → (vp_in a1 6 ∧ (∃ f11 : Nat, gr σ9 c0 10 = some f11 ∧ kd f11 = (12, 0) ∧ f11 ∈ ids (mV M) ∧ (∀ v12 : Int32, v12 = jmin (99 : Int32) ((gi σ9 (c0 + 5) a1.toNatClampNeg) + (gi σ9 f11 1)) → (vp_in a1 6 ∧ (∀ σ14 : Sg, σ14 = si σ9 (c0 + 5) a1.toNatClampNeg v12 → Qk σ14)))))))))))) : PS M 0 [(0, .ref c0), (1, .int a1), (2, .int a2)] [] σ (0, 0) := by
  refine P_iload_n C dX1_wears_0 2 rfl ?_
  refine P_if_eq C dX1_wears_1 (tgt := 50) (by decide) (fun q1 => ?_) (fun q1 => ?_)
  · have h := h.1 q1
    refine P_aload_n C dX1_wears_50 0 rfl ?_
    refine P_getS C (e := (c0 + 5)) fa_X1_wears_34 (kdC_0 hc0) (d := 5) rfl (fxl (fxC_0 hc0)) rfl dX1_wears_51 ?_
    refine P_iload_n C dX1_wears_54 1 rfl ?_
    refine P_iconst C dX1_wears_55 (v := (0 : Int32)) rfl ?_
    refine P_aload_n C dX1_wears_56 0 rfl ?_
    refine P_getS C (e := (c0 + 5)) fa_X1_wears_34 (kdC_0 hc0) (d := 5) rfl (fxl (fxC_0 hc0)) rfl dX1_wears_57 ?_
    refine P_iload_n C dX1_wears_60 1 rfl ?_
    obtain ⟨hv2, h⟩ := h
    refine P_iald C (kdC_5 hc0) (fxl (fxC_5 hc0)) hv2 dX1_wears_61 ?_
    refine P_iconst C dX1_wears_62 (v := (2 : Int32)) rfl ?_
    refine P_isub C dX1_wears_63 ?_
    refine P_max C km_X1_wears_max (by decide) (Nat.le_of_ble_eq_true rfl) ⟨Nat.le_refl _, Nat.le_refl _⟩ dX1_wears_64 ?_
    refine P_nmi (fun v3 ev3 => ?_)
    have h := h v3 ev3
    obtain ⟨hv4, h⟩ := h
    refine P_iast C (kdC_5 hc0) (fxl (fxC_5 hc0)) hv4 dX1_wears_67 ?_
    refine P_nm (fun σ5 eσ5 => ?_)
    have h := h σ5 eσ5
    exact P_vret C dX1_wears_68 h
  · have h := h.2 q1
    refine P_aload_n C dX1_wears_4 0 rfl ?_
    refine P_getS C (e := (c0 + 4)) fa_X1_wears_31 (kdC_0 hc0) (d := 4) rfl (fxl (fxC_0 hc0)) rfl dX1_wears_5 ?_
    refine P_iload_n C dX1_wears_8 1 rfl ?_
    refine P_iconst C dX1_wears_9 (v := (0 : Int32)) rfl ?_
    refine P_aload_n C dX1_wears_10 0 rfl ?_
    refine P_getS C (e := (c0 + 4)) fa_X1_wears_31 (kdC_0 hc0) (d := 4) rfl (fxl (fxC_0 hc0)) rfl dX1_wears_11 ?_
    refine P_iload_n C dX1_wears_14 1 rfl ?_
    obtain ⟨hv6, h⟩ := h
    refine P_iald C (kdC_4 hc0) (fxl (fxC_4 hc0)) hv6 dX1_wears_15 ?_
    refine P_iconst C dX1_wears_16 (v := (1 : Int32)) rfl ?_
    refine P_isub C dX1_wears_17 ?_
    refine P_max C km_X1_wears_max (by decide) (Nat.le_of_ble_eq_true rfl) ⟨Nat.le_refl _, Nat.le_refl _⟩ dX1_wears_18 ?_
    refine P_nmi (fun v7 ev7 => ?_)
    have h := h v7 ev7
    obtain ⟨hv8, h⟩ := h
    refine P_iast C (kdC_4 hc0) (fxl (fxC_4 hc0)) hv8 dX1_wears_21 ?_
    refine P_nm (fun σ9 eσ9 => ?_)
    have h := h σ9 eσ9
    refine P_aload_n C dX1_wears_22 0 rfl ?_
    refine P_getS C (e := (c0 + 5)) fa_X1_wears_34 (kdC_0 hc0) (d := 5) rfl (fxl (fxC_0 hc0)) rfl dX1_wears_23 ?_
    refine P_iload_n C dX1_wears_26 1 rfl ?_
    refine P_bipush C dX1_wears_27 (v := (99 : Int32)) rfl ?_
    refine P_aload_n C dX1_wears_29 0 rfl ?_
    refine P_getS C (e := (c0 + 5)) fa_X1_wears_34 (kdC_0 hc0) (d := 5) rfl (fxl (fxC_0 hc0)) rfl dX1_wears_30 ?_
    refine P_iload_n C dX1_wears_33 1 rfl ?_
    obtain ⟨hv10, h⟩ := h
    refine P_iald C (kdC_5 hc0) (fxl (fxC_5 hc0)) hv10 dX1_wears_34 ?_
    refine P_aload_n C dX1_wears_35 0 rfl ?_
    obtain ⟨f11, hrf11, hf11, lf11, h⟩ := h
    refine P_getD C fa_X1_wears_46 (kdC_0 hc0) rfl (fxl (fxC_0 hc0)) hrf11 dX1_wears_36 ?_
    refine P_getI C fa_X1_wears_134 hf11 rfl lf11 dX1_wears_39 ?_
    refine P_iadd C dX1_wears_42 ?_
    refine P_min C km_X1_wears_min (by decide) (Nat.le_of_ble_eq_true rfl) ⟨Nat.le_refl _, Nat.le_refl _⟩ dX1_wears_43 ?_
    refine P_nmi (fun v12 ev12 => ?_)
    have h := h v12 ev12
    obtain ⟨hv13, h⟩ := h
    refine P_iast C (kdC_5 hc0) (fxl (fxC_5 hc0)) hv13 dX1_wears_46 ?_
    refine P_nm (fun σ14 eσ14 => ?_)
    have h := h σ14 eσ14
    refine P_goto C dX1_wears_47 (tgt := 68) (by decide) ?_
    exact P_vret C dX1_wears_68 h
theorem fa_X1_passes_17 : FA RX1 wsX1_passes 17 1 1 "NineMowers$Course" := by
  show _ ∧ _ ∧ _ ∧ _
  exact ⟨by decide, fun _ h => List.mem_cons_of_mem _ (List.mem_append_right _ h), List.mem_of_getElem? (i := 1) rfl, Or.inl rfl⟩
theorem fa_X1_passes_43 : FA RX1 wsX1_passes 43 1 9 "NineMowers$Course" := by
  show _ ∧ _ ∧ _ ∧ _
  exact ⟨by decide, fun _ h => List.mem_cons_of_mem _ (List.mem_append_right _ h), List.mem_of_getElem? (i := 8) rfl, Or.inl rfl⟩
theorem pa_X1_passes_43 : PA RX1 wsX1_passes 43 1 9 "NineMowers$Course" .int := by
  show _ ∧ _ ∧ _ ∧ _ ∧ _ ∧ _ ∧ _ ∧ _
  exact ⟨by decide, fun _ h => List.mem_cons_of_mem _ (List.mem_append_right _ h), List.mem_of_getElem? (i := 8) rfl, rfl, rfl, by decide +kernel, ⟨tyX1, tyX1_ok⟩, nmX1⟩
theorem fa_X1_passes_34 : FA RX1 wsX1_passes 34 1 6 "NineMowers$Course" := by
  show _ ∧ _ ∧ _ ∧ _
  exact ⟨by decide, fun _ h => List.mem_cons_of_mem _ (List.mem_append_right _ h), List.mem_of_getElem? (i := 2) rfl, Or.inl rfl⟩
theorem km_X1_passes_max : KM RX1 wsX1_passes 131 Lib.Math.max.name Lib.Math.max.code := ⟨List.mem_of_getElem? (i := 3) rfl, List.mem_of_getElem? (i := 4) rfl, List.mem_of_getElem? (i := 5) rfl, List.mem_of_getElem? (i := 6) rfl⟩
theorem fa_X1_passes_37 : FA RX1 wsX1_passes 37 1 7 "NineMowers$Course" := by
  show _ ∧ _ ∧ _ ∧ _
  exact ⟨by decide, fun _ h => List.mem_cons_of_mem _ (List.mem_append_right _ h), List.mem_of_getElem? (i := 7) rfl, Or.inl rfl⟩
noncomputable def K_X1_passes (l : Launch) (V : Vx) (c0 : Nat) (a1 : Int32) (a2 : Int32) (σ : Sg) (Qk : Sg → Prop) : Prop := Ka l V yX1_passes wsX1_passes (rmz 1) 0 0 [.ref c0, .int a1, .int a2] σ (QV V Qk)
theorem e_X1_passes {l : Launch} {V : Vx} {c0 : Nat} {a1 : Int32} {a2 : Int32} {σ : Sg} {Qk : Sg → Prop} (h : ∀ M : Mx, mL M = l → mV M = V → mN M = 4 → Cx M cX1_passes none RX1 wsX1_passes (rmz 1) 0 0 (QV (mV M) Qk) → PS M 0 [(0, .ref c0), (1, .int a1), (2, .int a2)] [] σ (0, 0)) : K_X1_passes l V c0 a1 a2 σ Qk :=
  Ka_of (by decide +kernel) rfl rfl (Nat.le_of_ble_eq_true rfl) (fun M h1 h2 h3 C => h M h1 h2 h3 (by rw [h2]; exact C))
set_option maxRecDepth 100000 in
set_option maxHeartbeats 4000000 in
theorem s_X1_passes_0 {M : Mx} {Qk : Sg → Prop} (C : Cx M cX1_passes none RX1 wsX1_passes (rmz 1) 0 0 (QV (mV M) Qk)) (hN : mN M = 4) {c0 : Nat} {a1 : Int32} {a2 : Int32} (hc0 : isC c0) {σ : Sg} (h : PS M 2 [(0, .ref c0), (1, .int a1), (2, .int a2), (3, .int (0 : Int32))] [] σ (0, 0)) : PS M 0 [(0, .ref c0), (1, .int a1), (2, .int a2)] [] σ (0, 0) := by
  refine P_iconst C dX1_passes_0 (v := (0 : Int32)) rfl ?_
  refine P_istore_n C dX1_passes_1 (by rw [hN]; decide) rfl ?_
  exact P_sub [1, 2, 3, 0] rfl h
set_option maxRecDepth 100000 in
set_option maxHeartbeats 4000000 in
theorem s_X1_passes_2 {M : Mx} {Qk : Sg → Prop} (C : Cx M cX1_passes none RX1 wsX1_passes (rmz 1) 0 0 (QV (mV M) Qk)) (hN : mN M = 4) {x0 : Nat} {x1 : Int32} {x2 : Int32} {x3 : Int32} (hx0 : isC x0) {σ : Sg} (h : (((gi σ x0 1) ≤ x3 → (∀ σ2 : Sg, σ2 = si σ x0 9 ((gi σ x0 9) + x1) → Qk σ2)) ∧ (¬ (gi σ x0 1) ≤ x3 → (vp_in x3 6 ∧ (∀ v4 : Int32, v4 = jmax (0 : Int32) ((gi σ (x0 + 5) x3.toNatClampNeg) - x2) → (vp_in x3 6 ∧ (∀ σ6 : Sg, σ6 = si σ (x0 + 5) x3.toNatClampNeg v4 → (vp_in x3 6 ∧ (∀ v8 : Int32, v8 = jmax (0 : Int32) ((gi σ6 (x0 + 6) x3.toNatClampNeg) - x1) → (vp_in x3 6 ∧ (∀ σ10 : Sg, σ10 = si σ6 (x0 + 6) x3.toNatClampNeg v8 → (∀ v11 : Int32, v11 = x3 + 1 → PS M 2 [(0, .ref x0), (1, .int x1), (2, .int x2), (3, .int v11)] [] σ10 (0, 0))))))))))))) : PS M 2 [(0, .ref x0), (1, .int x1), (2, .int x2), (3, .int x3)] [] σ (0, 0) := by
  refine P_iload_n C dX1_passes_2 3 rfl ?_
  refine P_aload_n C dX1_passes_3 0 rfl ?_
  refine P_getI C fa_X1_passes_17 (kdC_0 hx0) rfl (fxl (fxC_0 hx0)) dX1_passes_4 ?_
  refine P_icmp_ge C dX1_passes_7 (tgt := 52) (by decide) (fun q1 => ?_) (fun q1 => ?_)
  · have h := h.1 q1
    refine P_aload_n C dX1_passes_52 0 rfl ?_
    refine P_dup C dX1_passes_53 rfl ?_
    refine P_getI C fa_X1_passes_43 (kdC_0 hx0) rfl (fxl (fxC_0 hx0)) dX1_passes_54 ?_
    refine P_iload_n C dX1_passes_57 1 rfl ?_
    refine P_iadd C dX1_passes_58 ?_
    refine P_putI C pa_X1_passes_43 (kdC_0 hx0) rfl (fxl (fxC_0 hx0)) dX1_passes_59 ?_
    refine P_nm (fun σ2 eσ2 => ?_)
    have h := h σ2 eσ2
    exact P_vret C dX1_passes_62 h
  · have h := h.2 q1
    refine P_aload_n C dX1_passes_10 0 rfl ?_
    refine P_getS C (e := (x0 + 5)) fa_X1_passes_34 (kdC_0 hx0) (d := 5) rfl (fxl (fxC_0 hx0)) rfl dX1_passes_11 ?_
    refine P_iload_n C dX1_passes_14 3 rfl ?_
    refine P_iconst C dX1_passes_15 (v := (0 : Int32)) rfl ?_
    refine P_aload_n C dX1_passes_16 0 rfl ?_
    refine P_getS C (e := (x0 + 5)) fa_X1_passes_34 (kdC_0 hx0) (d := 5) rfl (fxl (fxC_0 hx0)) rfl dX1_passes_17 ?_
    refine P_iload_n C dX1_passes_20 3 rfl ?_
    obtain ⟨hv3, h⟩ := h
    refine P_iald C (kdC_5 hx0) (fxl (fxC_5 hx0)) hv3 dX1_passes_21 ?_
    refine P_iload_n C dX1_passes_22 2 rfl ?_
    refine P_isub C dX1_passes_23 ?_
    refine P_max C km_X1_passes_max (by decide) (Nat.le_of_ble_eq_true rfl) ⟨Nat.le_refl _, Nat.le_refl _⟩ dX1_passes_24 ?_
    refine P_nmi (fun v4 ev4 => ?_)
    have h := h v4 ev4
    obtain ⟨hv5, h⟩ := h
    refine P_iast C (kdC_5 hx0) (fxl (fxC_5 hx0)) hv5 dX1_passes_27 ?_
    refine P_nm (fun σ6 eσ6 => ?_)
    have h := h σ6 eσ6
    refine P_aload_n C dX1_passes_28 0 rfl ?_
    refine P_getS C (e := (x0 + 6)) fa_X1_passes_37 (kdC_0 hx0) (d := 6) rfl (fxl (fxC_0 hx0)) rfl dX1_passes_29 ?_
    refine P_iload_n C dX1_passes_32 3 rfl ?_
    refine P_iconst C dX1_passes_33 (v := (0 : Int32)) rfl ?_
    refine P_aload_n C dX1_passes_34 0 rfl ?_
    refine P_getS C (e := (x0 + 6)) fa_X1_passes_37 (kdC_0 hx0) (d := 6) rfl (fxl (fxC_0 hx0)) rfl dX1_passes_35 ?_
    refine P_iload_n C dX1_passes_38 3 rfl ?_
    obtain ⟨hv7, h⟩ := h
    refine P_iald C (kdC_6 hx0) (fxl (fxC_6 hx0)) hv7 dX1_passes_39 ?_
    refine P_iload_n C dX1_passes_40 1 rfl ?_
    refine P_isub C dX1_passes_41 ?_
    refine P_max C km_X1_passes_max (by decide) (Nat.le_of_ble_eq_true rfl) ⟨Nat.le_refl _, Nat.le_refl _⟩ dX1_passes_42 ?_
    refine P_nmi (fun v8 ev8 => ?_)
    have h := h v8 ev8
    obtain ⟨hv9, h⟩ := h
    refine P_iast C (kdC_6 hx0) (fxl (fxC_6 hx0)) hv9 dX1_passes_45 ?_
    refine P_nm (fun σ10 eσ10 => ?_)
    have h := h σ10 eσ10
    obtain ⟨v11, ev11⟩ : ∃ v : Int32, v = x3 + 1 := ⟨_, rfl⟩
    have h := h v11 ev11
    refine P_iinc (v := v11) C dX1_passes_46 3 rfl (by rw [ev11]; rfl) (by rw [hN]; decide) rfl ?_
    refine P_goto C dX1_passes_49 (tgt := 2) (by decide) ?_
    exact P_sub [1, 2, 3, 0] rfl h
theorem fa_X1_allAt_17 : FA RX1 wsX1_allAt 17 1 1 "NineMowers$Course" := by
  show _ ∧ _ ∧ _ ∧ _
  exact ⟨by decide, fun _ h => List.mem_cons_of_mem _ (List.mem_append_right _ h), List.mem_of_getElem? (i := 1) rfl, Or.inl rfl⟩
theorem fa_X1_allAt_28 : FA RX1 wsX1_allAt 28 1 4 "NineMowers$Course" := by
  show _ ∧ _ ∧ _ ∧ _
  exact ⟨by decide, fun _ h => List.mem_cons_of_mem _ (List.mem_append_right _ h), List.mem_of_getElem? (i := 2) rfl, Or.inl rfl⟩
noncomputable def K_X1_allAt (l : Launch) (V : Vx) (c0 : Nat) (σ : Sg) (Qk : Int32 → Sg → Prop) : Prop := Ka l V yX1_allAt wsX1_allAt (rmz 0) 0 0 [.ref c0] σ (QI V Qk)
theorem e_X1_allAt {l : Launch} {V : Vx} {c0 : Nat} {σ : Sg} {Qk : Int32 → Sg → Prop} (h : ∀ M : Mx, mL M = l → mV M = V → mN M = 3 → Cx M cX1_allAt (some .int) RX1 wsX1_allAt (rmz 0) 0 0 (QI (mV M) Qk) → PS M 0 [(0, .ref c0)] [] σ (0, 0)) : K_X1_allAt l V c0 σ Qk :=
  Ka_of (by decide +kernel) rfl rfl (Nat.le_of_ble_eq_true rfl) (fun M h1 h2 h3 C => h M h1 h2 h3 (by rw [h2]; exact C))
set_option maxRecDepth 100000 in
set_option maxHeartbeats 4000000 in
theorem s_X1_allAt_0 {M : Mx} {Qk : Int32 → Sg → Prop} (C : Cx M cX1_allAt (some .int) RX1 wsX1_allAt (rmz 0) 0 0 (QI (mV M) Qk)) (hN : mN M = 3) {c0 : Nat} (hc0 : isC c0) {σ : Sg} (h : PS M 4 [(0, .ref c0), (1, .int (0 : Int32)), (2, .int (0 : Int32))] [] σ (0, 0)) : PS M 0 [(0, .ref c0)] [] σ (0, 0) := by
  refine P_iconst C dX1_allAt_0 (v := (0 : Int32)) rfl ?_
  refine P_istore_n C dX1_allAt_1 (by rw [hN]; decide) rfl ?_
  refine P_iconst C dX1_allAt_2 (v := (0 : Int32)) rfl ?_
  refine P_istore_n C dX1_allAt_3 (by rw [hN]; decide) rfl ?_
  exact P_sub [2, 1, 0] rfl h
set_option maxRecDepth 100000 in
set_option maxHeartbeats 4000000 in
theorem s_X1_allAt_4 {M : Mx} {Qk : Int32 → Sg → Prop} (C : Cx M cX1_allAt (some .int) RX1 wsX1_allAt (rmz 0) 0 0 (QI (mV M) Qk)) (hN : mN M = 3) {x0 : Nat} {x1 : Int32} {x2 : Int32} (hx0 : isC x0) {σ : Sg} (h : (((gi σ x0 1) ≤ x2 → Qk x1 σ) ∧ (¬ (gi σ x0 1) ≤ x2 → (vp_in x2 6 ∧ (∀ v3 : Int32, v3 = x1 + (gi σ (x0 + 3) x2.toNatClampNeg) → (∀ v4 : Int32, v4 = x2 + 1 → PS M 4 [(0, .ref x0), (1, .int v3), (2, .int v4)] [] σ (0, 0))))))) : PS M 4 [(0, .ref x0), (1, .int x1), (2, .int x2)] [] σ (0, 0) := by
  refine P_iload_n C dX1_allAt_4 2 rfl ?_
  refine P_aload_n C dX1_allAt_5 0 rfl ?_
  refine P_getI C fa_X1_allAt_17 (kdC_0 hx0) rfl (fxl (fxC_0 hx0)) dX1_allAt_6 ?_
  refine P_icmp_ge C dX1_allAt_9 (tgt := 27) (by decide) (fun q1 => ?_) (fun q1 => ?_)
  · have h := h.1 q1
    refine P_iload_n C dX1_allAt_27 1 rfl ?_
    exact P_iret C dX1_allAt_28 h
  · have h := h.2 q1
    refine P_iload_n C dX1_allAt_12 1 rfl ?_
    refine P_aload_n C dX1_allAt_13 0 rfl ?_
    refine P_getS C (e := (x0 + 3)) fa_X1_allAt_28 (kdC_0 hx0) (d := 3) rfl (fxl (fxC_0 hx0)) rfl dX1_allAt_14 ?_
    refine P_iload_n C dX1_allAt_17 2 rfl ?_
    obtain ⟨hv2, h⟩ := h
    refine P_iald C (kdC_3 hx0) (fxl (fxC_3 hx0)) hv2 dX1_allAt_18 ?_
    refine P_iadd C dX1_allAt_19 ?_
    refine P_nmi (fun v3 ev3 => ?_)
    have h := h v3 ev3
    refine P_istore_n C dX1_allAt_20 (by rw [hN]; decide) rfl ?_
    obtain ⟨v4, ev4⟩ : ∃ v : Int32, v = x2 + 1 := ⟨_, rfl⟩
    have h := h v4 ev4
    refine P_iinc (v := v4) C dX1_allAt_21 2 rfl (by rw [ev4]; rfl) (by rw [hN]; decide) rfl ?_
    refine P_goto C dX1_allAt_24 (tgt := 4) (by decide) ?_
    exact P_sub [2, 1, 0] rfl h
theorem fa_X2_sign_40 : FA RX2 wsX2_sign 40 2 9 "NineMowers$Field" := by
  show _ ∧ _ ∧ _ ∧ _
  exact ⟨by decide, fun _ h => List.mem_cons_of_mem _ (List.mem_append_right _ h), List.mem_of_getElem? (i := 1) rfl, Or.inl rfl⟩
theorem fa_X2_sign_47 : FA RX2 wsX2_sign 47 2 11 "NineMowers$Field" := by
  show _ ∧ _ ∧ _ ∧ _
  exact ⟨by decide, fun _ h => List.mem_cons_of_mem _ (List.mem_append_right _ h), List.mem_of_getElem? (i := 2) rfl, Or.inl rfl⟩
theorem fa_X2_sign_44 : FA RX2 wsX2_sign 44 2 10 "NineMowers$Field" := by
  show _ ∧ _ ∧ _ ∧ _
  exact ⟨by decide, fun _ h => List.mem_cons_of_mem _ (List.mem_append_right _ h), List.mem_of_getElem? (i := 3) rfl, Or.inl rfl⟩
noncomputable def K_X2_sign (l : Launch) (V : Vx) (c0 : Nat) (σ : Sg) (Qk : Int32 → Sg → Prop) : Prop := Ka l V yX2_sign wsX2_sign (rmz 0) 0 0 [.ref c0] σ (QI V Qk)
theorem e_X2_sign {l : Launch} {V : Vx} {c0 : Nat} {σ : Sg} {Qk : Int32 → Sg → Prop} (h : ∀ M : Mx, mL M = l → mV M = V → mN M = 1 → Cx M cX2_sign (some .int) RX2 wsX2_sign (rmz 0) 0 0 (QI (mV M) Qk) → PS M 0 [(0, .ref c0)] [] σ (0, 0)) : K_X2_sign l V c0 σ Qk :=
  Ka_of (by decide +kernel) rfl rfl (Nat.le_of_ble_eq_true rfl) (fun M h1 h2 h3 C => h M h1 h2 h3 (by rw [h2]; exact C))
set_option maxRecDepth 100000 in
set_option maxHeartbeats 4000000 in
theorem s_X2_sign_0 {M : Mx} {Qk : Int32 → Sg → Prop} (C : Cx M cX2_sign (some .int) RX2 wsX2_sign (rmz 0) 0 0 (QI (mV M) Qk)) (hN : mN M = 1) {c0 : Nat} (hc0 : kd c0 = (12, 0)) (lc0 : c0 ∈ ids (mV M)) {σ : Sg} (h : ((gr σ c0 9 = none → Qk (-1 : Int32) σ) ∧ (∀ a4 : Nat, gr σ c0 9 = some a4 → (((gi σ c0 10) ≤ (gi σ c0 11) → Qk (-1 : Int32) σ) ∧ (¬ (gi σ c0 10) ≤ (gi σ c0 11) → (∃ (a2 na2 : Nat), gr σ c0 9 = some a2 ∧ kd a2 = (1, na2) ∧ a2 ∈ ids (mV M) ∧ (vp_in (gi σ c0 11) na2 ∧ Qk (gi σ a2 (gi σ c0 11).toNatClampNeg) σ))))))) : PS M 0 [(0, .ref c0)] [] σ (0, 0) := by
  refine P_aload_n C dX2_sign_0 0 rfl ?_
  rcases hra4 : gr σ c0 9 with _ | a4
  · have h := h.1 hra4
    refine P_getN C fa_X2_sign_40 hc0 rfl lc0 hra4 dX2_sign_1 ?_
    refine P_ifnullN C dX2_sign_4 (tgt := 30) (by decide) ?_
    refine P_iconst C dX2_sign_30 (v := (-1 : Int32)) rfl ?_
    exact P_iret C dX2_sign_31 h
  · have h := h.2 a4 hra4
    refine P_getD C fa_X2_sign_40 hc0 rfl lc0 hra4 dX2_sign_1 ?_
    refine P_ifnull C dX2_sign_4 ?_
    refine P_aload_n C dX2_sign_7 0 rfl ?_
    refine P_getI C fa_X2_sign_47 hc0 rfl lc0 dX2_sign_8 ?_
    refine P_aload_n C dX2_sign_11 0 rfl ?_
    refine P_getI C fa_X2_sign_44 hc0 rfl lc0 dX2_sign_12 ?_
    refine P_icmp_ge C dX2_sign_15 (tgt := 30) (by decide) (fun q1 => ?_) (fun q1 => ?_)
    · have h := h.1 q1
      refine P_iconst C dX2_sign_30 (v := (-1 : Int32)) rfl ?_
      exact P_iret C dX2_sign_31 h
    · have h := h.2 q1
      refine P_aload_n C dX2_sign_18 0 rfl ?_
      obtain ⟨a2, na2, hra2, ha2, la2, h⟩ := h
      refine P_getD C fa_X2_sign_40 hc0 rfl lc0 hra2 dX2_sign_19 ?_
      refine P_aload_n C dX2_sign_22 0 rfl ?_
      refine P_getI C fa_X2_sign_47 hc0 rfl lc0 dX2_sign_23 ?_
      obtain ⟨hv3, h⟩ := h
      refine P_bald C ha2 la2 hv3 dX2_sign_26 ?_
      refine P_goto C dX2_sign_27 (tgt := 31) (by decide) ?_
      exact P_iret C dX2_sign_31 h
theorem kv_X2_isDigit_X2_sign : KV RX2 wsX2_isDigit (rmz 1) 130 RX2 yX2_sign wsX2_sign (rmz 0) 0 := ⟨_, _, _, _, gX2_isDigit_X2_sign, rfl, by decide +kernel, by decide⟩
noncomputable def K_X2_isDigit (l : Launch) (V : Vx) (c0 : Nat) (σ : Sg) (Qk : Int32 → Sg → Prop) : Prop := Ka l V yX2_isDigit wsX2_isDigit (rmz 1) 0 0 [.ref c0] σ (QI V Qk)
theorem e_X2_isDigit {l : Launch} {V : Vx} {c0 : Nat} {σ : Sg} {Qk : Int32 → Sg → Prop} (h : ∀ M : Mx, mL M = l → mV M = V → mN M = 1 → Cx M cX2_isDigit (some .boolean) RX2 wsX2_isDigit (rmz 1) 0 0 (QI (mV M) Qk) → PS M 0 [(0, .ref c0)] [] σ (0, 0)) : K_X2_isDigit l V c0 σ Qk :=
  Ka_of (by decide +kernel) rfl rfl (Nat.le_of_ble_eq_true rfl) (fun M h1 h2 h3 C => h M h1 h2 h3 (by rw [h2]; exact C))
set_option maxRecDepth 100000 in
set_option maxHeartbeats 4000000 in
theorem s_X2_isDigit_0 {M : Mx} {Qk : Int32 → Sg → Prop} (C : Cx M cX2_isDigit (some .boolean) RX2 wsX2_isDigit (rmz 1) 0 0 (QI (mV M) Qk)) (hN : mN M = 1) {c0 : Nat} (hc0 : kd c0 = (12, 0)) (lc0 : c0 ∈ ids (mV M)) {σ : Sg} (h : K_X2_sign (mL M) (mV M) c0 σ (fun r2 σ1 => ((r2 < (48 : Int32) → Qk (0 : Int32) σ1) ∧ (¬ r2 < (48 : Int32) → K_X2_sign (mL M) (mV M) c0 σ1 (fun r5 σ4 => (((57 : Int32) < r5 → Qk (0 : Int32) σ4) ∧ (¬ (57 : Int32) < r5 → Qk (1 : Int32) σ4))))))) : PS M 0 [(0, .ref c0)] [] σ (0, 0) := by
  refine P_aload_n C dX2_isDigit_0 0 rfl ?_
  refine P_ci (R_v (ci := 2) C kv_X2_isDigit_X2_sign (As := []) rfl hc0 rfl lc0 (Nat.le_of_ble_eq_true rfl) dX2_isDigit_1 ⟨Nat.le_refl _, Nat.le_refl _⟩ h) (fun r2 σ1 h => ?_)
  refine P_bipush C dX2_isDigit_4 (v := (48 : Int32)) rfl ?_
  refine P_icmp_lt C dX2_isDigit_6 (tgt := 22) (by decide) (fun q3 => ?_) (fun q3 => ?_)
  · have h := h.1 q3
    refine P_iconst C dX2_isDigit_22 (v := (0 : Int32)) rfl ?_
    exact P_zret C (by decide) dX2_isDigit_23 h
  · have h := h.2 q3
    refine P_aload_n C dX2_isDigit_9 0 rfl ?_
    refine P_ci (R_v (ci := 2) C kv_X2_isDigit_X2_sign (As := []) rfl hc0 rfl lc0 (Nat.le_of_ble_eq_true rfl) dX2_isDigit_10 ⟨Nat.le_refl _, Nat.le_refl _⟩ h) (fun r5 σ4 h => ?_)
    refine P_bipush C dX2_isDigit_13 (v := (57 : Int32)) rfl ?_
    refine P_icmp_gt C dX2_isDigit_15 (tgt := 22) (by decide) (fun q6 => ?_) (fun q6 => ?_)
    · have h := h.1 q6
      refine P_iconst C dX2_isDigit_22 (v := (0 : Int32)) rfl ?_
      exact P_zret C (by decide) dX2_isDigit_23 h
    · have h := h.2 q6
      refine P_iconst C dX2_isDigit_18 (v := (1 : Int32)) rfl ?_
      refine P_goto C dX2_isDigit_19 (tgt := 23) (by decide) ?_
      exact P_zret C (by decide) dX2_isDigit_23 h
theorem kv_X2_takes_X2_sign : KV RX2 wsX2_takes (rmz 1) 130 RX2 yX2_sign wsX2_sign (rmz 0) 0 := ⟨_, _, _, _, gX2_takes_X2_sign, rfl, by decide +kernel, by decide⟩
theorem fa_X2_takes_47 : FA RX2 wsX2_takes 47 2 11 "NineMowers$Field" := by
  show _ ∧ _ ∧ _ ∧ _
  exact ⟨by decide, fun _ h => List.mem_cons_of_mem _ (List.mem_append_right _ h), List.mem_of_getElem? (i := 1) rfl, Or.inl rfl⟩
theorem pa_X2_takes_47 : PA RX2 wsX2_takes 47 2 11 "NineMowers$Field" .int := by
  show _ ∧ _ ∧ _ ∧ _ ∧ _ ∧ _ ∧ _ ∧ _
  exact ⟨by decide, fun _ h => List.mem_cons_of_mem _ (List.mem_append_right _ h), List.mem_of_getElem? (i := 1) rfl, rfl, rfl, by decide +kernel, ⟨tyX2, tyX2_ok⟩, nmX2⟩
noncomputable def K_X2_takes (l : Launch) (V : Vx) (c0 : Nat) (a1 : Int32) (σ : Sg) (Qk : Int32 → Sg → Prop) : Prop := Ka l V yX2_takes wsX2_takes (rmz 1) 0 0 [.ref c0, .int a1] σ (QI V Qk)
theorem e_X2_takes {l : Launch} {V : Vx} {c0 : Nat} {a1 : Int32} {σ : Sg} {Qk : Int32 → Sg → Prop} (h : ∀ M : Mx, mL M = l → mV M = V → mN M = 2 → Cx M cX2_takes (some .boolean) RX2 wsX2_takes (rmz 1) 0 0 (QI (mV M) Qk) → PS M 0 [(0, .ref c0), (1, .int a1)] [] σ (0, 0)) : K_X2_takes l V c0 a1 σ Qk :=
  Ka_of (by decide +kernel) rfl rfl (Nat.le_of_ble_eq_true rfl) (fun M h1 h2 h3 C => h M h1 h2 h3 (by rw [h2]; exact C))
set_option maxRecDepth 100000 in
set_option maxHeartbeats 4000000 in
theorem s_X2_takes_0 {M : Mx} {Qk : Int32 → Sg → Prop} (C : Cx M cX2_takes (some .boolean) RX2 wsX2_takes (rmz 1) 0 0 (QI (mV M) Qk)) (hN : mN M = 2) {c0 : Nat} {a1 : Int32} (hc0 : kd c0 = (12, 0)) (lc0 : c0 ∈ ids (mV M)) {σ : Sg} (h : K_X2_sign (mL M) (mV M) c0 σ (fun r2 σ1 => ((r2 = a1 → (∀ σ4 : Sg, σ4 = si σ1 c0 11 ((gi σ1 c0 11) + (1 : Int32)) → Qk (1 : Int32) σ4)) ∧ (¬ r2 = a1 → Qk (0 : Int32) σ1)))) : PS M 0 [(0, .ref c0), (1, .int a1)] [] σ (0, 0) := by
  refine P_aload_n C dX2_takes_0 0 rfl ?_
  refine P_ci (R_v (ci := 2) C kv_X2_takes_X2_sign (As := []) rfl hc0 rfl lc0 (Nat.le_of_ble_eq_true rfl) dX2_takes_1 ⟨Nat.le_refl _, Nat.le_refl _⟩ h) (fun r2 σ1 h => ?_)
  refine P_iload_n C dX2_takes_4 1 rfl ?_
  refine P_icmp_eq C dX2_takes_5 (tgt := 10) (by decide) (fun q3 => ?_) (fun q3 => ?_)
  · have h := h.1 q3
    refine P_aload_n C dX2_takes_10 0 rfl ?_
    refine P_dup C dX2_takes_11 rfl ?_
    refine P_getI C fa_X2_takes_47 hc0 rfl lc0 dX2_takes_12 ?_
    refine P_iconst C dX2_takes_15 (v := (1 : Int32)) rfl ?_
    refine P_iadd C dX2_takes_16 ?_
    refine P_putI C pa_X2_takes_47 hc0 rfl lc0 dX2_takes_17 ?_
    refine P_nm (fun σ4 eσ4 => ?_)
    have h := h σ4 eσ4
    refine P_iconst C dX2_takes_20 (v := (1 : Int32)) rfl ?_
    exact P_zret C (by decide) dX2_takes_21 h
  · have h := h.2 q3
    refine P_iconst C dX2_takes_8 (v := (0 : Int32)) rfl ?_
    exact P_zret C (by decide) dX2_takes_9 h
theorem fa_X2_writes_25 : FA RX2 wsX2_writes 25 2 4 "NineMowers$Field" := by
  show _ ∧ _ ∧ _ ∧ _
  exact ⟨by decide, fun _ h => List.mem_cons_of_mem _ (List.mem_append_right _ h), List.mem_of_getElem? (i := 1) rfl, Or.inl rfl⟩
theorem fa_X2_writes_21 : FA RX2 wsX2_writes 21 2 3 "NineMowers$Field" := by
  show _ ∧ _ ∧ _ ∧ _
  exact ⟨by decide, fun _ h => List.mem_cons_of_mem _ (List.mem_append_right _ h), List.mem_of_getElem? (i := 2) rfl, Or.inl rfl⟩
theorem pa_X2_writes_25 : PA RX2 wsX2_writes 25 2 4 "NineMowers$Field" .int := by
  show _ ∧ _ ∧ _ ∧ _ ∧ _ ∧ _ ∧ _ ∧ _
  exact ⟨by decide, fun _ h => List.mem_cons_of_mem _ (List.mem_append_right _ h), List.mem_of_getElem? (i := 1) rfl, rfl, rfl, by decide +kernel, ⟨tyX2, tyX2_ok⟩, nmX2⟩
noncomputable def K_X2_writes (l : Launch) (V : Vx) (c0 : Nat) (a1 : Int32) (σ : Sg) (Qk : Sg → Prop) : Prop := Ka l V yX2_writes wsX2_writes (rmz 0) 0 0 [.ref c0, .int a1] σ (QV V Qk)
theorem e_X2_writes {l : Launch} {V : Vx} {c0 : Nat} {a1 : Int32} {σ : Sg} {Qk : Sg → Prop} (h : ∀ M : Mx, mL M = l → mV M = V → mN M = 2 → Cx M cX2_writes none RX2 wsX2_writes (rmz 0) 0 0 (QV (mV M) Qk) → PS M 0 [(0, .ref c0), (1, .int a1)] [] σ (0, 0)) : K_X2_writes l V c0 a1 σ Qk :=
  Ka_of (by decide +kernel) rfl rfl (Nat.le_of_ble_eq_true rfl) (fun M h1 h2 h3 C => h M h1 h2 h3 (by rw [h2]; exact C))
set_option maxRecDepth 100000 in
set_option maxHeartbeats 4000000 in
theorem s_X2_writes_0 {M : Mx} {Qk : Sg → Prop} (C : Cx M cX2_writes none RX2 wsX2_writes (rmz 0) 0 0 (QV (mV M) Qk)) (hN : mN M = 2) {c0 : Nat} {a1 : Int32} (hc0 : kd c0 = (12, 0)) (lc0 : c0 ∈ ids (mV M)) {σ : Sg} (h : (((100 : Int32) ≤ (gi σ c0 4) → Qk σ) ∧ (¬ (100 : Int32) ≤ (gi σ c0 4) → (vp_in (gi σ c0 4) 100 ∧ (∀ σ3 : Sg, σ3 = si σ (c0 + 1) (gi σ c0 4).toNatClampNeg a1 → (∀ σ4 : Sg, σ4 = si σ3 c0 4 ((gi σ3 c0 4) + (1 : Int32)) → Qk σ4)))))) : PS M 0 [(0, .ref c0), (1, .int a1)] [] σ (0, 0) := by
  refine P_aload_n C dX2_writes_0 0 rfl ?_
  refine P_getI C fa_X2_writes_25 hc0 rfl lc0 dX2_writes_1 ?_
  refine P_aload_n C dX2_writes_4 0 rfl ?_
  refine P_getS C (e := (c0 + 1)) fa_X2_writes_21 hc0 (d := 1) rfl lc0 rfl dX2_writes_5 ?_
  refine P_alen C (kdF_1 hc0) (by decide) (lvF_1 C hc0 lc0) (v := (100 : Int32)) rfl dX2_writes_8 ?_
  refine P_icmp_ge C dX2_writes_9 (tgt := 32) (by decide) (fun q1 => ?_) (fun q1 => ?_)
  · have h := h.1 q1
    exact P_vret C dX2_writes_32 h
  · have h := h.2 q1
    refine P_aload_n C dX2_writes_12 0 rfl ?_
    refine P_getS C (e := (c0 + 1)) fa_X2_writes_21 hc0 (d := 1) rfl lc0 rfl dX2_writes_13 ?_
    refine P_aload_n C dX2_writes_16 0 rfl ?_
    refine P_getI C fa_X2_writes_25 hc0 rfl lc0 dX2_writes_17 ?_
    refine P_iload_n C dX2_writes_20 1 rfl ?_
    obtain ⟨hv2, h⟩ := h
    refine P_iast C (kdF_1 hc0) (lvF_1 C hc0 lc0) hv2 dX2_writes_21 ?_
    refine P_nm (fun σ3 eσ3 => ?_)
    have h := h σ3 eσ3
    refine P_aload_n C dX2_writes_22 0 rfl ?_
    refine P_dup C dX2_writes_23 rfl ?_
    refine P_getI C fa_X2_writes_25 hc0 rfl lc0 dX2_writes_24 ?_
    refine P_iconst C dX2_writes_27 (v := (1 : Int32)) rfl ?_
    refine P_iadd C dX2_writes_28 ?_
    refine P_putI C pa_X2_writes_25 hc0 rfl lc0 dX2_writes_29 ?_
    refine P_nm (fun σ4 eσ4 => ?_)
    have h := h σ4 eσ4
    exact P_vret C dX2_writes_32 h
theorem fa_X2_holds_25 : FA RX2 wsX2_holds 25 2 4 "NineMowers$Field" := by
  show _ ∧ _ ∧ _ ∧ _
  exact ⟨by decide, fun _ h => List.mem_cons_of_mem _ (List.mem_append_right _ h), List.mem_of_getElem? (i := 1) rfl, Or.inl rfl⟩
theorem fa_X2_holds_21 : FA RX2 wsX2_holds 21 2 3 "NineMowers$Field" := by
  show _ ∧ _ ∧ _ ∧ _
  exact ⟨by decide, fun _ h => List.mem_cons_of_mem _ (List.mem_append_right _ h), List.mem_of_getElem? (i := 2) rfl, Or.inl rfl⟩
noncomputable def K_X2_holds (l : Launch) (V : Vx) (c0 : Nat) (a1 : Int32) (a2 : Int32) (a3 : Nat) (σ : Sg) (Qk : Int32 → Sg → Prop) : Prop := Ka l V yX2_holds wsX2_holds (rmz 0) 0 0 [.ref c0, .int a1, .int a2, .ref a3] σ (QI V Qk)
theorem e_X2_holds {l : Launch} {V : Vx} {c0 : Nat} {a1 : Int32} {a2 : Int32} {a3 : Nat} {σ : Sg} {Qk : Int32 → Sg → Prop} (h : ∀ M : Mx, mL M = l → mV M = V → mN M = 10 → Cx M cX2_holds (some .boolean) RX2 wsX2_holds (rmz 0) 0 0 (QI (mV M) Qk) → PS M 0 [(0, .ref c0), (1, .int a1), (2, .int a2), (3, .ref a3)] [] σ (0, 0)) : K_X2_holds l V c0 a1 a2 a3 σ Qk :=
  Ka_of (by decide +kernel) rfl rfl (Nat.le_of_ble_eq_true rfl) (fun M h1 h2 h3 C => h M h1 h2 h3 (by rw [h2]; exact C))
set_option maxRecDepth 100000 in
set_option maxHeartbeats 4000000 in
theorem s_X2_holds_0 {M : Mx} {Qk : Int32 → Sg → Prop} (C : Cx M cX2_holds (some .boolean) RX2 wsX2_holds (rmz 0) 0 0 (QI (mV M) Qk)) (hN : mN M = 10) {c0 : Nat} {a1 : Int32} {a2 : Int32} {a3 : Nat} (hc0 : kd c0 = (12, 0)) (lc0 : c0 ∈ ids (mV M)) {na3 : Nat} (ha3 : kd a3 = (0, na3)) (la3 : a3 ∈ ids (mV M)) {σ : Sg} (h : PS M 6 [(0, .ref c0), (2, .int a2), (3, .ref a3), (4, .int (0 : Int32)), (5, .int a1)] [] σ (0, 0)) : PS M 0 [(0, .ref c0), (1, .int a1), (2, .int a2), (3, .ref a3)] [] σ (0, 0) := by
  refine P_iconst C dX2_holds_0 (v := (0 : Int32)) rfl ?_
  refine P_istore C dX2_holds_1 (by rw [hN]; decide) rfl ?_
  refine P_iload_n C dX2_holds_3 2 rfl ?_
  refine P_istore C dX2_holds_4 (by rw [hN]; decide) rfl ?_
  exact P_sub [2, 4, 5, 1, 0] rfl h
set_option maxRecDepth 100000 in
set_option maxHeartbeats 4000000 in
theorem s_X2_holds_6 {M : Mx} {Qk : Int32 → Sg → Prop} (C : Cx M cX2_holds (some .boolean) RX2 wsX2_holds (rmz 0) 0 0 (QI (mV M) Qk)) (hN : mN M = 10) {x0 : Nat} {x2 : Int32} {x3 : Nat} {x4 : Int32} {x5 : Int32} (hx0 : kd x0 = (12, 0)) (lx0 : x0 ∈ ids (mV M)) {nx3 : Nat} (hx3 : kd x3 = (0, nx3)) (lx3 : x3 ∈ ids (mV M)) {σ : Sg} (h : ((x2 ≤ x5 → PS M 187 [(4, .int x4)] [] σ (0, 0)) ∧ (¬ x2 ≤ x5 → (((gi σ x0 4) ≤ x5 → PS M 187 [(4, .int x4)] [] σ (0, 0)) ∧ (¬ (gi σ x0 4) ≤ x5 → (vp_in x5 100 ∧ (∀ v4 : Int32, v4 = gi σ (x0 + 1) x5.toNatClampNeg → ((v4 < 0 → ((¬ v4 = (-1 : Int32) → (∀ v7 : Int32, v7 = x4 &&& (1 : Int32) → (∀ v8 : Int32, v8 = x4 >>> ((1 : Int32) &&& 31) → ((¬ v4 = (-3 : Int32) → (∀ v10 : Int32, v10 = v8 &&& ((-2 : Int32) ||| v7) → (∀ v11 : Int32, v11 = x5 + 1 → PS M 6 [(0, .ref x0), (2, .int x2), (3, .ref x3), (4, .int v10), (5, .int v11)] [] σ (0, 0)))) ∧ (v4 = (-3 : Int32) → (∀ v12 : Int32, v12 = v8 ||| v7 → (∀ v13 : Int32, v13 = x5 + 1 → PS M 6 [(0, .ref x0), (2, .int x2), (3, .ref x3), (4, .int v12), (5, .int v13)] [] σ (0, 0)))))))) ∧ (v4 = (-1 : Int32) → (∀ v14 : Int32, v14 = x4 ^^^ (1 : Int32) → (∀ v15 : Int32, v15 = x5 + 1 → PS M 6 [(0, .ref x0), (2, .int x2), (3, .ref x3), (4, .int v14), (5, .int v15)] [] σ (0, 0)))))) ∧ (¬ v4 < 0 → (vp_in (v4 / (300 : Int32)) nx3 ∧ (∀ v17 : Int32, v17 = (gi σ x3 (v4 / (300 : Int32)).toNatClampNeg) - (v4 - v4 / (100 : Int32) * (100 : Int32)) → (∀ v18 : Int32, v18 = (v4 / (100 : Int32)) - (v4 / (100 : Int32)) / (3 : Int32) * (3 : Int32) → ((¬ v18 = 0 → ((¬ v18 = (1 : Int32) → ((v17 ≤ 0 → PS M 107 [(0, .ref x0), (2, .int x2), (3, .ref x3), (4, .int x4), (5, .int x5)] [.int (0 : Int32)] σ (0, 0)) ∧ (¬ v17 ≤ 0 → PS M 107 [(0, .ref x0), (2, .int x2), (3, .ref x3), (4, .int x4), (5, .int x5)] [.int (1 : Int32)] σ (0, 0)))) ∧ (v18 = (1 : Int32) → ((¬ v17 = 0 → PS M 107 [(0, .ref x0), (2, .int x2), (3, .ref x3), (4, .int x4), (5, .int x5)] [.int (0 : Int32)] σ (0, 0)) ∧ (v17 = 0 → PS M 107 [(0, .ref x0), (2, .int x2), (3, .ref x3), (4, .int x4), (5, .int x5)] [.int (1 : Int32)] σ (0, 0)))))) ∧ (v18 = 0 → ((0 ≤ v17 → PS M 107 [(0, .ref x0), (2, .int x2), (3, .ref x3), (4, .int x4), (5, .int x5)] [.int (0 : Int32)] σ (0, 0)) ∧ (¬ 0 ≤ v17 → PS M 107 [(0, .ref x0), (2, .int x2), (3, .ref x3), (4, .int x4), (5, .int x5)] [.int (1 : Int32)] σ (0, 0))))))))))))))))) : PS M 6 [(0, .ref x0), (2, .int x2), (3, .ref x3), (4, .int x4), (5, .int x5)] [] σ (0, 0) := by
  refine P_iload C dX2_holds_6 4 rfl ?_
  refine P_iload_n C dX2_holds_8 1 rfl ?_
  refine P_icmp_ge C dX2_holds_9 (tgt := 187) (by decide) (fun q1 => ?_) (fun q1 => ?_)
  · have h := h.1 q1
    exact P_sub [3] rfl h
  · have h := h.2 q1
    refine P_iload C dX2_holds_12 4 rfl ?_
    refine P_aload_n C dX2_holds_14 0 rfl ?_
    refine P_getI C fa_X2_holds_25 hx0 rfl lx0 dX2_holds_15 ?_
    refine P_icmp_ge C dX2_holds_18 (tgt := 187) (by decide) (fun q2 => ?_) (fun q2 => ?_)
    · have h := h.1 q2
      exact P_sub [3] rfl h
    · have h := h.2 q2
      refine P_aload_n C dX2_holds_21 0 rfl ?_
      refine P_getS C (e := (x0 + 1)) fa_X2_holds_21 hx0 (d := 1) rfl lx0 rfl dX2_holds_22 ?_
      refine P_iload C dX2_holds_25 4 rfl ?_
      obtain ⟨hv3, h⟩ := h
      refine P_iald C (kdF_1 hx0) (lvF_1 C hx0 lx0) hv3 dX2_holds_27 ?_
      refine P_nmi (fun v4 ev4 => ?_)
      have h := h v4 ev4
      refine P_istore C dX2_holds_28 (by rw [hN]; decide) rfl ?_
      refine P_iload C dX2_holds_30 0 rfl ?_
      refine P_if_lt C dX2_holds_32 (tgt := 129) (by decide) (fun q5 => ?_) (fun q5 => ?_)
      · have h := h.1 q5
        refine P_iload C dX2_holds_129 0 rfl ?_
        refine P_iconst C dX2_holds_131 (v := (-1 : Int32)) rfl ?_
        refine P_icmp_ne C dX2_holds_132 (tgt := 144) (by decide) (fun q6 => ?_) (fun q6 => ?_)
        · have h := h.1 q6
          refine P_iload C dX2_holds_144 4 rfl ?_
          refine P_iconst C dX2_holds_146 (v := (1 : Int32)) rfl ?_
          refine P_iand C dX2_holds_147 ?_
          refine P_nmi (fun v7 ev7 => ?_)
          have h := h v7 ev7
          refine P_istore C dX2_holds_148 (by rw [hN]; decide) rfl ?_
          refine P_iload C dX2_holds_150 5 rfl ?_
          refine P_iconst C dX2_holds_152 (v := (1 : Int32)) rfl ?_
          refine P_ishr C dX2_holds_153 ?_
          refine P_nmi (fun v8 ev8 => ?_)
          have h := h v8 ev8
          refine P_istore C dX2_holds_154 (by rw [hN]; decide) rfl ?_
          refine P_iload C dX2_holds_156 2 rfl ?_
          refine P_bipush C dX2_holds_158 (v := (-3 : Int32)) rfl ?_
          refine P_icmp_ne C dX2_holds_160 (tgt := 171) (by decide) (fun q9 => ?_) (fun q9 => ?_)
          · have h := h.1 q9
            refine P_iload C dX2_holds_171 0 rfl ?_
            refine P_bipush C dX2_holds_173 (v := (-2 : Int32)) rfl ?_
            refine P_iload C dX2_holds_175 1 rfl ?_
            refine P_ior C dX2_holds_177 ?_
            refine P_iand C dX2_holds_178 ?_
            refine P_nmi (fun v10 ev10 => ?_)
            have h := h v10 ev10
            refine P_istore C dX2_holds_179 (by rw [hN]; decide) rfl ?_
            obtain ⟨v11, ev11⟩ : ∃ v : Int32, v = x5 + 1 := ⟨_, rfl⟩
            have h := h v11 ev11
            refine P_iinc (v := v11) C dX2_holds_181 6 rfl (by rw [ev11]; rfl) (by rw [hN]; decide) rfl ?_
            refine P_goto C dX2_holds_184 (tgt := 6) (by decide) ?_
            exact P_sub [4, 5, 6, 1, 0] rfl h
          · have h := h.2 q9
            refine P_iload C dX2_holds_163 0 rfl ?_
            refine P_iload C dX2_holds_165 1 rfl ?_
            refine P_ior C dX2_holds_167 ?_
            refine P_goto C dX2_holds_168 (tgt := 179) (by decide) ?_
            refine P_nmi (fun v12 ev12 => ?_)
            have h := h v12 ev12
            refine P_istore C dX2_holds_179 (by rw [hN]; decide) rfl ?_
            obtain ⟨v13, ev13⟩ : ∃ v : Int32, v = x5 + 1 := ⟨_, rfl⟩
            have h := h v13 ev13
            refine P_iinc (v := v13) C dX2_holds_181 6 rfl (by rw [ev13]; rfl) (by rw [hN]; decide) rfl ?_
            refine P_goto C dX2_holds_184 (tgt := 6) (by decide) ?_
            exact P_sub [4, 5, 6, 1, 0] rfl h
        · have h := h.2 q6
          refine P_iload C dX2_holds_135 4 rfl ?_
          refine P_iconst C dX2_holds_137 (v := (1 : Int32)) rfl ?_
          refine P_ixor C dX2_holds_138 ?_
          refine P_nmi (fun v14 ev14 => ?_)
          have h := h v14 ev14
          refine P_istore C dX2_holds_139 (by rw [hN]; decide) rfl ?_
          refine P_goto C dX2_holds_141 (tgt := 181) (by decide) ?_
          obtain ⟨v15, ev15⟩ : ∃ v : Int32, v = x5 + 1 := ⟨_, rfl⟩
          have h := h v15 ev15
          refine P_iinc (v := v15) C dX2_holds_181 5 rfl (by rw [ev15]; rfl) (by rw [hN]; decide) rfl ?_
          refine P_goto C dX2_holds_184 (tgt := 6) (by decide) ?_
          exact P_sub [3, 4, 5, 1, 0] rfl h
      · have h := h.2 q5
        refine P_aload_n C dX2_holds_35 3 rfl ?_
        refine P_iload C dX2_holds_36 0 rfl ?_
        refine P_sipush C dX2_holds_38 (v := (300 : Int32)) rfl ?_
        refine P_idiv C dX2_holds_41 (by decide) ?_
        obtain ⟨hv16, h⟩ := h
        refine P_iald C hx3 lx3 hv16 dX2_holds_42 ?_
        refine P_iload C dX2_holds_43 0 rfl ?_
        refine P_bipush C dX2_holds_45 (v := (100 : Int32)) rfl ?_
        refine P_irem C dX2_holds_47 (by decide) ?_
        refine P_isub C dX2_holds_48 ?_
        refine P_nmi (fun v17 ev17 => ?_)
        have h := h v17 ev17
        refine P_istore C dX2_holds_49 (by rw [hN]; decide) rfl ?_
        refine P_iload C dX2_holds_51 1 rfl ?_
        refine P_bipush C dX2_holds_53 (v := (100 : Int32)) rfl ?_
        refine P_idiv C dX2_holds_55 (by decide) ?_
        refine P_iconst C dX2_holds_56 (v := (3 : Int32)) rfl ?_
        refine P_irem C dX2_holds_57 (by decide) ?_
        refine P_nmi (fun v18 ev18 => ?_)
        have h := h v18 ev18
        refine P_istore C dX2_holds_58 (by rw [hN]; decide) rfl ?_
        refine P_iload C dX2_holds_60 0 rfl ?_
        refine P_if_ne C dX2_holds_62 (tgt := 78) (by decide) (fun q19 => ?_) (fun q19 => ?_)
        · have h := h.1 q19
          refine P_iload C dX2_holds_78 0 rfl ?_
          refine P_iconst C dX2_holds_80 (v := (1 : Int32)) rfl ?_
          refine P_icmp_ne C dX2_holds_81 (tgt := 97) (by decide) (fun q20 => ?_) (fun q20 => ?_)
          · have h := h.1 q20
            refine P_iload C dX2_holds_97 1 rfl ?_
            refine P_if_le C dX2_holds_99 (tgt := 106) (by decide) (fun q21 => ?_) (fun q21 => ?_)
            · have h := h.1 q21
              refine P_iconst C dX2_holds_106 (v := (0 : Int32)) rfl ?_
              exact P_sub [3, 4, 5, 6, 7] rfl h
            · have h := h.2 q21
              refine P_iconst C dX2_holds_102 (v := (1 : Int32)) rfl ?_
              refine P_goto C dX2_holds_103 (tgt := 107) (by decide) ?_
              exact P_sub [3, 4, 5, 6, 7] rfl h
          · have h := h.2 q20
            refine P_iload C dX2_holds_84 1 rfl ?_
            refine P_if_ne C dX2_holds_86 (tgt := 93) (by decide) (fun q22 => ?_) (fun q22 => ?_)
            · have h := h.1 q22
              refine P_iconst C dX2_holds_93 (v := (0 : Int32)) rfl ?_
              refine P_goto C dX2_holds_94 (tgt := 107) (by decide) ?_
              exact P_sub [3, 4, 5, 6, 7] rfl h
            · have h := h.2 q22
              refine P_iconst C dX2_holds_89 (v := (1 : Int32)) rfl ?_
              refine P_goto C dX2_holds_90 (tgt := 107) (by decide) ?_
              exact P_sub [3, 4, 5, 6, 7] rfl h
        · have h := h.2 q19
          refine P_iload C dX2_holds_65 1 rfl ?_
          refine P_if_ge C dX2_holds_67 (tgt := 74) (by decide) (fun q23 => ?_) (fun q23 => ?_)
          · have h := h.1 q23
            refine P_iconst C dX2_holds_74 (v := (0 : Int32)) rfl ?_
            refine P_goto C dX2_holds_75 (tgt := 107) (by decide) ?_
            exact P_sub [3, 4, 5, 6, 7] rfl h
          · have h := h.2 q23
            refine P_iconst C dX2_holds_70 (v := (1 : Int32)) rfl ?_
            refine P_goto C dX2_holds_71 (tgt := 107) (by decide) ?_
            exact P_sub [3, 4, 5, 6, 7] rfl h
set_option maxRecDepth 100000 in
set_option maxHeartbeats 4000000 in
theorem s_X2_holds_187 {M : Mx} {Qk : Int32 → Sg → Prop} (C : Cx M cX2_holds (some .boolean) RX2 wsX2_holds (rmz 0) 0 0 (QI (mV M) Qk)) (hN : mN M = 10) {x4 : Int32} {σ : Sg} (h : ((¬ (x4 &&& (1 : Int32)) = (1 : Int32) → Qk (0 : Int32) σ) ∧ ((x4 &&& (1 : Int32)) = (1 : Int32) → Qk (1 : Int32) σ))) : PS M 187 [(4, .int x4)] [] σ (0, 0) := by
  refine P_iload C dX2_holds_187 0 rfl ?_
  refine P_iconst C dX2_holds_189 (v := (1 : Int32)) rfl ?_
  refine P_iand C dX2_holds_190 ?_
  refine P_iconst C dX2_holds_191 (v := (1 : Int32)) rfl ?_
  refine P_icmp_ne C dX2_holds_192 (tgt := 199) (by decide) (fun q1 => ?_) (fun q1 => ?_)
  · have h := h.1 q1
    refine P_iconst C dX2_holds_199 (v := (0 : Int32)) rfl ?_
    exact P_zret C (by decide) dX2_holds_200 h
  · have h := h.2 q1
    refine P_iconst C dX2_holds_195 (v := (1 : Int32)) rfl ?_
    refine P_goto C dX2_holds_196 (tgt := 200) (by decide) ?_
    exact P_zret C (by decide) dX2_holds_200 h
set_option maxRecDepth 100000 in
set_option maxHeartbeats 4000000 in
theorem s_X2_holds_107 {M : Mx} {Qk : Int32 → Sg → Prop} (C : Cx M cX2_holds (some .boolean) RX2 wsX2_holds (rmz 0) 0 0 (QI (mV M) Qk)) (hN : mN M = 10) {x0 : Nat} {x2 : Int32} {x3 : Nat} {x4 : Int32} {x5 : Int32} {z0 : Int32} (hx0 : kd x0 = (12, 0)) (lx0 : x0 ∈ ids (mV M)) {nx3 : Nat} (hx3 : kd x3 = (0, nx3)) (lx3 : x3 ∈ ids (mV M)) {σ : Sg} (h : ((z0 = 0 → (∀ v2 : Int32, v2 = (x4 <<< ((1 : Int32) &&& 31)) ||| (0 : Int32) → (∀ v3 : Int32, v3 = x5 + 1 → PS M 6 [(0, .ref x0), (2, .int x2), (3, .ref x3), (4, .int v2), (5, .int v3)] [] σ (0, 0)))) ∧ (¬ z0 = 0 → (∀ v4 : Int32, v4 = (x4 <<< ((1 : Int32) &&& 31)) ||| (1 : Int32) → (∀ v5 : Int32, v5 = x5 + 1 → PS M 6 [(0, .ref x0), (2, .int x2), (3, .ref x3), (4, .int v4), (5, .int v5)] [] σ (0, 0)))))) : PS M 107 [(0, .ref x0), (2, .int x2), (3, .ref x3), (4, .int x4), (5, .int x5)] [.int z0] σ (0, 0) := by
  refine P_istore C dX2_holds_107 (by rw [hN]; decide) rfl ?_
  refine P_iload C dX2_holds_109 4 rfl ?_
  refine P_iconst C dX2_holds_111 (v := (1 : Int32)) rfl ?_
  refine P_ishl C dX2_holds_112 ?_
  refine P_iload C dX2_holds_113 0 rfl ?_
  refine P_if_eq C dX2_holds_115 (tgt := 122) (by decide) (fun q1 => ?_) (fun q1 => ?_)
  · have h := h.1 q1
    refine P_iconst C dX2_holds_122 (v := (0 : Int32)) rfl ?_
    refine P_ior C dX2_holds_123 ?_
    refine P_nmi (fun v2 ev2 => ?_)
    have h := h v2 ev2
    refine P_istore C dX2_holds_124 (by rw [hN]; decide) rfl ?_
    refine P_goto C dX2_holds_126 (tgt := 181) (by decide) ?_
    obtain ⟨v3, ev3⟩ : ∃ v : Int32, v = x5 + 1 := ⟨_, rfl⟩
    have h := h v3 ev3
    refine P_iinc (v := v3) C dX2_holds_181 5 rfl (by rw [ev3]; rfl) (by rw [hN]; decide) rfl ?_
    refine P_goto C dX2_holds_184 (tgt := 6) (by decide) ?_
    exact P_sub [3, 4, 5, 1, 0] rfl h
  · have h := h.2 q1
    refine P_iconst C dX2_holds_118 (v := (1 : Int32)) rfl ?_
    refine P_goto C dX2_holds_119 (tgt := 123) (by decide) ?_
    refine P_ior C dX2_holds_123 ?_
    refine P_nmi (fun v4 ev4 => ?_)
    have h := h v4 ev4
    refine P_istore C dX2_holds_124 (by rw [hN]; decide) rfl ?_
    refine P_goto C dX2_holds_126 (tgt := 181) (by decide) ?_
    obtain ⟨v5, ev5⟩ : ∃ v : Int32, v = x5 + 1 := ⟨_, rfl⟩
    have h := h v5 ev5
    refine P_iinc (v := v5) C dX2_holds_181 5 rfl (by rw [ev5]; rfl) (by rw [hN]; decide) rfl ?_
    refine P_goto C dX2_holds_184 (tgt := 6) (by decide) ?_
    exact P_sub [3, 4, 5, 1, 0] rfl h
theorem fa_X2_fault_47 : FA RX2 wsX2_fault 47 2 11 "NineMowers$Field" := by
  show _ ∧ _ ∧ _ ∧ _
  exact ⟨by decide, fun _ h => List.mem_cons_of_mem _ (List.mem_append_right _ h), List.mem_of_getElem? (i := 1) rfl, Or.inl rfl⟩
noncomputable def K_X2_fault (l : Launch) (V : Vx) (c0 : Nat) (σ : Sg) (Qk : Int32 → Sg → Prop) : Prop := Ka l V yX2_fault wsX2_fault (rmz 0) 0 0 [.ref c0] σ (QI V Qk)
theorem e_X2_fault {l : Launch} {V : Vx} {c0 : Nat} {σ : Sg} {Qk : Int32 → Sg → Prop} (h : ∀ M : Mx, mL M = l → mV M = V → mN M = 1 → Cx M cX2_fault (some .int) RX2 wsX2_fault (rmz 0) 0 0 (QI (mV M) Qk) → PS M 0 [(0, .ref c0)] [] σ (0, 0)) : K_X2_fault l V c0 σ Qk :=
  Ka_of (by decide +kernel) rfl rfl (Nat.le_of_ble_eq_true rfl) (fun M h1 h2 h3 C => h M h1 h2 h3 (by rw [h2]; exact C))
set_option maxRecDepth 100000 in
set_option maxHeartbeats 4000000 in
theorem s_X2_fault_0 {M : Mx} {Qk : Int32 → Sg → Prop} (C : Cx M cX2_fault (some .int) RX2 wsX2_fault (rmz 0) 0 0 (QI (mV M) Qk)) (hN : mN M = 1) {c0 : Nat} (hc0 : kd c0 = (12, 0)) (lc0 : c0 ∈ ids (mV M)) {σ : Sg} (h : Qk (gi σ c0 11) σ) : PS M 0 [(0, .ref c0)] [] σ (0, 0) := by
  refine P_aload_n C dX2_fault_0 0 rfl ?_
  refine P_getI C fa_X2_fault_47 hc0 rfl lc0 dX2_fault_1 ?_
  exact P_iret C dX2_fault_4 h
theorem km_X2_keeps_max : KM RX2 wsX2_keeps 107 Lib.Math.max.name Lib.Math.max.code := ⟨List.mem_of_getElem? (i := 3) rfl, List.mem_of_getElem? (i := 4) rfl, List.mem_of_getElem? (i := 5) rfl, List.mem_of_getElem? (i := 6) rfl⟩
theorem pa_X2_keeps_18 : PA RX2 wsX2_keeps 18 2 2 "NineMowers$Field" .int := by
  show _ ∧ _ ∧ _ ∧ _ ∧ _ ∧ _ ∧ _ ∧ _
  exact ⟨by decide, fun _ h => List.mem_cons_of_mem _ (List.mem_append_right _ h), List.mem_of_getElem? (i := 7) rfl, rfl, rfl, by decide +kernel, ⟨tyX2, tyX2_ok⟩, nmX2⟩
theorem pa_X2_keeps_15 : PA RX2 wsX2_keeps 15 2 1 "NineMowers$Field" .int := by
  show _ ∧ _ ∧ _ ∧ _ ∧ _ ∧ _ ∧ _ ∧ _
  exact ⟨by decide, fun _ h => List.mem_cons_of_mem _ (List.mem_append_right _ h), List.mem_of_getElem? (i := 2) rfl, rfl, rfl, by decide +kernel, ⟨tyX2, tyX2_ok⟩, nmX2⟩
theorem pa_X2_keeps_9 : PA RX2 wsX2_keeps 9 2 0 "NineMowers$Field" .int := by
  show _ ∧ _ ∧ _ ∧ _ ∧ _ ∧ _ ∧ _ ∧ _
  exact ⟨by decide, fun _ h => List.mem_cons_of_mem _ (List.mem_append_right _ h), List.mem_of_getElem? (i := 1) rfl, rfl, rfl, by decide +kernel, ⟨tyX2, tyX2_ok⟩, nmX2⟩
theorem fa_X2_keeps_37 : FA RX2 wsX2_keeps 37 2 8 "NineMowers$Field" := by
  show _ ∧ _ ∧ _ ∧ _
  exact ⟨by decide, fun _ h => List.mem_cons_of_mem _ (List.mem_append_right _ h), List.mem_of_getElem? (i := 8) rfl, Or.inl rfl⟩
theorem fa_X2_keeps_28 : FA RX2 wsX2_keeps 28 2 5 "NineMowers$Field" := by
  show _ ∧ _ ∧ _ ∧ _
  exact ⟨by decide, fun _ h => List.mem_cons_of_mem _ (List.mem_append_right _ h), List.mem_of_getElem? (i := 9) rfl, Or.inl rfl⟩
theorem fa_X2_keeps_31 : FA RX2 wsX2_keeps 31 2 6 "NineMowers$Field" := by
  show _ ∧ _ ∧ _ ∧ _
  exact ⟨by decide, fun _ h => List.mem_cons_of_mem _ (List.mem_append_right _ h), List.mem_of_getElem? (i := 10) rfl, Or.inl rfl⟩
theorem fa_X2_keeps_34 : FA RX2 wsX2_keeps 34 2 7 "NineMowers$Field" := by
  show _ ∧ _ ∧ _ ∧ _
  exact ⟨by decide, fun _ h => List.mem_cons_of_mem _ (List.mem_append_right _ h), List.mem_of_getElem? (i := 11) rfl, Or.inl rfl⟩
theorem fa_X2_keeps_25 : FA RX2 wsX2_keeps 25 2 4 "NineMowers$Field" := by
  show _ ∧ _ ∧ _ ∧ _
  exact ⟨by decide, fun _ h => List.mem_cons_of_mem _ (List.mem_append_right _ h), List.mem_of_getElem? (i := 12) rfl, Or.inl rfl⟩
theorem pa_X2_keeps_37 : PA RX2 wsX2_keeps 37 2 8 "NineMowers$Field" .int := by
  show _ ∧ _ ∧ _ ∧ _ ∧ _ ∧ _ ∧ _ ∧ _
  exact ⟨by decide, fun _ h => List.mem_cons_of_mem _ (List.mem_append_right _ h), List.mem_of_getElem? (i := 8) rfl, rfl, rfl, by decide +kernel, ⟨tyX2, tyX2_ok⟩, nmX2⟩
noncomputable def K_X2_keeps (l : Launch) (V : Vx) (c0 : Nat) (a1 : Int32) (a2 : Int32) (σ : Sg) (Qk : Sg → Prop) : Prop := Ka l V yX2_keeps wsX2_keeps (rmz 1) 0 0 [.ref c0, .int a1, .int a2] σ (QV V Qk)
theorem e_X2_keeps {l : Launch} {V : Vx} {c0 : Nat} {a1 : Int32} {a2 : Int32} {σ : Sg} {Qk : Sg → Prop} (h : ∀ M : Mx, mL M = l → mV M = V → mN M = 3 → Cx M cX2_keeps none RX2 wsX2_keeps (rmz 1) 0 0 (QV (mV M) Qk) → PS M 0 [(0, .ref c0), (1, .int a1), (2, .int a2)] [] σ (0, 0)) : K_X2_keeps l V c0 a1 a2 σ Qk :=
  Ka_of (by decide +kernel) rfl rfl (Nat.le_of_ble_eq_true rfl) (fun M h1 h2 h3 C => h M h1 h2 h3 (by rw [h2]; exact C))
set_option maxRecDepth 100000 in
set_option maxHeartbeats 4000000 in
theorem s_X2_keeps_0 {M : Mx} {Qk : Sg → Prop} (C : Cx M cX2_keeps none RX2 wsX2_keeps (rmz 1) 0 0 (QV (mV M) Qk)) (hN : mN M = 3) {c0 : Nat} {a1 : Int32} {a2 : Int32} (hc0 : kd c0 = (12, 0)) (lc0 : c0 ∈ ids (mV M)) {σ : Sg} (h : ((¬ a1 = (2 : Int32) → ((¬ a1 = (3 : Int32) → ((a1 ≤ (3 : Int32) → PS M 40 [(0, .ref c0), (1, .int a1), (2, .int a2)] [] σ (0, 0)) ∧ (¬ a1 ≤ (3 : Int32) → (∀ v4 : Int32, v4 = jmax (1 : Int32) a2 → (∀ σ5 : Sg, σ5 = si σ c0 2 v4 → PS M 40 [(0, .ref c0), (1, .int a1), (2, .int a2)] [] σ5 (0, 0)))))) ∧ (a1 = (3 : Int32) → (∀ σ6 : Sg, σ6 = si σ c0 1 a2 → PS M 40 [(0, .ref c0), (1, .int a1), (2, .int a2)] [] σ6 (0, 0))))) ∧ (a1 = (2 : Int32) → (∀ σ7 : Sg, σ7 = si σ c0 0 a2 → PS M 40 [(0, .ref c0), (1, .int a1), (2, .int a2)] [] σ7 (0, 0))))) : PS M 0 [(0, .ref c0), (1, .int a1), (2, .int a2)] [] σ (0, 0) := by
  refine P_iload_n C dX2_keeps_0 1 rfl ?_
  refine P_iconst C dX2_keeps_1 (v := (2 : Int32)) rfl ?_
  refine P_icmp_ne C dX2_keeps_2 (tgt := 13) (by decide) (fun q1 => ?_) (fun q1 => ?_)
  · have h := h.1 q1
    refine P_iload_n C dX2_keeps_13 1 rfl ?_
    refine P_iconst C dX2_keeps_14 (v := (3 : Int32)) rfl ?_
    refine P_icmp_ne C dX2_keeps_15 (tgt := 26) (by decide) (fun q2 => ?_) (fun q2 => ?_)
    · have h := h.1 q2
      refine P_iload_n C dX2_keeps_26 1 rfl ?_
      refine P_iconst C dX2_keeps_27 (v := (3 : Int32)) rfl ?_
      refine P_icmp_le C dX2_keeps_28 (tgt := 40) (by decide) (fun q3 => ?_) (fun q3 => ?_)
      · have h := h.1 q3
        exact P_sub [0, 1, 2] rfl h
      · have h := h.2 q3
        refine P_aload_n C dX2_keeps_31 0 rfl ?_
        refine P_iconst C dX2_keeps_32 (v := (1 : Int32)) rfl ?_
        refine P_iload_n C dX2_keeps_33 2 rfl ?_
        refine P_max C km_X2_keeps_max (by decide) (Nat.le_of_ble_eq_true rfl) ⟨Nat.le_refl _, Nat.le_refl _⟩ dX2_keeps_34 ?_
        refine P_nmi (fun v4 ev4 => ?_)
        have h := h v4 ev4
        refine P_putI C pa_X2_keeps_18 hc0 rfl lc0 dX2_keeps_37 ?_
        refine P_nm (fun σ5 eσ5 => ?_)
        have h := h σ5 eσ5
        exact P_sub [0, 1, 2] rfl h
    · have h := h.2 q2
      refine P_aload_n C dX2_keeps_18 0 rfl ?_
      refine P_iload_n C dX2_keeps_19 2 rfl ?_
      refine P_putI C pa_X2_keeps_15 hc0 rfl lc0 dX2_keeps_20 ?_
      refine P_nm (fun σ6 eσ6 => ?_)
      have h := h σ6 eσ6
      refine P_goto C dX2_keeps_23 (tgt := 40) (by decide) ?_
      exact P_sub [0, 1, 2] rfl h
  · have h := h.2 q1
    refine P_aload_n C dX2_keeps_5 0 rfl ?_
    refine P_iload_n C dX2_keeps_6 2 rfl ?_
    refine P_putI C pa_X2_keeps_9 hc0 rfl lc0 dX2_keeps_7 ?_
    refine P_nm (fun σ7 eσ7 => ?_)
    have h := h σ7 eσ7
    refine P_goto C dX2_keeps_10 (tgt := 40) (by decide) ?_
    exact P_sub [0, 1, 2] rfl h
set_option maxRecDepth 100000 in
set_option maxHeartbeats 4000000 in
theorem s_X2_keeps_40 {M : Mx} {Qk : Sg → Prop} (C : Cx M cX2_keeps none RX2 wsX2_keeps (rmz 1) 0 0 (QV (mV M) Qk)) (hN : mN M = 3) {x0 : Nat} {x1 : Int32} {x2 : Int32} (hx0 : kd x0 = (12, 0)) (lx0 : x0 ∈ ids (mV M)) {σ : Sg} (h : (((10 : Int32) ≤ (gi σ x0 8) → Qk σ) ∧ (¬ (10 : Int32) ≤ (gi σ x0 8) → (vp_in (gi σ x0 8) 10 ∧ (∀ σ3 : Sg, σ3 = si σ (x0 + 2) (gi σ x0 8).toNatClampNeg x1 → (vp_in (gi σ3 x0 8) 10 ∧ (∀ σ5 : Sg, σ5 = si σ3 (x0 + 3) (gi σ3 x0 8).toNatClampNeg x2 → (vp_in (gi σ5 x0 8) 10 ∧ (∀ σ7 : Sg, σ7 = si σ5 (x0 + 4) (gi σ5 x0 8).toNatClampNeg (gi σ5 x0 4) → (∀ σ8 : Sg, σ8 = si σ7 x0 8 ((gi σ7 x0 8) + (1 : Int32)) → Qk σ8)))))))))) : PS M 40 [(0, .ref x0), (1, .int x1), (2, .int x2)] [] σ (0, 0) := by
  refine P_aload_n C dX2_keeps_40 0 rfl ?_
  refine P_getI C fa_X2_keeps_37 hx0 rfl lx0 dX2_keeps_41 ?_
  refine P_bipush C dX2_keeps_44 (v := (10 : Int32)) rfl ?_
  refine P_icmp_ge C dX2_keeps_46 (tgt := 92) (by decide) (fun q1 => ?_) (fun q1 => ?_)
  · have h := h.1 q1
    exact P_vret C dX2_keeps_92 h
  · have h := h.2 q1
    refine P_aload_n C dX2_keeps_49 0 rfl ?_
    refine P_getS C (e := (x0 + 2)) fa_X2_keeps_28 hx0 (d := 2) rfl lx0 rfl dX2_keeps_50 ?_
    refine P_aload_n C dX2_keeps_53 0 rfl ?_
    refine P_getI C fa_X2_keeps_37 hx0 rfl lx0 dX2_keeps_54 ?_
    refine P_iload_n C dX2_keeps_57 1 rfl ?_
    obtain ⟨hv2, h⟩ := h
    refine P_iast C (kdF_2 hx0) (lvF_2 C hx0 lx0) hv2 dX2_keeps_58 ?_
    refine P_nm (fun σ3 eσ3 => ?_)
    have h := h σ3 eσ3
    refine P_aload_n C dX2_keeps_59 0 rfl ?_
    refine P_getS C (e := (x0 + 3)) fa_X2_keeps_31 hx0 (d := 3) rfl lx0 rfl dX2_keeps_60 ?_
    refine P_aload_n C dX2_keeps_63 0 rfl ?_
    refine P_getI C fa_X2_keeps_37 hx0 rfl lx0 dX2_keeps_64 ?_
    refine P_iload_n C dX2_keeps_67 2 rfl ?_
    obtain ⟨hv4, h⟩ := h
    refine P_iast C (kdF_3 hx0) (lvF_3 C hx0 lx0) hv4 dX2_keeps_68 ?_
    refine P_nm (fun σ5 eσ5 => ?_)
    have h := h σ5 eσ5
    refine P_aload_n C dX2_keeps_69 0 rfl ?_
    refine P_getS C (e := (x0 + 4)) fa_X2_keeps_34 hx0 (d := 4) rfl lx0 rfl dX2_keeps_70 ?_
    refine P_aload_n C dX2_keeps_73 0 rfl ?_
    refine P_getI C fa_X2_keeps_37 hx0 rfl lx0 dX2_keeps_74 ?_
    refine P_aload_n C dX2_keeps_77 0 rfl ?_
    refine P_getI C fa_X2_keeps_25 hx0 rfl lx0 dX2_keeps_78 ?_
    obtain ⟨hv6, h⟩ := h
    refine P_iast C (kdF_4 hx0) (lvF_4 C hx0 lx0) hv6 dX2_keeps_81 ?_
    refine P_nm (fun σ7 eσ7 => ?_)
    have h := h σ7 eσ7
    refine P_aload_n C dX2_keeps_82 0 rfl ?_
    refine P_dup C dX2_keeps_83 rfl ?_
    refine P_getI C fa_X2_keeps_37 hx0 rfl lx0 dX2_keeps_84 ?_
    refine P_iconst C dX2_keeps_87 (v := (1 : Int32)) rfl ?_
    refine P_iadd C dX2_keeps_88 ?_
    refine P_putI C pa_X2_keeps_37 hx0 rfl lx0 dX2_keeps_89 ?_
    refine P_nm (fun σ8 eσ8 => ?_)
    have h := h σ8 eσ8
    exact P_vret C dX2_keeps_92 h
