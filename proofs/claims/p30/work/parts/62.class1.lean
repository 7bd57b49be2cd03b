theorem fa_X2_paceOf_37 : FA RX2 wsX2_paceOf 37 2 8 "NineMowers$Field" := by
  show _ ∧ _ ∧ _ ∧ _
  exact ⟨by decide +kernel, fun _ h => List.mem_cons_of_mem _ (List.mem_append_right _ h), List.mem_of_getElem? (i := 1) rfl, Or.inl rfl⟩
theorem fa_X2_paceOf_28 : FA RX2 wsX2_paceOf 28 2 5 "NineMowers$Field" := by
  show _ ∧ _ ∧ _ ∧ _
  exact ⟨by decide +kernel, fun _ h => List.mem_cons_of_mem _ (List.mem_append_right _ h), List.mem_of_getElem? (i := 2) rfl, Or.inl rfl⟩
theorem fa_X2_paceOf_34 : FA RX2 wsX2_paceOf 34 2 7 "NineMowers$Field" := by
  show _ ∧ _ ∧ _ ∧ _
  exact ⟨by decide +kernel, fun _ h => List.mem_cons_of_mem _ (List.mem_append_right _ h), List.mem_of_getElem? (i := 3) rfl, Or.inl rfl⟩
theorem kv_X2_paceOf_X2_holds : KV RX2 wsX2_paceOf (rmz 1) 137 RX2 yX2_holds wsX2_holds (rmz 0) 3 := ⟨_, _, _, _, gX2_paceOf_X2_holds, rfl, by decide +kernel, by decide +kernel⟩
theorem fa_X2_paceOf_31 : FA RX2 wsX2_paceOf 31 2 6 "NineMowers$Field" := by
  show _ ∧ _ ∧ _ ∧ _
  exact ⟨by decide +kernel, fun _ h => List.mem_cons_of_mem _ (List.mem_append_right _ h), List.mem_of_getElem? (i := 4) rfl, Or.inl rfl⟩
noncomputable def K_X2_paceOf (l : Launch) (V : Vx) (c0 : Nat) (a1 : Nat) (σ : Sg) (Qk : Int32 → Sg → Prop) : Prop := Ka l V yX2_paceOf wsX2_paceOf (rmz 1) 0 0 [.ref c0, .ref a1] σ (QI V Qk)
theorem e_X2_paceOf {l : Launch} {V : Vx} {c0 : Nat} {a1 : Nat} {σ : Sg} {Qk : Int32 → Sg → Prop} (h : ∀ M : Mx, mL M = l → mV M = V → mN M = 5 → Cx M cX2_paceOf (some .int) RX2 wsX2_paceOf (rmz 1) 0 0 (QI (mV M) Qk) → PS M 0 [(0, .ref c0), (1, .ref a1)] [] σ (0, 0)) : K_X2_paceOf l V c0 a1 σ Qk :=
  Ka_of (by decide +kernel) rfl rfl (Nat.le_of_ble_eq_true rfl) (fun M h1 h2 h3 C => h M h1 h2 h3 (by rw [h2]; exact C))
set_option maxRecDepth 100000 in
set_option maxHeartbeats 4000000 in
theorem s_X2_paceOf_0 {M : Mx} {Qk : Int32 → Sg → Prop} (C : Cx M cX2_paceOf (some .int) RX2 wsX2_paceOf (rmz 1) 0 0 (QI (mV M) Qk)) (hN : mN M = 5) {c0 : Nat} {a1 : Nat} (hc0 : kd c0 = (12, 0)) (lc0 : c0 ∈ ids (mV M)) {na1 : Nat} (ha1 : kd a1 = (0, na1)) (la1 : a1 ∈ ids (mV M)) {σ : Sg} (h : PS M 8 [(0, .ref c0), (1, .ref a1), (2, .int (6 : Int32)), (3, .int (0 : Int32)), (4, .int (0 : Int32))] [] σ (0, 0)) : PS M 0 [(0, .ref c0), (1, .ref a1)] [] σ (0, 0) := by
  refine P_bipush C dX2_paceOf_0 (v := (6 : Int32)) rfl ?_
  refine P_istore_n C dX2_paceOf_2 (by rw [hN]; decide) rfl ?_
  refine P_iconst C dX2_paceOf_3 (v := (0 : Int32)) rfl ?_
  refine P_istore_n C dX2_paceOf_4 (by rw [hN]; decide) rfl ?_
  refine P_iconst C dX2_paceOf_5 (v := (0 : Int32)) rfl ?_
  refine P_istore C dX2_paceOf_6 (by rw [hN]; decide) rfl ?_
  exact P_sub [3, 4, 2, 1, 0] rfl h
set_option maxRecDepth 100000 in
set_option maxHeartbeats 4000000 in
theorem s_X2_paceOf_8 {M : Mx} {Qk : Int32 → Sg → Prop} (C : Cx M cX2_paceOf (some .int) RX2 wsX2_paceOf (rmz 1) 0 0 (QI (mV M) Qk)) (hN : mN M = 5) {x0 : Nat} {x1 : Nat} {x2 : Int32} {x3 : Int32} {x4 : Int32} (hx0 : kd x0 = (12, 0)) (lx0 : x0 ∈ ids (mV M)) {nx1 : Nat} (hx1 : kd x1 = (0, nx1)) (lx1 : x1 ∈ ids (mV M)) {σ : Sg} (h : (((gi σ x0 8) ≤ x4 → ((x2 ≤ 0 → Qk (0 : Int32) σ) ∧ (¬ x2 ≤ 0 → Qk x2 σ))) ∧ (¬ (gi σ x0 8) ≤ x4 → (vp_in x4 10 ∧ (((1 : Int32) < (gi σ (x0 + 2) x4.toNatClampNeg) → (vp_in x4 10 ∧ (∀ v6 : Int32, v6 = gi σ (x0 + 4) x4.toNatClampNeg → (∀ v7 : Int32, v7 = x4 + 1 → PS M 8 [(0, .ref x0), (1, .ref x1), (2, .int x2), (3, .int v6), (4, .int v7)] [] σ (0, 0))))) ∧ (¬ (1 : Int32) < (gi σ (x0 + 2) x4.toNatClampNeg) → (vp_in x4 10 ∧ K_X2_holds (mL M) (mV M) x0 x3 (gi σ (x0 + 4) x4.toNatClampNeg) x1 σ (fun r10 σ9 => ((r10 = 0 → (vp_in x4 10 ∧ (∀ v13 : Int32, v13 = gi σ9 (x0 + 4) x4.toNatClampNeg → (∀ v14 : Int32, v14 = x4 + 1 → PS M 8 [(0, .ref x0), (1, .ref x1), (2, .int x2), (3, .int v13), (4, .int v14)] [] σ9 (0, 0))))) ∧ (¬ r10 = 0 → (vp_in x4 10 ∧ ((¬ (gi σ9 (x0 + 2) x4.toNatClampNeg) = 0 → (vp_in x4 10 ∧ PS M 73 [(0, .ref x0), (1, .ref x1), (4, .int x4)] [.int (-(gi σ9 (x0 + 3) x4.toNatClampNeg)), .int x2] σ9 (0, 0))) ∧ ((gi σ9 (x0 + 2) x4.toNatClampNeg) = 0 → (vp_in x4 10 ∧ PS M 73 [(0, .ref x0), (1, .ref x1), (4, .int x4)] [.int (gi σ9 (x0 + 3) x4.toNatClampNeg), .int x2] σ9 (0, 0))))))))))))))) : PS M 8 [(0, .ref x0), (1, .ref x1), (2, .int x2), (3, .int x3), (4, .int x4)] [] σ (0, 0) := by
  refine P_iload C dX2_paceOf_8 4 rfl ?_
  refine P_aload_n C dX2_paceOf_10 0 rfl ?_
  refine P_getI C fa_X2_paceOf_37 hx0 rfl lx0 dX2_paceOf_11 ?_
  refine P_icmp_ge C dX2_paceOf_14 (tgt := 89) (by decide +kernel) (fun q1 => ?_) (fun q1 => ?_)
  · have h := h.1 q1
    refine P_iload_n C dX2_paceOf_89 2 rfl ?_
    refine P_if_le C dX2_paceOf_90 (tgt := 97) (by decide +kernel) (fun q2 => ?_) (fun q2 => ?_)
    · have h := h.1 q2
      refine P_iconst C dX2_paceOf_97 (v := (0 : Int32)) rfl ?_
      exact P_iret C dX2_paceOf_98 h
    · have h := h.2 q2
      refine P_iload_n C dX2_paceOf_93 2 rfl ?_
      refine P_goto C dX2_paceOf_94 (tgt := 98) (by decide +kernel) ?_
      exact P_iret C dX2_paceOf_98 h
  · have h := h.2 q1
    refine P_aload_n C dX2_paceOf_17 0 rfl ?_
    refine P_getS C (e := (x0 + 2)) fa_X2_paceOf_28 hx0 (d := 2) rfl lx0 rfl dX2_paceOf_18 ?_
    refine P_iload C dX2_paceOf_21 4 rfl ?_
    obtain ⟨hv3, h⟩ := h
    refine P_iald C (kdF_2 hx0) (lvF_2 C hx0 lx0) hv3 dX2_paceOf_23 ?_
    refine P_iconst C dX2_paceOf_24 (v := (1 : Int32)) rfl ?_
    refine P_icmp_gt C dX2_paceOf_25 (tgt := 75) (by decide +kernel) (fun q4 => ?_) (fun q4 => ?_)
    · have h := h.1 q4
      refine P_aload_n C dX2_paceOf_75 0 rfl ?_
      refine P_getS C (e := (x0 + 4)) fa_X2_paceOf_34 hx0 (d := 4) rfl lx0 rfl dX2_paceOf_76 ?_
      refine P_iload C dX2_paceOf_79 4 rfl ?_
      obtain ⟨hv5, h⟩ := h
      refine P_iald C (kdF_4 hx0) (lvF_4 C hx0 lx0) hv5 dX2_paceOf_81 ?_
      refine P_nmi (fun v6 ev6 => ?_)
      have h := h v6 ev6
      refine P_istore_n C dX2_paceOf_82 (by rw [hN]; decide) rfl ?_
      obtain ⟨v7, ev7⟩ : ∃ v : Int32, v = x4 + 1 := ⟨_, rfl⟩
      have h := h v7 ev7
      refine P_iinc (v := v7) C dX2_paceOf_83 4 rfl (by rw [ev7]; rfl) (by rw [hN]; decide) rfl ?_
      refine P_goto C dX2_paceOf_86 (tgt := 8) (by decide +kernel) ?_
      exact P_sub [2, 3, 4, 1, 0] rfl h
    · have h := h.2 q4
      refine P_aload_n C dX2_paceOf_28 0 rfl ?_
      refine P_iload_n C dX2_paceOf_29 3 rfl ?_
      refine P_aload_n C dX2_paceOf_30 0 rfl ?_
      refine P_getS C (e := (x0 + 4)) fa_X2_paceOf_34 hx0 (d := 4) rfl lx0 rfl dX2_paceOf_31 ?_
      refine P_iload C dX2_paceOf_34 4 rfl ?_
      obtain ⟨hv8, h⟩ := h
      refine P_iald C (kdF_4 hx0) (lvF_4 C hx0 lx0) hv8 dX2_paceOf_36 ?_
      refine P_aload_n C dX2_paceOf_37 1 rfl ?_
      refine P_ci (R_v (ci := 2) C kv_X2_paceOf_X2_holds (As := [.int x3, .int (gi σ (x0 + 4) x4.toNatClampNeg), .ref x1]) rfl hx0 rfl lx0 (Nat.le_of_ble_eq_true rfl) dX2_paceOf_38 ⟨Nat.le_refl _, Nat.le_refl _⟩ h) (fun r10 σ9 h => ?_)
      refine P_if_eq C dX2_paceOf_41 (tgt := 75) (by decide +kernel) (fun q11 => ?_) (fun q11 => ?_)
      · have h := h.1 q11
        refine P_aload_n C dX2_paceOf_75 0 rfl ?_
        refine P_getS C (e := (x0 + 4)) fa_X2_paceOf_34 hx0 (d := 4) rfl lx0 rfl dX2_paceOf_76 ?_
        refine P_iload C dX2_paceOf_79 4 rfl ?_
        obtain ⟨hv12, h⟩ := h
        refine P_iald C (kdF_4 hx0) (lvF_4 C hx0 lx0) hv12 dX2_paceOf_81 ?_
        refine P_nmi (fun v13 ev13 => ?_)
        have h := h v13 ev13
        refine P_istore_n C dX2_paceOf_82 (by rw [hN]; decide) rfl ?_
        obtain ⟨v14, ev14⟩ : ∃ v : Int32, v = x4 + 1 := ⟨_, rfl⟩
        have h := h v14 ev14
        refine P_iinc (v := v14) C dX2_paceOf_83 4 rfl (by rw [ev14]; rfl) (by rw [hN]; decide) rfl ?_
        refine P_goto C dX2_paceOf_86 (tgt := 8) (by decide +kernel) ?_
        exact P_sub [2, 3, 4, 1, 0] rfl h
      · have h := h.2 q11
        refine P_iload_n C dX2_paceOf_44 2 rfl ?_
        refine P_aload_n C dX2_paceOf_45 0 rfl ?_
        refine P_getS C (e := (x0 + 2)) fa_X2_paceOf_28 hx0 (d := 2) rfl lx0 rfl dX2_paceOf_46 ?_
        refine P_iload C dX2_paceOf_49 4 rfl ?_
        obtain ⟨hv15, h⟩ := h
        refine P_iald C (kdF_2 hx0) (lvF_2 C hx0 lx0) hv15 dX2_paceOf_51 ?_
        refine P_if_ne C dX2_paceOf_52 (tgt := 65) (by decide +kernel) (fun q16 => ?_) (fun q16 => ?_)
        · have h := h.1 q16
          refine P_aload_n C dX2_paceOf_65 0 rfl ?_
          refine P_getS C (e := (x0 + 3)) fa_X2_paceOf_31 hx0 (d := 3) rfl lx0 rfl dX2_paceOf_66 ?_
          refine P_iload C dX2_paceOf_69 4 rfl ?_
          obtain ⟨hv17, h⟩ := h
          refine P_iald C (kdF_3 hx0) (lvF_3 C hx0 lx0) hv17 dX2_paceOf_71 ?_
          refine P_ineg C dX2_paceOf_72 ?_
          exact P_sub [0, 1, 4] rfl h
        · have h := h.2 q16
          refine P_aload_n C dX2_paceOf_55 0 rfl ?_
          refine P_getS C (e := (x0 + 3)) fa_X2_paceOf_31 hx0 (d := 3) rfl lx0 rfl dX2_paceOf_56 ?_
          refine P_iload C dX2_paceOf_59 4 rfl ?_
          obtain ⟨hv18, h⟩ := h
          refine P_iald C (kdF_3 hx0) (lvF_3 C hx0 lx0) hv18 dX2_paceOf_61 ?_
          refine P_goto C dX2_paceOf_62 (tgt := 73) (by decide +kernel) ?_
          exact P_sub [0, 1, 4] rfl h
set_option maxRecDepth 100000 in
set_option maxHeartbeats 4000000 in
theorem s_X2_paceOf_73 {M : Mx} {Qk : Int32 → Sg → Prop} (C : Cx M cX2_paceOf (some .int) RX2 wsX2_paceOf (rmz 1) 0 0 (QI (mV M) Qk)) (hN : mN M = 5) {x0 : Nat} {x1 : Nat} {x4 : Int32} {z0 : Int32} {z1 : Int32} (hx0 : kd x0 = (12, 0)) (lx0 : x0 ∈ ids (mV M)) {nx1 : Nat} (hx1 : kd x1 = (0, nx1)) (lx1 : x1 ∈ ids (mV M)) {σ : Sg} (h : (∀ v1 : Int32, v1 = z1 + z0 → (vp_in x4 10 ∧ (∀ v3 : Int32, v3 = gi σ (x0 + 4) x4.toNatClampNeg → (∀ v4 : Int32, v4 = x4 + 1 → PS M 8 [(0, .ref x0), (1, .ref x1), (2, .int v1), (3, .int v3), (4, .int v4)] [] σ (0, 0)))))) : PS M 73 [(0, .ref x0), (1, .ref x1), (4, .int x4)] [.int z0, .int z1] σ (0, 0) := by
  refine P_iadd C dX2_paceOf_73 ?_
  refine P_nmi (fun v1 ev1 => ?_)
  have h := h v1 ev1
  refine P_istore_n C dX2_paceOf_74 (by rw [hN]; decide) rfl ?_
  refine P_aload_n C dX2_paceOf_75 1 rfl ?_
  refine P_getS C (e := (x0 + 4)) fa_X2_paceOf_34 hx0 (d := 4) rfl lx0 rfl dX2_paceOf_76 ?_
  refine P_iload C dX2_paceOf_79 3 rfl ?_
  obtain ⟨hv2, h⟩ := h
  refine P_iald C (kdF_4 hx0) (lvF_4 C hx0 lx0) hv2 dX2_paceOf_81 ?_
  refine P_nmi (fun v3 ev3 => ?_)
  have h := h v3 ev3
  refine P_istore_n C dX2_paceOf_82 (by rw [hN]; decide) rfl ?_
  obtain ⟨v4, ev4⟩ : ∃ v : Int32, v = x4 + 1 := ⟨_, rfl⟩
  have h := h v4 ev4
  refine P_iinc (v := v4) C dX2_paceOf_83 4 rfl (by rw [ev4]; rfl) (by rw [hN]; decide) rfl ?_
  refine P_goto C dX2_paceOf_86 (tgt := 8) (by decide +kernel) ?_
  exact P_sub [3, 4, 2, 1, 0] rfl h
theorem fa_X1_isPressedAt_25 : FA RX1 wsX1_isPressedAt 25 1 3 "NineMowers$Course" := by
  show _ ∧ _ ∧ _ ∧ _
  exact ⟨by decide +kernel, fun _ h => List.mem_cons_of_mem _ (List.mem_append_left _ (List.mem_append_right _ h)), List.mem_of_getElem? (i := 1) rfl, Or.inl rfl⟩
theorem fa_X1_isPressedAt_28 : FA RX1 wsX1_isPressedAt 28 1 4 "NineMowers$Course" := by
  show _ ∧ _ ∧ _ ∧ _
  exact ⟨by decide +kernel, fun _ h => List.mem_cons_of_mem _ (List.mem_append_left _ (List.mem_append_right _ h)), List.mem_of_getElem? (i := 2) rfl, Or.inl rfl⟩
theorem fa_X1_isPressedAt_21 : FA RX1 wsX1_isPressedAt 21 1 2 "NineMowers$Course" := by
  show _ ∧ _ ∧ _ ∧ _
  exact ⟨by decide +kernel, fun _ h => List.mem_cons_of_mem _ (List.mem_append_left _ (List.mem_append_right _ h)), List.mem_of_getElem? (i := 3) rfl, Or.inl rfl⟩
theorem kv_X1_isPressedAt_X1_gap : KV RX1 wsX1_isPressedAt (rmz 1) 109 RX1 yX1_gap wsX1_gap (rmz 0) 0 := ⟨_, _, _, _, gX1_isPressedAt_X1_gap, rfl, by decide +kernel, by decide +kernel⟩
noncomputable def K_X1_isPressedAt (l : Launch) (V : Vx) (c0 : Nat) (a1 : Int32) (σ : Sg) (Qk : Int32 → Sg → Prop) : Prop := Ka l V yX1_isPressedAt wsX1_isPressedAt (rmz 1) 0 0 [.ref c0, .int a1] σ (QI V Qk)
theorem e_X1_isPressedAt {l : Launch} {V : Vx} {c0 : Nat} {a1 : Int32} {σ : Sg} {Qk : Int32 → Sg → Prop} (h : ∀ M : Mx, mL M = l → mV M = V → mN M = 2 → Cx M cX1_isPressedAt (some .boolean) RX1 wsX1_isPressedAt (rmz 1) 0 0 (QI (mV M) Qk) → PS M 0 [(0, .ref c0), (1, .int a1)] [] σ (0, 0)) : K_X1_isPressedAt l V c0 a1 σ Qk :=
  Ka_of (by decide +kernel) rfl rfl (Nat.le_of_ble_eq_true rfl) (fun M h1 h2 h3 C => h M h1 h2 h3 (by rw [h2]; exact C))
set_option maxRecDepth 100000 in
set_option maxHeartbeats 4000000 in
theorem s_X1_isPressedAt_0 {M : Mx} {Qk : Int32 → Sg → Prop} (C : Cx M cX1_isPressedAt (some .boolean) RX1 wsX1_isPressedAt (rmz 1) 0 0 (QI (mV M) Qk)) (hN : mN M = 2) {c0 : Nat} {a1 : Int32} (hc0 : isC c0) {σ : Sg} (h : (((gi σ c0 3) ≤ (a1 + (1 : Int32)) → Qk (0 : Int32) σ) ∧ (¬ (gi σ c0 3) ≤ (a1 + (1 : Int32)) → (vp_in a1 6 ∧ (vp_in (gi σ (c0 + 2) a1.toNatClampNeg) 6 ∧ (vp_in (a1 + (1 : Int32)) 6 ∧ (vp_in (gi σ (c0 + 2) (a1 + (1 : Int32)).toNatClampNeg) 6 ∧ K_X1_gap (mL M) (mV M) c0 σ (fun r7 σ6 => (((r7 + (3 : Int32)) ≤ ((gi σ (c0 + 3) (gi σ (c0 + 2) a1.toNatClampNeg).toNatClampNeg) - (gi σ (c0 + 3) (gi σ (c0 + 2) (a1 + (1 : Int32)).toNatClampNeg).toNatClampNeg)) → Qk (0 : Int32) σ6) ∧ (¬ (r7 + (3 : Int32)) ≤ ((gi σ (c0 + 3) (gi σ (c0 + 2) a1.toNatClampNeg).toNatClampNeg) - (gi σ (c0 + 3) (gi σ (c0 + 2) (a1 + (1 : Int32)).toNatClampNeg).toNatClampNeg)) → Qk (1 : Int32) σ6)))))))))) : PS M 0 [(0, .ref c0), (1, .int a1)] [] σ (0, 0) := by
  refine P_iload_n C dX1_isPressedAt_0 1 rfl ?_
  refine P_iconst C dX1_isPressedAt_1 (v := (1 : Int32)) rfl ?_
  refine P_iadd C dX1_isPressedAt_2 ?_
  refine P_aload_n C dX1_isPressedAt_3 0 rfl ?_
  refine P_getI C fa_X1_isPressedAt_25 (kdC_0 hc0) rfl (fxl (fxC_0 hc0)) dX1_isPressedAt_4 ?_
  refine P_icmp_ge C dX1_isPressedAt_7 (tgt := 48) (by decide +kernel) (fun q1 => ?_) (fun q1 => ?_)
  · have h := h.1 q1
    refine P_iconst C dX1_isPressedAt_48 (v := (0 : Int32)) rfl ?_
    exact P_zret C (by decide +kernel) dX1_isPressedAt_49 h
  · have h := h.2 q1
    refine P_aload_n C dX1_isPressedAt_10 0 rfl ?_
    refine P_getS C (e := (c0 + 3)) fa_X1_isPressedAt_28 (kdC_0 hc0) (d := 3) rfl (fxl (fxC_0 hc0)) rfl dX1_isPressedAt_11 ?_
    refine P_aload_n C dX1_isPressedAt_14 0 rfl ?_
    refine P_getS C (e := (c0 + 2)) fa_X1_isPressedAt_21 (kdC_0 hc0) (d := 2) rfl (fxl (fxC_0 hc0)) rfl dX1_isPressedAt_15 ?_
    refine P_iload_n C dX1_isPressedAt_18 1 rfl ?_
    obtain ⟨hv2, h⟩ := h
    refine P_iald C (kdC_2 hc0) (fxl (fxC_2 hc0)) hv2 dX1_isPressedAt_19 ?_
    obtain ⟨hv3, h⟩ := h
    refine P_iald C (kdC_3 hc0) (fxl (fxC_3 hc0)) hv3 dX1_isPressedAt_20 ?_
    refine P_aload_n C dX1_isPressedAt_21 0 rfl ?_
    refine P_getS C (e := (c0 + 3)) fa_X1_isPressedAt_28 (kdC_0 hc0) (d := 3) rfl (fxl (fxC_0 hc0)) rfl dX1_isPressedAt_22 ?_
    refine P_aload_n C dX1_isPressedAt_25 0 rfl ?_
    refine P_getS C (e := (c0 + 2)) fa_X1_isPressedAt_21 (kdC_0 hc0) (d := 2) rfl (fxl (fxC_0 hc0)) rfl dX1_isPressedAt_26 ?_
    refine P_iload_n C dX1_isPressedAt_29 1 rfl ?_
    refine P_iconst C dX1_isPressedAt_30 (v := (1 : Int32)) rfl ?_
    refine P_iadd C dX1_isPressedAt_31 ?_
    obtain ⟨hv4, h⟩ := h
    refine P_iald C (kdC_2 hc0) (fxl (fxC_2 hc0)) hv4 dX1_isPressedAt_32 ?_
    obtain ⟨hv5, h⟩ := h
    refine P_iald C (kdC_3 hc0) (fxl (fxC_3 hc0)) hv5 dX1_isPressedAt_33 ?_
    refine P_isub C dX1_isPressedAt_34 ?_
    refine P_aload_n C dX1_isPressedAt_35 0 rfl ?_
    refine P_ci (R_v (ci := 1) C kv_X1_isPressedAt_X1_gap (As := []) rfl (kdC_0 hc0) rfl (fxl (fxC_0 hc0)) (Nat.le_of_ble_eq_true rfl) dX1_isPressedAt_36 ⟨Nat.le_refl _, Nat.le_refl _⟩ h) (fun r7 σ6 h => ?_)
    refine P_iconst C dX1_isPressedAt_39 (v := (3 : Int32)) rfl ?_
    refine P_iadd C dX1_isPressedAt_40 ?_
    refine P_icmp_ge C dX1_isPressedAt_41 (tgt := 48) (by decide +kernel) (fun q8 => ?_) (fun q8 => ?_)
    · have h := h.1 q8
      refine P_iconst C dX1_isPressedAt_48 (v := (0 : Int32)) rfl ?_
      exact P_zret C (by decide +kernel) dX1_isPressedAt_49 h
    · have h := h.2 q8
      refine P_iconst C dX1_isPressedAt_44 (v := (1 : Int32)) rfl ?_
      refine P_goto C dX1_isPressedAt_45 (tgt := 49) (by decide +kernel) ?_
      exact P_zret C (by decide +kernel) dX1_isPressedAt_49 h
theorem fa_X1_isDone_17 : FA RX1 wsX1_isDone 17 1 1 "NineMowers$Course" := by
  show _ ∧ _ ∧ _ ∧ _
  exact ⟨by decide +kernel, fun _ h => List.mem_cons_of_mem _ (List.mem_append_left _ (List.mem_append_right _ h)), List.mem_of_getElem? (i := 1) rfl, Or.inl rfl⟩
theorem fa_X1_isDone_28 : FA RX1 wsX1_isDone 28 1 4 "NineMowers$Course" := by
  show _ ∧ _ ∧ _ ∧ _
  exact ⟨by decide +kernel, fun _ h => List.mem_cons_of_mem _ (List.mem_append_left _ (List.mem_append_right _ h)), List.mem_of_getElem? (i := 2) rfl, Or.inl rfl⟩
theorem fa_X1_isDone_46 : FA RX1 wsX1_isDone 46 1 10 "NineMowers$Course" := by
  show _ ∧ _ ∧ _ ∧ _
  exact ⟨by decide +kernel, fun _ h => List.mem_cons_of_mem _ (List.mem_append_left _ (List.mem_append_right _ h)), List.mem_of_getElem? (i := 3) rfl, Or.inl rfl⟩
theorem fa_X1_isDone_141 : FA RX1 wsX1_isDone 141 2 2 "NineMowers$Field" := by
  show _ ∧ _ ∧ _ ∧ _
  exact ⟨by decide +kernel, fun _ h => List.mem_cons_of_mem _ (List.mem_append_right _ h), List.mem_of_getElem? (i := 4) rfl, Or.inl rfl⟩
noncomputable def K_X1_isDone (l : Launch) (V : Vx) (c0 : Nat) (σ : Sg) (Qk : Int32 → Sg → Prop) : Prop := Ka l V yX1_isDone wsX1_isDone (rmz 0) 0 0 [.ref c0] σ (QI V Qk)
theorem e_X1_isDone {l : Launch} {V : Vx} {c0 : Nat} {σ : Sg} {Qk : Int32 → Sg → Prop} (h : ∀ M : Mx, mL M = l → mV M = V → mN M = 2 → Cx M cX1_isDone (some .boolean) RX1 wsX1_isDone (rmz 0) 0 0 (QI (mV M) Qk) → PS M 0 [(0, .ref c0)] [] σ (0, 0)) : K_X1_isDone l V c0 σ Qk :=
  Ka_of (by decide +kernel) rfl rfl (Nat.le_of_ble_eq_true rfl) (fun M h1 h2 h3 C => h M h1 h2 h3 (by rw [h2]; exact C))
set_option maxRecDepth 100000 in
set_option maxHeartbeats 4000000 in
theorem s_X1_isDone_0 {M : Mx} {Qk : Int32 → Sg → Prop} (C : Cx M cX1_isDone (some .boolean) RX1 wsX1_isDone (rmz 0) 0 0 (QI (mV M) Qk)) (hN : mN M = 2) {c0 : Nat} (hc0 : isC c0) {σ : Sg} (h : PS M 2 [(0, .ref c0), (1, .int (0 : Int32))] [] σ (0, 0)) : PS M 0 [(0, .ref c0)] [] σ (0, 0) := by
  refine P_iconst C dX1_isDone_0 (v := (0 : Int32)) rfl ?_
  refine P_istore_n C dX1_isDone_1 (by rw [hN]; decide) rfl ?_
  exact P_sub [1, 0] rfl h
set_option maxRecDepth 100000 in
set_option maxHeartbeats 4000000 in
theorem s_X1_isDone_2 {M : Mx} {Qk : Int32 → Sg → Prop} (C : Cx M cX1_isDone (some .boolean) RX1 wsX1_isDone (rmz 0) 0 0 (QI (mV M) Qk)) (hN : mN M = 2) {x0 : Nat} {x1 : Int32} (hx0 : isC x0) {σ : Sg} (h : (((gi σ x0 1) ≤ x1 → Qk (1 : Int32) σ) ∧ (¬ (gi σ x0 1) ≤ x1 → (vp_in x1 6 ∧ (∃ f3 : Nat, gr σ x0 10 = some f3 ∧ kd f3 = (12, 0) ∧ f3 ∈ ids (mV M) ∧ (((gi σ f3 2) ≤ (gi σ (x0 + 3) x1.toNatClampNeg) → (∀ v5 : Int32, v5 = x1 + 1 → PS M 2 [(0, .ref x0), (1, .int v5)] [] σ (0, 0))) ∧ (¬ (gi σ f3 2) ≤ (gi σ (x0 + 3) x1.toNatClampNeg) → Qk (0 : Int32) σ))))))) : PS M 2 [(0, .ref x0), (1, .int x1)] [] σ (0, 0) := by
  refine P_iload_n C dX1_isDone_2 1 rfl ?_
  refine P_aload_n C dX1_isDone_3 0 rfl ?_
  refine P_getI C fa_X1_isDone_17 (kdC_0 hx0) rfl (fxl (fxC_0 hx0)) dX1_isDone_4 ?_
  refine P_icmp_ge C dX1_isDone_7 (tgt := 34) (by decide +kernel) (fun q1 => ?_) (fun q1 => ?_)
  · have h := h.1 q1
    refine P_iconst C dX1_isDone_34 (v := (1 : Int32)) rfl ?_
    exact P_zret C (by decide +kernel) dX1_isDone_35 h
  · have h := h.2 q1
    refine P_aload_n C dX1_isDone_10 0 rfl ?_
    refine P_getS C (e := (x0 + 3)) fa_X1_isDone_28 (kdC_0 hx0) (d := 3) rfl (fxl (fxC_0 hx0)) rfl dX1_isDone_11 ?_
    refine P_iload_n C dX1_isDone_14 1 rfl ?_
    obtain ⟨hv2, h⟩ := h
    refine P_iald C (kdC_3 hx0) (fxl (fxC_3 hx0)) hv2 dX1_isDone_15 ?_
    refine P_aload_n C dX1_isDone_16 0 rfl ?_
    obtain ⟨f3, hrf3, hf3, lf3, h⟩ := h
    refine P_getD C fa_X1_isDone_46 (kdC_0 hx0) rfl (fxl (fxC_0 hx0)) hrf3 dX1_isDone_17 ?_
    refine P_getI C fa_X1_isDone_141 hf3 rfl lf3 dX1_isDone_20 ?_
    refine P_icmp_ge C dX1_isDone_23 (tgt := 28) (by decide +kernel) (fun q4 => ?_) (fun q4 => ?_)
    · have h := h.1 q4
      obtain ⟨v5, ev5⟩ : ∃ v : Int32, v = x1 + 1 := ⟨_, rfl⟩
      have h := h v5 ev5
      refine P_iinc (v := v5) C dX1_isDone_28 1 rfl (by rw [ev5]; rfl) (by rw [hN]; decide) rfl ?_
      refine P_goto C dX1_isDone_31 (tgt := 2) (by decide +kernel) ?_
      exact P_sub [1, 0] rfl h
    · have h := h.2 q4
      refine P_iconst C dX1_isDone_26 (v := (0 : Int32)) rfl ?_
      exact P_zret C (by decide +kernel) dX1_isDone_27 h
theorem fa_X1_whetsAll_17 : FA RX1 wsX1_whetsAll 17 1 1 "NineMowers$Course" := by
  show _ ∧ _ ∧ _ ∧ _
  exact ⟨by decide +kernel, fun _ h => List.mem_cons_of_mem _ (List.mem_append_right _ h), List.mem_of_getElem? (i := 1) rfl, Or.inl rfl⟩
theorem kv_X1_whetsAll_X1_passes : KV RX1 wsX1_whetsAll (rmz 2) 137 RX1 yX1_passes wsX1_passes (rmz 1) 2 := ⟨_, _, _, _, gX1_whetsAll_X1_passes, rfl, by decide +kernel, by decide +kernel⟩
theorem fa_X1_whetsAll_31 : FA RX1 wsX1_whetsAll 31 1 5 "NineMowers$Course" := by
  show _ ∧ _ ∧ _ ∧ _
  exact ⟨by decide +kernel, fun _ h => List.mem_cons_of_mem _ (List.mem_append_right _ h), List.mem_of_getElem? (i := 2) rfl, Or.inl rfl⟩
noncomputable def K_X1_whetsAll (l : Launch) (V : Vx) (c0 : Nat) (σ : Sg) (Qk : Sg → Prop) : Prop := Ka l V yX1_whetsAll wsX1_whetsAll (rmz 2) 0 0 [.ref c0] σ (QV V Qk)
theorem e_X1_whetsAll {l : Launch} {V : Vx} {c0 : Nat} {σ : Sg} {Qk : Sg → Prop} (h : ∀ M : Mx, mL M = l → mV M = V → mN M = 2 → Cx M cX1_whetsAll none RX1 wsX1_whetsAll (rmz 2) 0 0 (QV (mV M) Qk) → PS M 0 [(0, .ref c0)] [] σ (0, 0)) : K_X1_whetsAll l V c0 σ Qk :=
  Ka_of (by decide +kernel) rfl rfl (Nat.le_of_ble_eq_true rfl) (fun M h1 h2 h3 C => h M h1 h2 h3 (by rw [h2]; exact C))
set_option maxRecDepth 100000 in
set_option maxHeartbeats 4000000 in
theorem s_X1_whetsAll_0 {M : Mx} {Qk : Sg → Prop} (C : Cx M cX1_whetsAll none RX1 wsX1_whetsAll (rmz 2) 0 0 (QV (mV M) Qk)) (hN : mN M = 2) {c0 : Nat} (hc0 : isC c0) {σ : Sg} (h : PS M 2 [(0, .ref c0), (1, .int (0 : Int32))] [] σ (0, 0)) : PS M 0 [(0, .ref c0)] [] σ (0, 0) := by
  refine P_iconst C dX1_whetsAll_0 (v := (0 : Int32)) rfl ?_
  refine P_istore_n C dX1_whetsAll_1 (by rw [hN]; decide) rfl ?_
  exact P_sub [1, 0] rfl h
set_option maxRecDepth 100000 in
set_option maxHeartbeats 4000000 in
theorem s_X1_whetsAll_2 {M : Mx} {Qk : Sg → Prop} (C : Cx M cX1_whetsAll none RX1 wsX1_whetsAll (rmz 2) 0 0 (QV (mV M) Qk)) (hN : mN M = 2) {x0 : Nat} {x1 : Int32} (hx0 : isC x0) {σ : Sg} (h : (((gi σ x0 1) ≤ x1 → K_X1_passes (mL M) (mV M) x0 (1 : Int32) (1 : Int32) σ (fun σ2 => Qk σ2)) ∧ (¬ (gi σ x0 1) ≤ x1 → (vp_in x1 6 ∧ (∀ σ4 : Sg, σ4 = si σ (x0 + 4) x1.toNatClampNeg (10 : Int32) → (∀ v5 : Int32, v5 = x1 + 1 → PS M 2 [(0, .ref x0), (1, .int v5)] [] σ4 (0, 0))))))) : PS M 2 [(0, .ref x0), (1, .int x1)] [] σ (0, 0) := by
  refine P_iload_n C dX1_whetsAll_2 1 rfl ?_
  refine P_aload_n C dX1_whetsAll_3 0 rfl ?_
  refine P_getI C fa_X1_whetsAll_17 (kdC_0 hx0) rfl (fxl (fxC_0 hx0)) dX1_whetsAll_4 ?_
  refine P_icmp_ge C dX1_whetsAll_7 (tgt := 24) (by decide +kernel) (fun q1 => ?_) (fun q1 => ?_)
  · have h := h.1 q1
    refine P_aload_n C dX1_whetsAll_24 0 rfl ?_
    refine P_iconst C dX1_whetsAll_25 (v := (1 : Int32)) rfl ?_
    refine P_iconst C dX1_whetsAll_26 (v := (1 : Int32)) rfl ?_
    refine P_cv (R_v (ci := 1) C kv_X1_whetsAll_X1_passes (As := [.int (1 : Int32), .int (1 : Int32)]) rfl (kdC_0 hx0) rfl (fxl (fxC_0 hx0)) (Nat.le_of_ble_eq_true rfl) dX1_whetsAll_27 ⟨Nat.le_refl _, Nat.le_refl _⟩ h) (fun σ2 h => ?_)
    exact P_vret C dX1_whetsAll_30 h
  · have h := h.2 q1
    refine P_aload_n C dX1_whetsAll_10 0 rfl ?_
    refine P_getS C (e := (x0 + 4)) fa_X1_whetsAll_31 (kdC_0 hx0) (d := 4) rfl (fxl (fxC_0 hx0)) rfl dX1_whetsAll_11 ?_
    refine P_iload_n C dX1_whetsAll_14 1 rfl ?_
    refine P_bipush C dX1_whetsAll_15 (v := (10 : Int32)) rfl ?_
    obtain ⟨hv3, h⟩ := h
    refine P_iast C (kdC_4 hx0) (fxl (fxC_4 hx0)) hv3 dX1_whetsAll_17 ?_
    refine P_nm (fun σ4 eσ4 => ?_)
    have h := h σ4 eσ4
    obtain ⟨v5, ev5⟩ : ∃ v : Int32, v = x1 + 1 := ⟨_, rfl⟩
    have h := h v5 ev5
    refine P_iinc (v := v5) C dX1_whetsAll_18 1 rfl (by rw [ev5]; rfl) (by rw [hN]; decide) rfl ?_
    refine P_goto C dX1_whetsAll_21 (tgt := 2) (by decide +kernel) ?_
    exact P_sub [1, 0] rfl h
theorem kv_X1_rests_X1_passes : KV RX1 wsX1_rests (rmz 2) 137 RX1 yX1_passes wsX1_passes (rmz 1) 2 := ⟨_, _, _, _, gX1_rests_X1_passes, rfl, by decide +kernel, by decide +kernel⟩
noncomputable def K_X1_rests (l : Launch) (V : Vx) (c0 : Nat) (a1 : Int32) (σ : Sg) (Qk : Sg → Prop) : Prop := Ka l V yX1_rests wsX1_rests (rmz 2) 0 0 [.ref c0, .int a1] σ (QV V Qk)
theorem e_X1_rests {l : Launch} {V : Vx} {c0 : Nat} {a1 : Int32} {σ : Sg} {Qk : Sg → Prop} (h : ∀ M : Mx, mL M = l → mV M = V → mN M = 2 → Cx M cX1_rests none RX1 wsX1_rests (rmz 2) 0 0 (QV (mV M) Qk) → PS M 0 [(0, .ref c0), (1, .int a1)] [] σ (0, 0)) : K_X1_rests l V c0 a1 σ Qk :=
  Ka_of (by decide +kernel) rfl rfl (Nat.le_of_ble_eq_true rfl) (fun M h1 h2 h3 C => h M h1 h2 h3 (by rw [h2]; exact C))
set_option maxRecDepth 100000 in
set_option maxHeartbeats 4000000 in
theorem s_X1_rests_0 {M : Mx} {Qk : Sg → Prop} (C : Cx M cX1_rests none RX1 wsX1_rests (rmz 2) 0 0 (QV (mV M) Qk)) (hN : mN M = 2) {c0 : Nat} {a1 : Int32} (hc0 : isC c0) {σ : Sg} (h : K_X1_passes (mL M) (mV M) c0 a1 ((3 : Int32) * a1) σ (fun σ1 => Qk σ1)) : PS M 0 [(0, .ref c0), (1, .int a1)] [] σ (0, 0) := by
  refine P_aload_n C dX1_rests_0 0 rfl ?_
  refine P_iload_n C dX1_rests_1 1 rfl ?_
  refine P_iconst C dX1_rests_2 (v := (3 : Int32)) rfl ?_
  refine P_iload_n C dX1_rests_3 1 rfl ?_
  refine P_imul C dX1_rests_4 ?_
  refine P_cv (R_v (ci := 1) C kv_X1_rests_X1_passes (As := [.int a1, .int ((3 : Int32) * a1)]) rfl (kdC_0 hc0) rfl (fxl (fxC_0 hc0)) (Nat.le_of_ble_eq_true rfl) dX1_rests_5 ⟨Nat.le_refl _, Nat.le_refl _⟩ h) (fun σ1 h => ?_)
  exact P_vret C dX1_rests_8 h
theorem fa_X1_becomesTold_58 : FA RX1 wsX1_becomesTold 58 1 12 "NineMowers$Course" := by
  show _ ∧ _ ∧ _ ∧ _
  exact ⟨by decide +kernel, fun _ h => List.mem_cons_of_mem _ (List.mem_append_left _ (List.mem_append_right _ h)), List.mem_of_getElem? (i := 1) rfl, Or.inl rfl⟩
theorem kv_X1_becomesTold_X5_becomes : KV RX1 wsX1_becomesTold (rmz 2) 80 RX5 yX5_becomes wsX5_becomes (rmz 1) 1 := ⟨_, _, _, _, gX1_becomesTold_X5_becomes, rfl, by decide +kernel, by decide +kernel⟩
theorem fa_X1_becomesTold_62 : FA RX1 wsX1_becomesTold 62 1 13 "NineMowers$Course" := by
  show _ ∧ _ ∧ _ ∧ _
  exact ⟨by decide +kernel, fun _ h => List.mem_cons_of_mem _ (List.mem_append_left _ (List.mem_append_right _ h)), List.mem_of_getElem? (i := 2) rfl, Or.inl rfl⟩
theorem fa_X1_becomesTold_65 : FA RX1 wsX1_becomesTold 65 1 14 "NineMowers$Course" := by
  show _ ∧ _ ∧ _ ∧ _
  exact ⟨by decide +kernel, fun _ h => List.mem_cons_of_mem _ (List.mem_append_left _ (List.mem_append_right _ h)), List.mem_of_getElem? (i := 3) rfl, Or.inl rfl⟩
noncomputable def K_X1_becomesTold (l : Launch) (V : Vx) (c0 : Nat) (a1 : Nat) (σ : Sg) (Qk : Sg → Prop) : Prop := Ka l V yX1_becomesTold wsX1_becomesTold (rmz 2) 0 0 [.ref c0, .ref a1] σ (QV V Qk)
theorem e_X1_becomesTold {l : Launch} {V : Vx} {c0 : Nat} {a1 : Nat} {σ : Sg} {Qk : Sg → Prop} (h : ∀ M : Mx, mL M = l → mV M = V → mN M = 2 → Cx M cX1_becomesTold none RX1 wsX1_becomesTold (rmz 2) 0 0 (QV (mV M) Qk) → PS M 0 [(0, .ref c0), (1, .ref a1)] [] σ (0, 0)) : K_X1_becomesTold l V c0 a1 σ Qk :=
  Ka_of (by decide +kernel) rfl rfl (Nat.le_of_ble_eq_true rfl) (fun M h1 h2 h3 C => h M h1 h2 h3 (by rw [h2]; exact C))
set_option maxRecDepth 100000 in
set_option maxHeartbeats 4000000 in
theorem s_X1_becomesTold_0 {M : Mx} {Qk : Sg → Prop} (C : Cx M cX1_becomesTold none RX1 wsX1_becomesTold (rmz 2) 0 0 (QV (mV M) Qk)) (hN : mN M = 2) {c0 : Nat} {a1 : Nat} (hc0 : isC c0) (ha1 : isC a1) {σ : Sg} (h : K_X5_becomes (mL M) (mV M) (c0 + 8) (a1 + 8) σ (fun σ1 => K_X5_becomes (mL M) (mV M) (c0 + 10) (a1 + 10) σ1 (fun σ2 => K_X5_becomes (mL M) (mV M) (c0 + 12) (a1 + 12) σ2 (fun σ3 => Qk σ3)))) : PS M 0 [(0, .ref c0), (1, .ref a1)] [] σ (0, 0) := by
  refine P_aload_n C dX1_becomesTold_0 0 rfl ?_
  refine P_getS C (e := (c0 + 8)) fa_X1_becomesTold_58 (kdC_0 hc0) (d := 8) rfl (fxl (fxC_0 hc0)) rfl dX1_becomesTold_1 ?_
  refine P_aload_n C dX1_becomesTold_4 1 rfl ?_
  refine P_getS C (e := (a1 + 8)) fa_X1_becomesTold_58 (kdC_0 ha1) (d := 8) rfl (fxl (fxC_0 ha1)) rfl dX1_becomesTold_5 ?_
  refine P_cv (R_v (ci := 5) C kv_X1_becomesTold_X5_becomes (As := [.ref (a1 + 8)]) rfl (kdN_0 (isN_C8 hc0)) rfl (fxl (fxN_0 (isN_C8 hc0))) (Nat.le_of_ble_eq_true rfl) dX1_becomesTold_8 ⟨Nat.le_refl _, Nat.le_refl _⟩ h) (fun σ1 h => ?_)
  refine P_aload_n C dX1_becomesTold_11 0 rfl ?_
  refine P_getS C (e := (c0 + 10)) fa_X1_becomesTold_62 (kdC_0 hc0) (d := 10) rfl (fxl (fxC_0 hc0)) rfl dX1_becomesTold_12 ?_
  refine P_aload_n C dX1_becomesTold_15 1 rfl ?_
  refine P_getS C (e := (a1 + 10)) fa_X1_becomesTold_62 (kdC_0 ha1) (d := 10) rfl (fxl (fxC_0 ha1)) rfl dX1_becomesTold_16 ?_
  refine P_cv (R_v (ci := 5) C kv_X1_becomesTold_X5_becomes (As := [.ref (a1 + 10)]) rfl (kdN_0 (isN_C10 hc0)) rfl (fxl (fxN_0 (isN_C10 hc0))) (Nat.le_of_ble_eq_true rfl) dX1_becomesTold_19 ⟨Nat.le_refl _, Nat.le_refl _⟩ h) (fun σ2 h => ?_)
  refine P_aload_n C dX1_becomesTold_22 0 rfl ?_
  refine P_getS C (e := (c0 + 12)) fa_X1_becomesTold_65 (kdC_0 hc0) (d := 12) rfl (fxl (fxC_0 hc0)) rfl dX1_becomesTold_23 ?_
  refine P_aload_n C dX1_becomesTold_26 1 rfl ?_
  refine P_getS C (e := (a1 + 12)) fa_X1_becomesTold_65 (kdC_0 ha1) (d := 12) rfl (fxl (fxC_0 ha1)) rfl dX1_becomesTold_27 ?_
  refine P_cv (R_v (ci := 5) C kv_X1_becomesTold_X5_becomes (As := [.ref (a1 + 12)]) rfl (kdN_0 (isN_C12 hc0)) rfl (fxl (fxN_0 (isN_C12 hc0))) (Nat.le_of_ble_eq_true rfl) dX1_becomesTold_30 ⟨Nat.le_refl _, Nat.le_refl _⟩ h) (fun σ3 h => ?_)
  exact P_vret C dX1_becomesTold_33 h
theorem fa_X1_paceAt_21 : FA RX1 wsX1_paceAt 21 1 2 "NineMowers$Course" := by
  show _ ∧ _ ∧ _ ∧ _
  exact ⟨by decide +kernel, fun _ h => List.mem_cons_of_mem _ (List.mem_append_left _ (List.mem_append_left _ (List.mem_append_left _ (List.mem_append_left _ (List.mem_append_left _ (List.mem_append_left _ (List.mem_append_left _ (List.mem_append_left _ (List.mem_append_right _ h))))))))), List.mem_of_getElem? (i := 1) rfl, Or.inl rfl⟩
theorem fa_X1_paceAt_71 : FA RX1 wsX1_paceAt 71 1 16 "NineMowers$Course" := by
  show _ ∧ _ ∧ _ ∧ _
  exact ⟨by decide +kernel, fun _ h => List.mem_cons_of_mem _ (List.mem_append_left _ (List.mem_append_left _ (List.mem_append_left _ (List.mem_append_left _ (List.mem_append_left _ (List.mem_append_left _ (List.mem_append_left _ (List.mem_append_left _ (List.mem_append_right _ h))))))))), List.mem_of_getElem? (i := 2) rfl, Or.inl rfl⟩
theorem fa_X1_paceAt_11 : FA RX1 wsX1_paceAt 11 1 0 "NineMowers$Course" := by
  show _ ∧ _ ∧ _ ∧ _
  exact ⟨by decide +kernel, fun _ h => List.mem_cons_of_mem _ (List.mem_append_left _ (List.mem_append_left _ (List.mem_append_left _ (List.mem_append_left _ (List.mem_append_left _ (List.mem_append_left _ (List.mem_append_left _ (List.mem_append_left _ (List.mem_append_right _ h))))))))), List.mem_of_getElem? (i := 3) rfl, Or.inl rfl⟩
theorem fa_X1_paceAt_96 : FA RX1 wsX1_paceAt 96 4 0 "NineMowers$Mower" := by
  show _ ∧ _ ∧ _ ∧ _
  exact ⟨by decide +kernel, fun _ h => List.mem_cons_of_mem _ (List.mem_append_left _ (List.mem_append_left _ (List.mem_append_left _ (List.mem_append_left _ (List.mem_append_left _ (List.mem_append_right _ h)))))), List.mem_of_getElem? (i := 4) rfl, Or.inl rfl⟩
theorem fa_X1_paceAt_31 : FA RX1 wsX1_paceAt 31 1 5 "NineMowers$Course" := by
  show _ ∧ _ ∧ _ ∧ _
  exact ⟨by decide +kernel, fun _ h => List.mem_cons_of_mem _ (List.mem_append_left _ (List.mem_append_left _ (List.mem_append_left _ (List.mem_append_left _ (List.mem_append_left _ (List.mem_append_left _ (List.mem_append_left _ (List.mem_append_left _ (List.mem_append_right _ h))))))))), List.mem_of_getElem? (i := 5) rfl, Or.inl rfl⟩
theorem fa_X1_paceAt_34 : FA RX1 wsX1_paceAt 34 1 6 "NineMowers$Course" := by
  show _ ∧ _ ∧ _ ∧ _
  exact ⟨by decide +kernel, fun _ h => List.mem_cons_of_mem _ (List.mem_append_left _ (List.mem_append_left _ (List.mem_append_left _ (List.mem_append_left _ (List.mem_append_left _ (List.mem_append_left _ (List.mem_append_left _ (List.mem_append_left _ (List.mem_append_right _ h))))))))), List.mem_of_getElem? (i := 6) rfl, Or.inl rfl⟩
theorem fa_X1_paceAt_43 : FA RX1 wsX1_paceAt 43 1 9 "NineMowers$Course" := by
  show _ ∧ _ ∧ _ ∧ _
  exact ⟨by decide +kernel, fun _ h => List.mem_cons_of_mem _ (List.mem_append_left _ (List.mem_append_left _ (List.mem_append_left _ (List.mem_append_left _ (List.mem_append_left _ (List.mem_append_left _ (List.mem_append_left _ (List.mem_append_left _ (List.mem_append_right _ h))))))))), List.mem_of_getElem? (i := 7) rfl, Or.inl rfl⟩
theorem fa_X1_paceAt_46 : FA RX1 wsX1_paceAt 46 1 10 "NineMowers$Course" := by
  show _ ∧ _ ∧ _ ∧ _
  exact ⟨by decide +kernel, fun _ h => List.mem_cons_of_mem _ (List.mem_append_left _ (List.mem_append_left _ (List.mem_append_left _ (List.mem_append_left _ (List.mem_append_left _ (List.mem_append_left _ (List.mem_append_left _ (List.mem_append_left _ (List.mem_append_right _ h))))))))), List.mem_of_getElem? (i := 8) rfl, Or.inl rfl⟩
theorem kv_X1_paceAt_X2_paceOf : KV RX1 wsX1_paceAt (rmz 2) 99 RX2 yX2_paceOf wsX2_paceOf (rmz 1) 1 := ⟨_, _, _, _, gX1_paceAt_X2_paceOf, rfl, by decide +kernel, by decide +kernel⟩
noncomputable def K_X1_paceAt (l : Launch) (V : Vx) (c0 : Nat) (a1 : Int32) (σ : Sg) (Qk : Int32 → Sg → Prop) : Prop := Ka l V yX1_paceAt wsX1_paceAt (rmz 2) 0 0 [.ref c0, .int a1] σ (QI V Qk)
theorem e_X1_paceAt {l : Launch} {V : Vx} {c0 : Nat} {a1 : Int32} {σ : Sg} {Qk : Int32 → Sg → Prop} (h : ∀ M : Mx, mL M = l → mV M = V → mN M = 3 → Cx M cX1_paceAt (some .int) RX1 wsX1_paceAt (rmz 2) 0 0 (QI (mV M) Qk) → PS M 0 [(0, .ref c0), (1, .int a1)] [] σ (0, 0)) : K_X1_paceAt l V c0 a1 σ Qk :=
  Ka_of (by decide +kernel) rfl rfl (Nat.le_of_ble_eq_true rfl) (fun M h1 h2 h3 C => h M h1 h2 h3 (by rw [h2]; exact C))
set_option maxRecDepth 100000 in
set_option maxHeartbeats 4000000 in
theorem s_X1_paceAt_0 {M : Mx} {Qk : Int32 → Sg → Prop} (C : Cx M cX1_paceAt (some .int) RX1 wsX1_paceAt (rmz 2) 0 0 (QI (mV M) Qk)) (hN : mN M = 3) {c0 : Nat} {a1 : Int32} (hc0 : isC c0) {σ : Sg} (h : (vp_in a1 6 ∧ (∀ v2 : Int32, v2 = gi σ (c0 + 2) a1.toNatClampNeg → (vp_in (0 : Int32) 6 ∧ (∀ σ4 : Sg, σ4 = si σ (c0 + 15) (0 : Int32).toNatClampNeg v2 → (vp_in v2 6 ∧ (∃ (μ6 ci6 : Nat), gr σ4 (c0 + 1) v2.toNatClampNeg = some μ6 ∧ isMc ci6 ∧ kd μ6 = (10 + ci6, 0) ∧ μ6 ∈ ids (mV M) ∧ (vp_in (1 : Int32) 6 ∧ (∀ σ8 : Sg, σ8 = si σ4 (c0 + 15) (1 : Int32).toNatClampNeg (gi σ4 μ6 0) → (vp_in (2 : Int32) 6 ∧ (∀ σ10 : Sg, σ10 = si σ8 (c0 + 15) (2 : Int32).toNatClampNeg a1 → (vp_in v2 6 ∧ (vp_in (3 : Int32) 6 ∧ (∀ σ13 : Sg, σ13 = si σ10 (c0 + 15) (3 : Int32).toNatClampNeg (gi σ10 (c0 + 4) v2.toNatClampNeg) → (vp_in v2 6 ∧ (vp_in (4 : Int32) 6 ∧ (∀ σ16 : Sg, σ16 = si σ13 (c0 + 15) (4 : Int32).toNatClampNeg ((gi σ13 (c0 + 5) v2.toNatClampNeg) / (10 : Int32)) → (vp_in (5 : Int32) 6 ∧ (∀ σ18 : Sg, σ18 = si σ16 (c0 + 15) (5 : Int32).toNatClampNeg ((gi σ16 c0 9) - (gi σ16 c0 9) / (10 : Int32) * (10 : Int32)) → (∃ f19 : Nat, gr σ18 c0 10 = some f19 ∧ kd f19 = (12, 0) ∧ f19 ∈ ids (mV M) ∧ K_X2_paceOf (mL M) (mV M) f19 (c0 + 15) σ18 (fun r21 σ20 => Qk r21 σ20))))))))))))))))))))) : PS M 0 [(0, .ref c0), (1, .int a1)] [] σ (0, 0) := by
  refine P_aload_n C dX1_paceAt_0 0 rfl ?_
  refine P_getS C (e := (c0 + 2)) fa_X1_paceAt_21 (kdC_0 hc0) (d := 2) rfl (fxl (fxC_0 hc0)) rfl dX1_paceAt_1 ?_
  refine P_iload_n C dX1_paceAt_4 1 rfl ?_
  obtain ⟨hv1, h⟩ := h
  refine P_iald C (kdC_2 hc0) (fxl (fxC_2 hc0)) hv1 dX1_paceAt_5 ?_
  refine P_nmi (fun v2 ev2 => ?_)
  have h := h v2 ev2
  refine P_istore_n C dX1_paceAt_6 (by rw [hN]; decide) rfl ?_
  refine P_aload_n C dX1_paceAt_7 1 rfl ?_
  refine P_getS C (e := (c0 + 15)) fa_X1_paceAt_71 (kdC_0 hc0) (d := 15) rfl (fxl (fxC_0 hc0)) rfl dX1_paceAt_8 ?_
  refine P_iconst C dX1_paceAt_11 (v := (0 : Int32)) rfl ?_
  refine P_iload_n C dX1_paceAt_12 0 rfl ?_
  obtain ⟨hv3, h⟩ := h
  refine P_iast C (kdC_15 hc0) (fxl (fxC_15 hc0)) hv3 dX1_paceAt_13 ?_
  refine P_nm (fun σ4 eσ4 => ?_)
  have h := h σ4 eσ4
  refine P_aload_n C dX1_paceAt_14 1 rfl ?_
  refine P_getS C (e := (c0 + 15)) fa_X1_paceAt_71 (kdC_0 hc0) (d := 15) rfl (fxl (fxC_0 hc0)) rfl dX1_paceAt_15 ?_
  refine P_iconst C dX1_paceAt_18 (v := (1 : Int32)) rfl ?_
  refine P_aload_n C dX1_paceAt_19 1 rfl ?_
  refine P_getS C (e := (c0 + 1)) fa_X1_paceAt_11 (kdC_0 hc0) (d := 1) rfl (fxl (fxC_0 hc0)) rfl dX1_paceAt_20 ?_
  refine P_iload_n C dX1_paceAt_23 0 rfl ?_
  obtain ⟨hv5, μ6, ci6, hrμ6, sμ6, hμ6, lμ6, h⟩ := h
  refine P_aldD C (kdC_1 hc0) (Or.inl rfl) (fxl (fxC_1 hc0)) hv5 hrμ6 dX1_paceAt_24 ?_
  refine P_getM C fa_X1_paceAt_96 (by decide +kernel) sμ6 hμ6 lμ6 dX1_paceAt_25 ?_
  obtain ⟨hv7, h⟩ := h
  refine P_iast C (kdC_15 hc0) (fxl (fxC_15 hc0)) hv7 dX1_paceAt_28 ?_
  refine P_nm (fun σ8 eσ8 => ?_)
  have h := h σ8 eσ8
  refine P_aload_n C dX1_paceAt_29 1 rfl ?_
  refine P_getS C (e := (c0 + 15)) fa_X1_paceAt_71 (kdC_0 hc0) (d := 15) rfl (fxl (fxC_0 hc0)) rfl dX1_paceAt_30 ?_
  refine P_iconst C dX1_paceAt_33 (v := (2 : Int32)) rfl ?_
  refine P_iload_n C dX1_paceAt_34 2 rfl ?_
  obtain ⟨hv9, h⟩ := h
  refine P_iast C (kdC_15 hc0) (fxl (fxC_15 hc0)) hv9 dX1_paceAt_35 ?_
  refine P_nm (fun σ10 eσ10 => ?_)
  have h := h σ10 eσ10
  refine P_aload_n C dX1_paceAt_36 1 rfl ?_
  refine P_getS C (e := (c0 + 15)) fa_X1_paceAt_71 (kdC_0 hc0) (d := 15) rfl (fxl (fxC_0 hc0)) rfl dX1_paceAt_37 ?_
  refine P_iconst C dX1_paceAt_40 (v := (3 : Int32)) rfl ?_
  refine P_aload_n C dX1_paceAt_41 1 rfl ?_
  refine P_getS C (e := (c0 + 4)) fa_X1_paceAt_31 (kdC_0 hc0) (d := 4) rfl (fxl (fxC_0 hc0)) rfl dX1_paceAt_42 ?_
  refine P_iload_n C dX1_paceAt_45 0 rfl ?_
  obtain ⟨hv11, h⟩ := h
  refine P_iald C (kdC_4 hc0) (fxl (fxC_4 hc0)) hv11 dX1_paceAt_46 ?_
  obtain ⟨hv12, h⟩ := h
  refine P_iast C (kdC_15 hc0) (fxl (fxC_15 hc0)) hv12 dX1_paceAt_47 ?_
  refine P_nm (fun σ13 eσ13 => ?_)
  have h := h σ13 eσ13
  refine P_aload_n C dX1_paceAt_48 1 rfl ?_
  refine P_getS C (e := (c0 + 15)) fa_X1_paceAt_71 (kdC_0 hc0) (d := 15) rfl (fxl (fxC_0 hc0)) rfl dX1_paceAt_49 ?_
  refine P_iconst C dX1_paceAt_52 (v := (4 : Int32)) rfl ?_
  refine P_aload_n C dX1_paceAt_53 1 rfl ?_
  refine P_getS C (e := (c0 + 5)) fa_X1_paceAt_34 (kdC_0 hc0) (d := 5) rfl (fxl (fxC_0 hc0)) rfl dX1_paceAt_54 ?_
  refine P_iload_n C dX1_paceAt_57 0 rfl ?_
  obtain ⟨hv14, h⟩ := h
  refine P_iald C (kdC_5 hc0) (fxl (fxC_5 hc0)) hv14 dX1_paceAt_58 ?_
  refine P_bipush C dX1_paceAt_59 (v := (10 : Int32)) rfl ?_
  refine P_idiv C dX1_paceAt_61 (by decide +kernel) ?_
  obtain ⟨hv15, h⟩ := h
  refine P_iast C (kdC_15 hc0) (fxl (fxC_15 hc0)) hv15 dX1_paceAt_62 ?_
  refine P_nm (fun σ16 eσ16 => ?_)
  have h := h σ16 eσ16
  refine P_aload_n C dX1_paceAt_63 1 rfl ?_
  refine P_getS C (e := (c0 + 15)) fa_X1_paceAt_71 (kdC_0 hc0) (d := 15) rfl (fxl (fxC_0 hc0)) rfl dX1_paceAt_64 ?_
  refine P_iconst C dX1_paceAt_67 (v := (5 : Int32)) rfl ?_
  refine P_aload_n C dX1_paceAt_68 1 rfl ?_
  refine P_getI C fa_X1_paceAt_43 (kdC_0 hc0) rfl (fxl (fxC_0 hc0)) dX1_paceAt_69 ?_
  refine P_bipush C dX1_paceAt_72 (v := (10 : Int32)) rfl ?_
  refine P_irem C dX1_paceAt_74 (by decide +kernel) ?_
  obtain ⟨hv17, h⟩ := h
  refine P_iast C (kdC_15 hc0) (fxl (fxC_15 hc0)) hv17 dX1_paceAt_75 ?_
  refine P_nm (fun σ18 eσ18 => ?_)
  have h := h σ18 eσ18
  refine P_aload_n C dX1_paceAt_76 1 rfl ?_
  obtain ⟨f19, hrf19, hf19, lf19, h⟩ := h
  refine P_getD C fa_X1_paceAt_46 (kdC_0 hc0) rfl (fxl (fxC_0 hc0)) hrf19 dX1_paceAt_77 ?_
  refine P_aload_n C dX1_paceAt_80 1 rfl ?_
  refine P_getS C (e := (c0 + 15)) fa_X1_paceAt_71 (kdC_0 hc0) (d := 15) rfl (fxl (fxC_0 hc0)) rfl dX1_paceAt_81 ?_
  refine P_ci (R_v (ci := 2) C kv_X1_paceAt_X2_paceOf (As := [.ref (c0 + 15)]) rfl hf19 rfl lf19 (Nat.le_of_ble_eq_true rfl) dX1_paceAt_84 ⟨Nat.le_refl _, Nat.le_refl _⟩ h) (fun r21 σ20 h => ?_)
  exact P_iret C dX1_paceAt_87 h
theorem kv_X2_readsNumber_X2_isDigit : KV RX2 wsX2_readsNumber (rmz 2) 127 RX2 yX2_isDigit wsX2_isDigit (rmz 1) 0 := ⟨_, _, _, _, gX2_readsNumber_X2_isDigit, rfl, by decide +kernel, by decide +kernel⟩
theorem kv_X2_readsNumber_X2_sign : KV RX2 wsX2_readsNumber (rmz 2) 130 RX2 yX2_sign wsX2_sign (rmz 0) 0 := ⟨_, _, _, _, gX2_readsNumber_X2_sign, rfl, by decide +kernel, by decide +kernel⟩
theorem fa_X2_readsNumber_47 : FA RX2 wsX2_readsNumber 47 2 11 "NineMowers$Field" := by
  show _ ∧ _ ∧ _ ∧ _
  exact ⟨by decide +kernel, fun _ h => List.mem_cons_of_mem _ (List.mem_append_right _ h), List.mem_of_getElem? (i := 1) rfl, Or.inl rfl⟩
theorem pa_X2_readsNumber_47 : PA RX2 wsX2_readsNumber 47 2 11 "NineMowers$Field" .int := by
  show _ ∧ _ ∧ _ ∧ _ ∧ _ ∧ _ ∧ _ ∧ _
  exact ⟨by decide +kernel, fun _ h => List.mem_cons_of_mem _ (List.mem_append_right _ h), List.mem_of_getElem? (i := 1) rfl, rfl, rfl, by decide +kernel, ⟨tyX2, tyX2_ok⟩, nmX2⟩
noncomputable def K_X2_readsNumber (l : Launch) (V : Vx) (c0 : Nat) (σ : Sg) (Qk : Int32 → Sg → Prop) : Prop := Ka l V yX2_readsNumber wsX2_readsNumber (rmz 2) 0 0 [.ref c0] σ (QI V Qk)
theorem e_X2_readsNumber {l : Launch} {V : Vx} {c0 : Nat} {σ : Sg} {Qk : Int32 → Sg → Prop} (h : ∀ M : Mx, mL M = l → mV M = V → mN M = 2 → Cx M cX2_readsNumber (some .int) RX2 wsX2_readsNumber (rmz 2) 0 0 (QI (mV M) Qk) → PS M 0 [(0, .ref c0)] [] σ (0, 0)) : K_X2_readsNumber l V c0 σ Qk :=
  Ka_of (by decide +kernel) rfl rfl (Nat.le_of_ble_eq_true rfl) (fun M h1 h2 h3 C => h M h1 h2 h3 (by rw [h2]; exact C))
set_option maxRecDepth 100000 in
set_option maxHeartbeats 4000000 in
theorem s_X2_readsNumber_0 {M : Mx} {Qk : Int32 → Sg → Prop} (C : Cx M cX2_readsNumber (some .int) RX2 wsX2_readsNumber (rmz 2) 0 0 (QI (mV M) Qk)) (hN : mN M = 2) {c0 : Nat} (hc0 : kd c0 = (12, 0)) (lc0 : c0 ∈ ids (mV M)) {σ : Sg} (h : K_X2_isDigit (mL M) (mV M) c0 σ (fun r2 σ1 => ((¬ r2 = 0 → K_X2_sign (mL M) (mV M) c0 σ1 (fun r5 σ4 => (∀ v6 : Int32, v6 = r5 - (48 : Int32) → (∀ σ7 : Sg, σ7 = si σ4 c0 11 ((gi σ4 c0 11) + (1 : Int32)) → K_X2_isDigit (mL M) (mV M) c0 σ7 (fun r9 σ8 => ((r9 = 0 → Qk v6 σ8) ∧ (¬ r9 = 0 → K_X2_sign (mL M) (mV M) c0 σ8 (fun r12 σ11 => (∀ v13 : Int32, v13 = (((10 : Int32) * v6) + r12) - (48 : Int32) → (∀ σ14 : Sg, σ14 = si σ11 c0 11 ((gi σ11 c0 11) + (1 : Int32)) → Qk v13 σ14)))))))))) ∧ (r2 = 0 → Qk (-1 : Int32) σ1)))) : PS M 0 [(0, .ref c0)] [] σ (0, 0) := by
  refine P_aload_n C dX2_readsNumber_0 0 rfl ?_
  refine P_ci (R_v (ci := 2) C kv_X2_readsNumber_X2_isDigit (As := []) rfl hc0 rfl lc0 (Nat.le_of_ble_eq_true rfl) dX2_readsNumber_1 ⟨Nat.le_refl _, Nat.le_refl _⟩ h) (fun r2 σ1 h => ?_)
  refine P_if_ne C dX2_readsNumber_4 (tgt := 9) (by decide +kernel) (fun q3 => ?_) (fun q3 => ?_)
  · have h := h.1 q3
    refine P_aload_n C dX2_readsNumber_9 0 rfl ?_
    refine P_ci (R_v (ci := 2) C kv_X2_readsNumber_X2_sign (As := []) rfl hc0 rfl lc0 (Nat.le_of_ble_eq_true rfl) dX2_readsNumber_10 ⟨Nat.le_refl _, Nat.le_refl _⟩ h) (fun r5 σ4 h => ?_)
    refine P_bipush C dX2_readsNumber_13 (v := (48 : Int32)) rfl ?_
    refine P_isub C dX2_readsNumber_15 ?_
    refine P_nmi (fun v6 ev6 => ?_)
    have h := h v6 ev6
    refine P_istore_n C dX2_readsNumber_16 (by rw [hN]; decide) rfl ?_
    refine P_aload_n C dX2_readsNumber_17 1 rfl ?_
    refine P_dup C dX2_readsNumber_18 rfl ?_
    refine P_getI C fa_X2_readsNumber_47 hc0 rfl lc0 dX2_readsNumber_19 ?_
    refine P_iconst C dX2_readsNumber_22 (v := (1 : Int32)) rfl ?_
    refine P_iadd C dX2_readsNumber_23 ?_
    refine P_putI C pa_X2_readsNumber_47 hc0 rfl lc0 dX2_readsNumber_24 ?_
    refine P_nm (fun σ7 eσ7 => ?_)
    have h := h σ7 eσ7
    refine P_aload_n C dX2_readsNumber_27 1 rfl ?_
    refine P_ci (R_v (ci := 2) C kv_X2_readsNumber_X2_isDigit (As := []) rfl hc0 rfl lc0 (Nat.le_of_ble_eq_true rfl) dX2_readsNumber_28 ⟨Nat.le_refl _, Nat.le_refl _⟩ h) (fun r9 σ8 h => ?_)
    refine P_if_eq C dX2_readsNumber_31 (tgt := 57) (by decide +kernel) (fun q10 => ?_) (fun q10 => ?_)
    · have h := h.1 q10
      refine P_iload_n C dX2_readsNumber_57 0 rfl ?_
      exact P_iret C dX2_readsNumber_58 h
    · have h := h.2 q10
      refine P_bipush C dX2_readsNumber_34 (v := (10 : Int32)) rfl ?_
      refine P_iload_n C dX2_readsNumber_36 0 rfl ?_
      refine P_imul C dX2_readsNumber_37 ?_
      refine P_aload_n C dX2_readsNumber_38 1 rfl ?_
      refine P_ci (R_v (ci := 2) C kv_X2_readsNumber_X2_sign (As := []) rfl hc0 rfl lc0 (Nat.le_of_ble_eq_true rfl) dX2_readsNumber_39 ⟨Nat.le_refl _, Nat.le_refl _⟩ h) (fun r12 σ11 h => ?_)
      refine P_iadd C dX2_readsNumber_42 ?_
      refine P_bipush C dX2_readsNumber_43 (v := (48 : Int32)) rfl ?_
      refine P_isub C dX2_readsNumber_45 ?_
      refine P_nmi (fun v13 ev13 => ?_)
      have h := h v13 ev13
      refine P_istore_n C dX2_readsNumber_46 (by rw [hN]; decide) rfl ?_
      refine P_aload_n C dX2_readsNumber_47 1 rfl ?_
      refine P_dup C dX2_readsNumber_48 rfl ?_
      refine P_getI C fa_X2_readsNumber_47 hc0 rfl lc0 dX2_readsNumber_49 ?_
      refine P_iconst C dX2_readsNumber_52 (v := (1 : Int32)) rfl ?_
      refine P_iadd C dX2_readsNumber_53 ?_
      refine P_putI C pa_X2_readsNumber_47 hc0 rfl lc0 dX2_readsNumber_54 ?_
      refine P_nm (fun σ14 eσ14 => ?_)
      have h := h σ14 eσ14
      refine P_iload_n C dX2_readsNumber_57 0 rfl ?_
      exact P_iret C dX2_readsNumber_58 h
  · have h := h.2 q3
    refine P_iconst C dX2_readsNumber_7 (v := (-1 : Int32)) rfl ?_
    exact P_iret C dX2_readsNumber_8 h
theorem fa_X11_isMower_12 : FA RX11 wsX11_isMower 12 11 0 "NineMowers" := by
  show _ ∧ _ ∧ _ ∧ _
  exact ⟨by decide +kernel, fun _ h => List.mem_cons_of_mem _ (List.mem_append_left _ (List.mem_append_right _ h)), List.mem_of_getElem? (i := 1) rfl, Or.inl rfl⟩
theorem fa_X11_isMower_76 : FA RX11 wsX11_isMower 76 1 1 "NineMowers$Course" := by
  show _ ∧ _ ∧ _ ∧ _
  exact ⟨by decide +kernel, fun _ h => List.mem_cons_of_mem _ (List.mem_append_right _ h), List.mem_of_getElem? (i := 2) rfl, Or.inl rfl⟩
noncomputable def K_X11_isMower (l : Launch) (V : Vx) (a1 : Int32) (σ : Sg) (Qk : Int32 → Sg → Prop) : Prop := Ka l V yX11_isMower wsX11_isMower (rmz 0) 0 0 [.ref 0, .int a1] σ (QI V Qk)
theorem e_X11_isMower {l : Launch} {V : Vx} {a1 : Int32} {σ : Sg} {Qk : Int32 → Sg → Prop} (h : ∀ M : Mx, mL M = l → mV M = V → mN M = 2 → Cx M cX11_isMower (some .boolean) RX11 wsX11_isMower (rmz 0) 0 0 (QI (mV M) Qk) → PS M 0 [(0, .ref 0), (1, .int a1)] [] σ (0, 0)) : K_X11_isMower l V a1 σ Qk :=
  Ka_of (by decide +kernel) rfl rfl (Nat.le_of_ble_eq_true rfl) (fun M h1 h2 h3 C => h M h1 h2 h3 (by rw [h2]; exact C))
set_option maxRecDepth 100000 in
set_option maxHeartbeats 4000000 in
theorem s_X11_isMower_0 {M : Mx} {Qk : Int32 → Sg → Prop} (C : Cx M cX11_isMower (some .boolean) RX11 wsX11_isMower (rmz 0) 0 0 (QI (mV M) Qk)) (hN : mN M = 2) {a1 : Int32} {σ : Sg} (h : ((a1 < 0 → Qk (0 : Int32) σ) ∧ (¬ a1 < 0 → (((gi σ 1 1) ≤ a1 → Qk (0 : Int32) σ) ∧ (¬ (gi σ 1 1) ≤ a1 → Qk (1 : Int32) σ))))) : PS M 0 [(0, .ref 0), (1, .int a1)] [] σ (0, 0) := by
  refine P_iload_n C dX11_isMower_0 1 rfl ?_
  refine P_if_lt C dX11_isMower_1 (tgt := 19) (by decide +kernel) (fun q1 => ?_) (fun q1 => ?_)
  · have h := h.1 q1
    refine P_iconst C dX11_isMower_19 (v := (0 : Int32)) rfl ?_
    exact P_zret C (by decide +kernel) dX11_isMower_20 h
  · have h := h.2 q1
    refine P_iload_n C dX11_isMower_4 1 rfl ?_
    refine P_aload_n C dX11_isMower_5 0 rfl ?_
    refine P_getS C (e := 1) fa_X11_isMower_12 kd_0 (d := 1) rfl (fxl fx_0) rfl dX11_isMower_6 ?_
    refine P_getI C fa_X11_isMower_76 kd_1 rfl (fxl fx_1) dX11_isMower_9 ?_
    refine P_icmp_ge C dX11_isMower_12 (tgt := 19) (by decide +kernel) (fun q2 => ?_) (fun q2 => ?_)
    · have h := h.1 q2
      refine P_iconst C dX11_isMower_19 (v := (0 : Int32)) rfl ?_
      exact P_zret C (by decide +kernel) dX11_isMower_20 h
    · have h := h.2 q2
      refine P_iconst C dX11_isMower_15 (v := (1 : Int32)) rfl ?_
      refine P_goto C dX11_isMower_16 (tgt := 20) (by decide +kernel) ?_
      exact P_zret C (by decide +kernel) dX11_isMower_20 h
theorem fa_X11_feed_42 : FA RX11 wsX11_feed 42 11 7 "NineMowers" := by
  show _ ∧ _ ∧ _ ∧ _
  exact ⟨by decide +kernel, fun _ h => List.mem_cons_of_mem _ (List.mem_append_right _ h), List.mem_of_getElem? (i := 1) rfl, Or.inl rfl⟩
theorem fa_X11_feed_38 : FA RX11 wsX11_feed 38 11 6 "NineMowers" := by
  show _ ∧ _ ∧ _ ∧ _
  exact ⟨by decide +kernel, fun _ h => List.mem_cons_of_mem _ (List.mem_append_right _ h), List.mem_of_getElem? (i := 2) rfl, Or.inl rfl⟩
theorem pa_X11_feed_42 : PA RX11 wsX11_feed 42 11 7 "NineMowers" .int := by
  show _ ∧ _ ∧ _ ∧ _ ∧ _ ∧ _ ∧ _ ∧ _
  exact ⟨by decide +kernel, fun _ h => List.mem_cons_of_mem _ (List.mem_append_right _ h), List.mem_of_getElem? (i := 1) rfl, rfl, rfl, by decide +kernel, ⟨tyX11, tyX11_ok⟩, nmX11⟩
noncomputable def K_X11_feed (l : Launch) (V : Vx) (a1 : Int32) (σ : Sg) (Qk : Int32 → Sg → Prop) : Prop := Ka l V yX11_feed wsX11_feed (rmz 0) 0 0 [.ref 0, .int a1] σ (QI V Qk)
theorem e_X11_feed {l : Launch} {V : Vx} {a1 : Int32} {σ : Sg} {Qk : Int32 → Sg → Prop} (h : ∀ M : Mx, mL M = l → mV M = V → mN M = 2 → Cx M cX11_feed (some .int) RX11 wsX11_feed (rmz 0) 0 0 (QI (mV M) Qk) → PS M 0 [(0, .ref 0), (1, .int a1)] [] σ (0, 0)) : K_X11_feed l V a1 σ Qk :=
  Ka_of (by decide +kernel) rfl rfl (Nat.le_of_ble_eq_true rfl) (fun M h1 h2 h3 C => h M h1 h2 h3 (by rw [h2]; exact C))
set_option maxRecDepth 100000 in
set_option maxHeartbeats 4000000 in
theorem s_X11_feed_0 {M : Mx} {Qk : Int32 → Sg → Prop} (C : Cx M cX11_feed (some .int) RX11 wsX11_feed (rmz 0) 0 0 (QI (mV M) Qk)) (hN : mN M = 2) {a1 : Int32} {σ : Sg} (h : ((a1 < 0 → Qk (-2 : Int32) σ) ∧ (¬ a1 < 0 → ((a1 ≤ (127 : Int32) → (((gi σ 0 7) < (100 : Int32) → (vp_in (gi σ 0 7) 100 ∧ (∀ σ5 : Sg, σ5 = si σ 50 (gi σ 0 7).toNatClampNeg (vp_nar .byte a1.toInt8.toInt32) → (∀ σ6 : Sg, σ6 = si σ5 0 7 ((gi σ5 0 7) + (1 : Int32)) → Qk (gi σ6 0 7) σ6)))) ∧ (¬ (gi σ 0 7) < (100 : Int32) → Qk (-4 : Int32) σ))) ∧ (¬ a1 ≤ (127 : Int32) → Qk (-2 : Int32) σ))))) : PS M 0 [(0, .ref 0), (1, .int a1)] [] σ (0, 0) := by
  refine P_iload_n C dX11_feed_0 1 rfl ?_
  refine P_if_lt C dX11_feed_1 (tgt := 10) (by decide +kernel) (fun q1 => ?_) (fun q1 => ?_)
  · have h := h.1 q1
    refine P_bipush C dX11_feed_10 (v := (-2 : Int32)) rfl ?_
    exact P_iret C dX11_feed_12 h
  · have h := h.2 q1
    refine P_iload_n C dX11_feed_4 1 rfl ?_
    refine P_bipush C dX11_feed_5 (v := (127 : Int32)) rfl ?_
    refine P_icmp_le C dX11_feed_7 (tgt := 13) (by decide +kernel) (fun q2 => ?_) (fun q2 => ?_)
    · have h := h.1 q2
      refine P_aload_n C dX11_feed_13 0 rfl ?_
      refine P_getI C fa_X11_feed_42 kd_0 rfl (fxl fx_0) dX11_feed_14 ?_
      refine P_bipush C dX11_feed_17 (v := (100 : Int32)) rfl ?_
      refine P_icmp_lt C dX11_feed_19 (tgt := 25) (by decide +kernel) (fun q3 => ?_) (fun q3 => ?_)
      · have h := h.1 q3
        refine P_aload_n C dX11_feed_25 0 rfl ?_
        refine P_getS C (e := 50) fa_X11_feed_38 kd_0 (d := 50) rfl (fxl fx_0) rfl dX11_feed_26 ?_
        refine P_aload_n C dX11_feed_29 0 rfl ?_
        refine P_getI C fa_X11_feed_42 kd_0 rfl (fxl fx_0) dX11_feed_30 ?_
        refine P_iload_n C dX11_feed_33 1 rfl ?_
        refine P_i2b C dX11_feed_34 ?_
        obtain ⟨hv4, h⟩ := h
        refine P_bast C kd_50 (fxl fx_50) hv4 dX11_feed_35 ?_
        refine P_nm (fun σ5 eσ5 => ?_)
        have h := h σ5 eσ5
        refine P_aload_n C dX11_feed_36 0 rfl ?_
        refine P_dup C dX11_feed_37 rfl ?_
        refine P_getI C fa_X11_feed_42 kd_0 rfl (fxl fx_0) dX11_feed_38 ?_
        refine P_iconst C dX11_feed_41 (v := (1 : Int32)) rfl ?_
        refine P_iadd C dX11_feed_42 ?_
        refine P_putI C pa_X11_feed_42 kd_0 rfl (fxl fx_0) dX11_feed_43 ?_
        refine P_nm (fun σ6 eσ6 => ?_)
        have h := h σ6 eσ6
        refine P_aload_n C dX11_feed_46 0 rfl ?_
        refine P_getI C fa_X11_feed_42 kd_0 rfl (fxl fx_0) dX11_feed_47 ?_
        exact P_iret C dX11_feed_50 h
      · have h := h.2 q3
        refine P_bipush C dX11_feed_22 (v := (-4 : Int32)) rfl ?_
        exact P_iret C dX11_feed_24 h
    · have h := h.2 q2
      refine P_bipush C dX11_feed_10 (v := (-2 : Int32)) rfl ?_
      exact P_iret C dX11_feed_12 h
noncomputable def K_X11_whetsIn (l : Launch) (V : Vx) (a1 : Int32) (a2 : Int32) (σ : Sg) (Qk : Int32 → Sg → Prop) : Prop := Ka l V yX11_whetsIn wsX11_whetsIn (rmz 0) 0 0 [.int a1, .int a2] σ (QI V Qk)
theorem e_X11_whetsIn {l : Launch} {V : Vx} {a1 : Int32} {a2 : Int32} {σ : Sg} {Qk : Int32 → Sg → Prop} (h : ∀ M : Mx, mL M = l → mV M = V → mN M = 2 → Cx M cX11_whetsIn (some .boolean) RX11 wsX11_whetsIn (rmz 0) 0 0 (QI (mV M) Qk) → PS M 0 [(0, .int a1), (1, .int a2)] [] σ (0, 0)) : K_X11_whetsIn l V a1 a2 σ Qk :=
  Ka_of (by decide +kernel) rfl rfl (Nat.le_of_ble_eq_true rfl) (fun M h1 h2 h3 C => h M h1 h2 h3 (by rw [h2]; exact C))
set_option maxRecDepth 100000 in
set_option maxHeartbeats 4000000 in
theorem s_X11_whetsIn_0 {M : Mx} {Qk : Int32 → Sg → Prop} (C : Cx M cX11_whetsIn (some .boolean) RX11 wsX11_whetsIn (rmz 0) 0 0 (QI (mV M) Qk)) (hN : mN M = 2) {a1 : Int32} {a2 : Int32} {σ : Sg} (h : ((a2 < (1 : Int32) → Qk (0 : Int32) σ) ∧ (¬ a2 < (1 : Int32) → (((16 : Int32) ≤ a2 → Qk (0 : Int32) σ) ∧ (¬ (16 : Int32) ≤ a2 → (¬ a2 = 0 ∧ ((¬ (a1 - a1 / a2 * a2) = 0 → Qk (0 : Int32) σ) ∧ ((a1 - a1 / a2 * a2) = 0 → Qk (1 : Int32) σ)))))))) : PS M 0 [(0, .int a1), (1, .int a2)] [] σ (0, 0) := by
  refine P_iload_n C dX11_whetsIn_0 1 rfl ?_
  refine P_iconst C dX11_whetsIn_1 (v := (1 : Int32)) rfl ?_
  refine P_icmp_lt C dX11_whetsIn_2 (tgt := 21) (by decide +kernel) (fun q1 => ?_) (fun q1 => ?_)
  · have h := h.1 q1
    refine P_iconst C dX11_whetsIn_21 (v := (0 : Int32)) rfl ?_
    exact P_zret C (by decide +kernel) dX11_whetsIn_22 h
  · have h := h.2 q1
    refine P_iload_n C dX11_whetsIn_5 1 rfl ?_
    refine P_bipush C dX11_whetsIn_6 (v := (16 : Int32)) rfl ?_
    refine P_icmp_ge C dX11_whetsIn_8 (tgt := 21) (by decide +kernel) (fun q2 => ?_) (fun q2 => ?_)
    · have h := h.1 q2
      refine P_iconst C dX11_whetsIn_21 (v := (0 : Int32)) rfl ?_
      exact P_zret C (by decide +kernel) dX11_whetsIn_22 h
    · have h := h.2 q2
      refine P_iload_n C dX11_whetsIn_11 0 rfl ?_
      refine P_iload_n C dX11_whetsIn_12 1 rfl ?_
      obtain ⟨hz3, h⟩ := h
      refine P_irem C dX11_whetsIn_13 hz3 ?_
      refine P_if_ne C dX11_whetsIn_14 (tgt := 21) (by decide +kernel) (fun q4 => ?_) (fun q4 => ?_)
      · have h := h.1 q4
        refine P_iconst C dX11_whetsIn_21 (v := (0 : Int32)) rfl ?_
        exact P_zret C (by decide +kernel) dX11_whetsIn_22 h
      · have h := h.2 q4
        refine P_iconst C dX11_whetsIn_17 (v := (1 : Int32)) rfl ?_
        refine P_goto C dX11_whetsIn_18 (tgt := 22) (by decide +kernel) ?_
        exact P_zret C (by decide +kernel) dX11_whetsIn_22 h
theorem fa_X11_swapsTried_60 : FA RX11 wsX11_swapsTried 60 11 10 "NineMowers" := by
  show _ ∧ _ ∧ _ ∧ _
  exact ⟨by decide +kernel, fun _ h => List.mem_cons_of_mem _ (List.mem_append_right _ h), List.mem_of_getElem? (i := 1) rfl, Or.inl rfl⟩
noncomputable def K_X11_swapsTried (l : Launch) (V : Vx) (a1 : Int32) (a2 : Int32) (σ : Sg) (Qk : Sg → Prop) : Prop := Ka l V yX11_swapsTried wsX11_swapsTried (rmz 0) 0 0 [.ref 0, .int a1, .int a2] σ (QV V Qk)
theorem e_X11_swapsTried {l : Launch} {V : Vx} {a1 : Int32} {a2 : Int32} {σ : Sg} {Qk : Sg → Prop} (h : ∀ M : Mx, mL M = l → mV M = V → mN M = 4 → Cx M cX11_swapsTried none RX11 wsX11_swapsTried (rmz 0) 0 0 (QV (mV M) Qk) → PS M 0 [(0, .ref 0), (1, .int a1), (2, .int a2)] [] σ (0, 0)) : K_X11_swapsTried l V a1 a2 σ Qk :=
  Ka_of (by decide +kernel) rfl rfl (Nat.le_of_ble_eq_true rfl) (fun M h1 h2 h3 C => h M h1 h2 h3 (by rw [h2]; exact C))
set_option maxRecDepth 100000 in
set_option maxHeartbeats 4000000 in
theorem s_X11_swapsTried_0 {M : Mx} {Qk : Sg → Prop} (C : Cx M cX11_swapsTried none RX11 wsX11_swapsTried (rmz 0) 0 0 (QV (mV M) Qk)) (hN : mN M = 4) {a1 : Int32} {a2 : Int32} {σ : Sg} (h : (vp_in a1 5 ∧ (∀ v2 : Int32, v2 = gi σ 66 a1.toNatClampNeg → (vp_in a2 5 ∧ (vp_in a1 5 ∧ (∀ σ5 : Sg, σ5 = si σ 66 a1.toNatClampNeg (gi σ 66 a2.toNatClampNeg) → (vp_in a2 5 ∧ (∀ σ7 : Sg, σ7 = si σ5 66 a2.toNatClampNeg v2 → Qk σ7)))))))) : PS M 0 [(0, .ref 0), (1, .int a1), (2, .int a2)] [] σ (0, 0) := by
  refine P_aload_n C dX11_swapsTried_0 0 rfl ?_
  refine P_getS C (e := 66) fa_X11_swapsTried_60 kd_0 (d := 66) rfl (fxl fx_0) rfl dX11_swapsTried_1 ?_
  refine P_iload_n C dX11_swapsTried_4 1 rfl ?_
  obtain ⟨hv1, h⟩ := h
  refine P_iald C kd_66 (fxl fx_66) hv1 dX11_swapsTried_5 ?_
  refine P_nmi (fun v2 ev2 => ?_)
  have h := h v2 ev2
  refine P_istore_n C dX11_swapsTried_6 (by rw [hN]; decide) rfl ?_
  refine P_aload_n C dX11_swapsTried_7 1 rfl ?_
  refine P_getS C (e := 66) fa_X11_swapsTried_60 kd_0 (d := 66) rfl (fxl fx_0) rfl dX11_swapsTried_8 ?_
  refine P_iload_n C dX11_swapsTried_11 2 rfl ?_
  refine P_aload_n C dX11_swapsTried_12 1 rfl ?_
  refine P_getS C (e := 66) fa_X11_swapsTried_60 kd_0 (d := 66) rfl (fxl fx_0) rfl dX11_swapsTried_13 ?_
  refine P_iload_n C dX11_swapsTried_16 3 rfl ?_
  obtain ⟨hv3, h⟩ := h
  refine P_iald C kd_66 (fxl fx_66) hv3 dX11_swapsTried_17 ?_
  obtain ⟨hv4, h⟩ := h
  refine P_iast C kd_66 (fxl fx_66) hv4 dX11_swapsTried_18 ?_
  refine P_nm (fun σ5 eσ5 => ?_)
  have h := h σ5 eσ5
  refine P_aload_n C dX11_swapsTried_19 1 rfl ?_
  refine P_getS C (e := 66) fa_X11_swapsTried_60 kd_0 (d := 66) rfl (fxl fx_0) rfl dX11_swapsTried_20 ?_
  refine P_iload_n C dX11_swapsTried_23 3 rfl ?_
  refine P_iload_n C dX11_swapsTried_24 0 rfl ?_
  obtain ⟨hv6, h⟩ := h
  refine P_iast C kd_66 (fxl fx_66) hv6 dX11_swapsTried_25 ?_
  refine P_nm (fun σ7 eσ7 => ?_)
  have h := h σ7 eσ7
  exact P_vret C dX11_swapsTried_26 h
theorem fa_X11_triesNextOrder_60 : FA RX11 wsX11_triesNextOrder 60 11 10 "NineMowers" := by
  show _ ∧ _ ∧ _ ∧ _
  exact ⟨by decide +kernel, fun _ h => List.mem_cons_of_mem _ (List.mem_append_right _ h), List.mem_of_getElem? (i := 1) rfl, Or.inl rfl⟩
theorem kv_X11_triesNextOrder_X11_swapsTried : KV RX11 wsX11_triesNextOrder (rmz 1) 226 RX11 yX11_swapsTried wsX11_swapsTried (rmz 0) 2 := ⟨_, _, _, _, gX11_triesNextOrder_X11_swapsTried, rfl, by decide +kernel, by decide +kernel⟩
noncomputable def K_X11_triesNextOrder (l : Launch) (V : Vx) (a1 : Int32) (σ : Sg) (Qk : Int32 → Sg → Prop) : Prop := Ka l V yX11_triesNextOrder wsX11_triesNextOrder (rmz 1) 0 0 [.ref 0, .int a1] σ (QI V Qk)
theorem e_X11_triesNextOrder {l : Launch} {V : Vx} {a1 : Int32} {σ : Sg} {Qk : Int32 → Sg → Prop} (h : ∀ M : Mx, mL M = l → mV M = V → mN M = 6 → Cx M cX11_triesNextOrder (some .boolean) RX11 wsX11_triesNextOrder (rmz 1) 0 0 (QI (mV M) Qk) → PS M 0 [(0, .ref 0), (1, .int a1)] [] σ (0, 0)) : K_X11_triesNextOrder l V a1 σ Qk :=
  Ka_of (by decide +kernel) rfl rfl (Nat.le_of_ble_eq_true rfl) (fun M h1 h2 h3 C => h M h1 h2 h3 (by rw [h2]; exact C))
set_option maxRecDepth 100000 in
set_option maxHeartbeats 4000000 in
theorem s_X11_triesNextOrder_0 {M : Mx} {Qk : Int32 → Sg → Prop} (C : Cx M cX11_triesNextOrder (some .boolean) RX11 wsX11_triesNextOrder (rmz 1) 0 0 (QI (mV M) Qk)) (hN : mN M = 6) {a1 : Int32} {σ : Sg} (h : (∀ v1 : Int32, v1 = a1 - (2 : Int32) → PS M 4 [(0, .ref 0), (1, .int a1), (2, .int v1)] [] σ (0, 0))) : PS M 0 [(0, .ref 0), (1, .int a1)] [] σ (0, 0) := by
  refine P_iload_n C dX11_triesNextOrder_0 1 rfl ?_
  refine P_iconst C dX11_triesNextOrder_1 (v := (2 : Int32)) rfl ?_
  refine P_isub C dX11_triesNextOrder_2 ?_
  refine P_nmi (fun v1 ev1 => ?_)
  have h := h v1 ev1
  refine P_istore_n C dX11_triesNextOrder_3 (by rw [hN]; decide) rfl ?_
  exact P_sub [1, 2, 0] rfl h
set_option maxRecDepth 100000 in
set_option maxHeartbeats 4000000 in
theorem s_X11_triesNextOrder_4 {M : Mx} {Qk : Int32 → Sg → Prop} (C : Cx M cX11_triesNextOrder (some .boolean) RX11 wsX11_triesNextOrder (rmz 1) 0 0 (QI (mV M) Qk)) (hN : mN M = 6) {x1 : Int32} {x2 : Int32} {σ : Sg} (h : ((x2 < 0 → ((0 ≤ x2 → (∀ v3 : Int32, v3 = x1 - (1 : Int32) → PS M 41 [(0, .ref 0), (1, .int x1), (2, .int x2), (3, .int v3)] [] σ (0, 0))) ∧ (¬ 0 ≤ x2 → Qk (0 : Int32) σ))) ∧ (¬ x2 < 0 → (vp_in x2 5 ∧ (vp_in (x2 + (1 : Int32)) 5 ∧ (((gi σ 66 x2.toNatClampNeg) ≤ (gi σ 66 (x2 + (1 : Int32)).toNatClampNeg) → ((0 ≤ x2 → (∀ v8 : Int32, v8 = x1 - (1 : Int32) → PS M 41 [(0, .ref 0), (1, .int x1), (2, .int x2), (3, .int v8)] [] σ (0, 0))) ∧ (¬ 0 ≤ x2 → Qk (0 : Int32) σ))) ∧ (¬ (gi σ 66 x2.toNatClampNeg) ≤ (gi σ 66 (x2 + (1 : Int32)).toNatClampNeg) → (∀ v9 : Int32, v9 = x2 - 1 → PS M 4 [(0, .ref 0), (1, .int x1), (2, .int v9)] [] σ (0, 0))))))))) : PS M 4 [(0, .ref 0), (1, .int x1), (2, .int x2)] [] σ (0, 0) := by
  refine P_iload_n C dX11_triesNextOrder_4 2 rfl ?_
  refine P_if_lt C dX11_triesNextOrder_5 (tgt := 31) (by decide +kernel) (fun q1 => ?_) (fun q1 => ?_)
  · have h := h.1 q1
    refine P_iload_n C dX11_triesNextOrder_31 2 rfl ?_
    refine P_if_ge C dX11_triesNextOrder_32 (tgt := 37) (by decide +kernel) (fun q2 => ?_) (fun q2 => ?_)
    · have h := h.1 q2
      refine P_iload_n C dX11_triesNextOrder_37 1 rfl ?_
      refine P_iconst C dX11_triesNextOrder_38 (v := (1 : Int32)) rfl ?_
      refine P_isub C dX11_triesNextOrder_39 ?_
      refine P_nmi (fun v3 ev3 => ?_)
      have h := h v3 ev3
      refine P_istore_n C dX11_triesNextOrder_40 (by rw [hN]; decide) rfl ?_
      exact P_sub [1, 2, 3, 0] rfl h
    · have h := h.2 q2
      refine P_iconst C dX11_triesNextOrder_35 (v := (0 : Int32)) rfl ?_
      exact P_zret C (by decide +kernel) dX11_triesNextOrder_36 h
  · have h := h.2 q1
    refine P_aload_n C dX11_triesNextOrder_8 0 rfl ?_
    refine P_getS C (e := 66) fa_X11_triesNextOrder_60 kd_0 (d := 66) rfl (fxl fx_0) rfl dX11_triesNextOrder_9 ?_
    refine P_iload_n C dX11_triesNextOrder_12 2 rfl ?_
    obtain ⟨hv4, h⟩ := h
    refine P_iald C kd_66 (fxl fx_66) hv4 dX11_triesNextOrder_13 ?_
    refine P_aload_n C dX11_triesNextOrder_14 0 rfl ?_
    refine P_getS C (e := 66) fa_X11_triesNextOrder_60 kd_0 (d := 66) rfl (fxl fx_0) rfl dX11_triesNextOrder_15 ?_
    refine P_iload_n C dX11_triesNextOrder_18 2 rfl ?_
    refine P_iconst C dX11_triesNextOrder_19 (v := (1 : Int32)) rfl ?_
    refine P_iadd C dX11_triesNextOrder_20 ?_
    obtain ⟨hv5, h⟩ := h
    refine P_iald C kd_66 (fxl fx_66) hv5 dX11_triesNextOrder_21 ?_
    refine P_icmp_le C dX11_triesNextOrder_22 (tgt := 31) (by decide +kernel) (fun q6 => ?_) (fun q6 => ?_)
    · have h := h.1 q6
      refine P_iload_n C dX11_triesNextOrder_31 2 rfl ?_
      refine P_if_ge C dX11_triesNextOrder_32 (tgt := 37) (by decide +kernel) (fun q7 => ?_) (fun q7 => ?_)
      · have h := h.1 q7
        refine P_iload_n C dX11_triesNextOrder_37 1 rfl ?_
        refine P_iconst C dX11_triesNextOrder_38 (v := (1 : Int32)) rfl ?_
        refine P_isub C dX11_triesNextOrder_39 ?_
        refine P_nmi (fun v8 ev8 => ?_)
        have h := h v8 ev8
        refine P_istore_n C dX11_triesNextOrder_40 (by rw [hN]; decide) rfl ?_
        exact P_sub [1, 2, 3, 0] rfl h
      · have h := h.2 q7
        refine P_iconst C dX11_triesNextOrder_35 (v := (0 : Int32)) rfl ?_
        exact P_zret C (by decide +kernel) dX11_triesNextOrder_36 h
    · have h := h.2 q6
      obtain ⟨v9, ev9⟩ : ∃ v : Int32, v = x2 - 1 := ⟨_, rfl⟩
      have h := h v9 ev9
      refine P_iinc (v := v9) C dX11_triesNextOrder_25 2 rfl (by rw [ev9]; exact sub_one _) (by rw [hN]; decide) rfl ?_
      refine P_goto C dX11_triesNextOrder_28 (tgt := 4) (by decide +kernel) ?_
      exact P_sub [1, 2, 0] rfl h
set_option maxRecDepth 100000 in
set_option maxHeartbeats 4000000 in
theorem s_X11_triesNextOrder_41 {M : Mx} {Qk : Int32 → Sg → Prop} (C : Cx M cX11_triesNextOrder (some .boolean) RX11 wsX11_triesNextOrder (rmz 1) 0 0 (QI (mV M) Qk)) (hN : mN M = 6) {x1 : Int32} {x2 : Int32} {x3 : Int32} {σ : Sg} (h : ((x3 ≤ x2 → PS M 67 [(0, .ref 0), (1, .int x1), (2, .int x2), (3, .int x3)] [] σ (0, 0)) ∧ (¬ x3 ≤ x2 → (vp_in x3 5 ∧ (vp_in x2 5 ∧ (((gi σ 66 x2.toNatClampNeg) ≤ (gi σ 66 x3.toNatClampNeg) → PS M 67 [(0, .ref 0), (1, .int x1), (2, .int x2), (3, .int x3)] [] σ (0, 0)) ∧ (¬ (gi σ 66 x2.toNatClampNeg) ≤ (gi σ 66 x3.toNatClampNeg) → (∀ v5 : Int32, v5 = x3 - 1 → PS M 41 [(0, .ref 0), (1, .int x1), (2, .int x2), (3, .int v5)] [] σ (0, 0))))))))) : PS M 41 [(0, .ref 0), (1, .int x1), (2, .int x2), (3, .int x3)] [] σ (0, 0) := by
  refine P_iload_n C dX11_triesNextOrder_41 3 rfl ?_
  refine P_iload_n C dX11_triesNextOrder_42 2 rfl ?_
  refine P_icmp_le C dX11_triesNextOrder_43 (tgt := 67) (by decide +kernel) (fun q1 => ?_) (fun q1 => ?_)
  · have h := h.1 q1
    exact P_sub [0, 1, 2, 3] rfl h
  · have h := h.2 q1
    refine P_aload_n C dX11_triesNextOrder_46 0 rfl ?_
    refine P_getS C (e := 66) fa_X11_triesNextOrder_60 kd_0 (d := 66) rfl (fxl fx_0) rfl dX11_triesNextOrder_47 ?_
    refine P_iload_n C dX11_triesNextOrder_50 3 rfl ?_
    obtain ⟨hv2, h⟩ := h
    refine P_iald C kd_66 (fxl fx_66) hv2 dX11_triesNextOrder_51 ?_
    refine P_aload_n C dX11_triesNextOrder_52 0 rfl ?_
    refine P_getS C (e := 66) fa_X11_triesNextOrder_60 kd_0 (d := 66) rfl (fxl fx_0) rfl dX11_triesNextOrder_53 ?_
    refine P_iload_n C dX11_triesNextOrder_56 2 rfl ?_
    obtain ⟨hv3, h⟩ := h
    refine P_iald C kd_66 (fxl fx_66) hv3 dX11_triesNextOrder_57 ?_
    refine P_icmp_ge C dX11_triesNextOrder_58 (tgt := 67) (by decide +kernel) (fun q4 => ?_) (fun q4 => ?_)
    · have h := h.1 q4
      exact P_sub [0, 1, 2, 3] rfl h
    · have h := h.2 q4
      obtain ⟨v5, ev5⟩ : ∃ v : Int32, v = x3 - 1 := ⟨_, rfl⟩
      have h := h v5 ev5
      refine P_iinc (v := v5) C dX11_triesNextOrder_61 3 rfl (by rw [ev5]; exact sub_one _) (by rw [hN]; decide) rfl ?_
      refine P_goto C dX11_triesNextOrder_64 (tgt := 41) (by decide +kernel) ?_
      exact P_sub [1, 2, 3, 0] rfl h
set_option maxRecDepth 100000 in
set_option maxHeartbeats 4000000 in
theorem s_X11_triesNextOrder_67 {M : Mx} {Qk : Int32 → Sg → Prop} (C : Cx M cX11_triesNextOrder (some .boolean) RX11 wsX11_triesNextOrder (rmz 1) 0 0 (QI (mV M) Qk)) (hN : mN M = 6) {x1 : Int32} {x2 : Int32} {x3 : Int32} {σ : Sg} (h : K_X11_swapsTried (mL M) (mV M) x2 x3 σ (fun σ1 => (∀ v2 : Int32, v2 = x2 + (1 : Int32) → (∀ v3 : Int32, v3 = x1 - (1 : Int32) → PS M 83 [(0, .ref 0), (4, .int v2), (5, .int v3)] [] σ1 (0, 0))))) : PS M 67 [(0, .ref 0), (1, .int x1), (2, .int x2), (3, .int x3)] [] σ (0, 0) := by
  refine P_aload_n C dX11_triesNextOrder_67 0 rfl ?_
  refine P_iload_n C dX11_triesNextOrder_68 2 rfl ?_
  refine P_iload_n C dX11_triesNextOrder_69 3 rfl ?_
  refine P_cv (R_v (ci := 11) C kv_X11_triesNextOrder_X11_swapsTried (As := [.int x2, .int x3]) rfl kd_0 rfl (fxl fx_0) (Nat.le_of_ble_eq_true rfl) dX11_triesNextOrder_70 ⟨Nat.le_refl _, Nat.le_refl _⟩ h) (fun σ1 h => ?_)
  refine P_iload_n C dX11_triesNextOrder_73 2 rfl ?_
  refine P_iconst C dX11_triesNextOrder_74 (v := (1 : Int32)) rfl ?_
  refine P_iadd C dX11_triesNextOrder_75 ?_
  refine P_nmi (fun v2 ev2 => ?_)
  have h := h v2 ev2
  refine P_istore C dX11_triesNextOrder_76 (by rw [hN]; decide) rfl ?_
  refine P_iload_n C dX11_triesNextOrder_78 2 rfl ?_
  refine P_iconst C dX11_triesNextOrder_79 (v := (1 : Int32)) rfl ?_
  refine P_isub C dX11_triesNextOrder_80 ?_
  refine P_nmi (fun v3 ev3 => ?_)
  have h := h v3 ev3
  refine P_istore C dX11_triesNextOrder_81 (by rw [hN]; decide) rfl ?_
  exact P_sub [2, 1, 0] rfl h
set_option maxRecDepth 100000 in
set_option maxHeartbeats 4000000 in
theorem s_X11_triesNextOrder_83 {M : Mx} {Qk : Int32 → Sg → Prop} (C : Cx M cX11_triesNextOrder (some .boolean) RX11 wsX11_triesNextOrder (rmz 1) 0 0 (QI (mV M) Qk)) (hN : mN M = 6) {x4 : Int32} {x5 : Int32} {σ : Sg} (h : ((x5 ≤ x4 → Qk (1 : Int32) σ) ∧ (¬ x5 ≤ x4 → K_X11_swapsTried (mL M) (mV M) x4 x5 σ (fun σ2 => (∀ v3 : Int32, v3 = x4 + 1 → (∀ v4 : Int32, v4 = x5 - 1 → PS M 83 [(0, .ref 0), (4, .int v3), (5, .int v4)] [] σ2 (0, 0))))))) : PS M 83 [(0, .ref 0), (4, .int x4), (5, .int x5)] [] σ (0, 0) := by
  refine P_iload C dX11_triesNextOrder_83 1 rfl ?_
  refine P_iload C dX11_triesNextOrder_85 2 rfl ?_
  refine P_icmp_ge C dX11_triesNextOrder_87 (tgt := 107) (by decide +kernel) (fun q1 => ?_) (fun q1 => ?_)
  · have h := h.1 q1
    refine P_iconst C dX11_triesNextOrder_107 (v := (1 : Int32)) rfl ?_
    exact P_zret C (by decide +kernel) dX11_triesNextOrder_108 h
  · have h := h.2 q1
    refine P_aload_n C dX11_triesNextOrder_90 0 rfl ?_
    refine P_iload C dX11_triesNextOrder_91 1 rfl ?_
    refine P_iload C dX11_triesNextOrder_93 2 rfl ?_
    refine P_cv (R_v (ci := 11) C kv_X11_triesNextOrder_X11_swapsTried (As := [.int x4, .int x5]) rfl kd_0 rfl (fxl fx_0) (Nat.le_of_ble_eq_true rfl) dX11_triesNextOrder_95 ⟨Nat.le_refl _, Nat.le_refl _⟩ h) (fun σ2 h => ?_)
    obtain ⟨v3, ev3⟩ : ∃ v : Int32, v = x4 + 1 := ⟨_, rfl⟩
    have h := h v3 ev3
    refine P_iinc (v := v3) C dX11_triesNextOrder_98 1 rfl (by rw [ev3]; rfl) (by rw [hN]; decide) rfl ?_
    obtain ⟨v4, ev4⟩ : ∃ v : Int32, v = x5 - 1 := ⟨_, rfl⟩
    have h := h v4 ev4
    refine P_iinc (v := v4) C dX11_triesNextOrder_101 2 rfl (by rw [ev4]; exact sub_one _) (by rw [hN]; decide) rfl ?_
    refine P_goto C dX11_triesNextOrder_104 (tgt := 83) (by decide +kernel) ?_
    exact P_sub [2, 1, 0] rfl h
noncomputable def K_X11_lowest (l : Launch) (V : Vx) (a1 : Int32) (a2 : Int32) (a3 : Int32) (σ : Sg) (Qk : Int64 → Sg → Prop) : Prop := Ka l V yX11_lowest wsX11_lowest (rmz 0) 0 0 [.int a1, .int a2, .int a3] σ (QL V Qk)
theorem e_X11_lowest {l : Launch} {V : Vx} {a1 : Int32} {a2 : Int32} {a3 : Int32} {σ : Sg} {Qk : Int64 → Sg → Prop} (h : ∀ M : Mx, mL M = l → mV M = V → mN M = 7 → Cx M cX11_lowest (some .long) RX11 wsX11_lowest (rmz 0) 0 0 (QL (mV M) Qk) → PS M 0 [(0, .int a1), (1, .int a2), (2, .int a3)] [] σ (0, 0)) : K_X11_lowest l V a1 a2 a3 σ Qk :=
  Ka_of (by decide +kernel) rfl rfl (Nat.le_of_ble_eq_true rfl) (fun M h1 h2 h3 C => h M h1 h2 h3 (by rw [h2]; exact C))
set_option maxRecDepth 100000 in
set_option maxHeartbeats 4000000 in
theorem s_X11_lowest_0 {M : Mx} {Qk : Int64 → Sg → Prop} (C : Cx M cX11_lowest (some .long) RX11 wsX11_lowest (rmz 0) 0 0 (QL (mV M) Qk)) (hN : mN M = 7) {a1 : Int32} {a2 : Int32} {a3 : Int32} {σ : Sg} (h : PS M 8 [(0, .int a1), (1, .int a2), (2, .int a3), (3, .int a2), (4, .int a1), (5, .int (0 : Int32))] [] σ (0, 0)) : PS M 0 [(0, .int a1), (1, .int a2), (2, .int a3)] [] σ (0, 0) := by
  refine P_iload_n C dX11_lowest_0 1 rfl ?_
  refine P_istore_n C dX11_lowest_1 (by rw [hN]; decide) rfl ?_
  refine P_iload_n C dX11_lowest_2 1 rfl ?_
  refine P_istore C dX11_lowest_3 (by rw [hN]; decide) rfl ?_
  refine P_iconst C dX11_lowest_5 (v := (0 : Int32)) rfl ?_
  refine P_istore C dX11_lowest_6 (by rw [hN]; decide) rfl ?_
  exact P_sub [3, 4, 5, 2, 1, 0] rfl h
set_option maxRecDepth 100000 in
set_option maxHeartbeats 4000000 in
theorem s_X11_lowest_8 {M : Mx} {Qk : Int64 → Sg → Prop} (C : Cx M cX11_lowest (some .long) RX11 wsX11_lowest (rmz 0) 0 0 (QL (mV M) Qk)) (hN : mN M = 7) {x0 : Int32} {x1 : Int32} {x2 : Int32} {x3 : Int32} {x4 : Int32} {x5 : Int32} {σ : Sg} (h : (((100 : Int32) ≤ x5 → PS M 39 [(0, .int x0), (1, .int x1), (2, .int x2), (3, .int x3)] [] σ (0, 0)) ∧ (¬ (100 : Int32) ≤ x5 → ((x4 ≤ 0 → PS M 39 [(0, .int x0), (1, .int x1), (2, .int x2), (3, .int x3)] [] σ (0, 0)) ∧ (¬ x4 ≤ 0 → (¬ x4 = 0 ∧ (∀ v4 : Int32, v4 = x3 - x3 / x4 * x4 → (∀ v5 : Int32, v5 = x5 + 1 → PS M 8 [(0, .int x0), (1, .int x1), (2, .int x2), (3, .int x4), (4, .int v4), (5, .int v5)] [] σ (0, 0))))))))) : PS M 8 [(0, .int x0), (1, .int x1), (2, .int x2), (3, .int x3), (4, .int x4), (5, .int x5)] [] σ (0, 0) := by
  refine P_iload C dX11_lowest_8 5 rfl ?_
  refine P_bipush C dX11_lowest_10 (v := (100 : Int32)) rfl ?_
  refine P_icmp_ge C dX11_lowest_12 (tgt := 39) (by decide +kernel) (fun q1 => ?_) (fun q1 => ?_)
  · have h := h.1 q1
    exact P_sub [0, 1, 2, 3] rfl h
  · have h := h.2 q1
    refine P_iload C dX11_lowest_15 4 rfl ?_
    refine P_if_le C dX11_lowest_17 (tgt := 39) (by decide +kernel) (fun q2 => ?_) (fun q2 => ?_)
    · have h := h.1 q2
      exact P_sub [0, 1, 2, 3] rfl h
    · have h := h.2 q2
      refine P_iload_n C dX11_lowest_20 3 rfl ?_
      refine P_iload C dX11_lowest_21 4 rfl ?_
      obtain ⟨hz3, h⟩ := h
      refine P_irem C dX11_lowest_23 hz3 ?_
      refine P_nmi (fun v4 ev4 => ?_)
      have h := h v4 ev4
      refine P_istore C dX11_lowest_24 (by rw [hN]; decide) rfl ?_
      refine P_iload C dX11_lowest_26 5 rfl ?_
      refine P_istore_n C dX11_lowest_28 (by rw [hN]; decide) rfl ?_
      refine P_iload C dX11_lowest_29 1 rfl ?_
      refine P_istore C dX11_lowest_31 (by rw [hN]; decide) rfl ?_
      obtain ⟨v5, ev5⟩ : ∃ v : Int32, v = x5 + 1 := ⟨_, rfl⟩
      have h := h v5 ev5
      refine P_iinc (v := v5) C dX11_lowest_33 6 rfl (by rw [ev5]; rfl) (by rw [hN]; decide) rfl ?_
      refine P_goto C dX11_lowest_36 (tgt := 8) (by decide +kernel) ?_
      exact P_sub [4, 5, 6, 2, 1, 0] rfl h
set_option maxRecDepth 100000 in
set_option maxHeartbeats 4000000 in
theorem s_X11_lowest_39 {M : Mx} {Qk : Int64 → Sg → Prop} (C : Cx M cX11_lowest (some .long) RX11 wsX11_lowest (rmz 0) 0 0 (QL (mV M) Qk)) (hN : mN M = 7) {x0 : Int32} {x1 : Int32} {x2 : Int32} {x3 : Int32} {σ : Sg} (h : (((1 : Int32) ≤ x3 → ((¬ x2 = 0 → (¬ x3 = 0 ∧ Qk ((x1 / x3).toInt64) σ)) ∧ (x2 = 0 → (¬ x3 = 0 ∧ Qk ((x0 / x3).toInt64) σ)))) ∧ (¬ (1 : Int32) ≤ x3 → Qk (-9223372036854775808 : Int64) σ))) : PS M 39 [(0, .int x0), (1, .int x1), (2, .int x2), (3, .int x3)] [] σ (0, 0) := by
  refine P_iload_n C dX11_lowest_39 3 rfl ?_
  refine P_iconst C dX11_lowest_40 (v := (1 : Int32)) rfl ?_
  refine P_icmp_ge C dX11_lowest_41 (tgt := 48) (by decide +kernel) (fun q1 => ?_) (fun q1 => ?_)
  · have h := h.1 q1
    refine P_iload_n C dX11_lowest_48 2 rfl ?_
    refine P_if_ne C dX11_lowest_49 (tgt := 56) (by decide +kernel) (fun q2 => ?_) (fun q2 => ?_)
    · have h := h.1 q2
      refine P_iload_n C dX11_lowest_56 1 rfl ?_
      refine P_iload_n C dX11_lowest_57 3 rfl ?_
      obtain ⟨hz3, h⟩ := h
      refine P_idiv C dX11_lowest_58 hz3 ?_
      refine P_i2l C dX11_lowest_59 ?_
      exact P_lret C dX11_lowest_60 h
    · have h := h.2 q2
      refine P_iload_n C dX11_lowest_52 0 rfl ?_
      refine P_goto C dX11_lowest_53 (tgt := 57) (by decide +kernel) ?_
      refine P_iload_n C dX11_lowest_57 3 rfl ?_
      obtain ⟨hz4, h⟩ := h
      refine P_idiv C dX11_lowest_58 hz4 ?_
      refine P_i2l C dX11_lowest_59 ?_
      exact P_lret C dX11_lowest_60 h
  · have h := h.2 q1
    refine P_ldc2 C (v := (-9223372036854775808 : Int64)) (List.mem_of_getElem? (i := 1) rfl) dX11_lowest_44 ?_
    exact P_lret C dX11_lowest_47 h
noncomputable def K_X11_isTape (l : Launch) (V : Vx) (a1 : Int32) (σ : Sg) (Qk : Int32 → Sg → Prop) : Prop := Ka l V yX11_isTape wsX11_isTape (rmz 0) 0 0 [.int a1] σ (QI V Qk)
theorem e_X11_isTape {l : Launch} {V : Vx} {a1 : Int32} {σ : Sg} {Qk : Int32 → Sg → Prop} (h : ∀ M : Mx, mL M = l → mV M = V → mN M = 1 → Cx M cX11_isTape (some .boolean) RX11 wsX11_isTape (rmz 0) 0 0 (QI (mV M) Qk) → PS M 0 [(0, .int a1)] [] σ (0, 0)) : K_X11_isTape l V a1 σ Qk :=
  Ka_of (by decide +kernel) rfl rfl (Nat.le_of_ble_eq_true rfl) (fun M h1 h2 h3 C => h M h1 h2 h3 (by rw [h2]; exact C))
set_option maxRecDepth 100000 in
set_option maxHeartbeats 4000000 in
theorem s_X11_isTape_0 {M : Mx} {Qk : Int32 → Sg → Prop} (C : Cx M cX11_isTape (some .boolean) RX11 wsX11_isTape (rmz 0) 0 0 (QI (mV M) Qk)) (hN : mN M = 1) {a1 : Int32} {σ : Sg} (h : ((a1 < 0 → Qk (0 : Int32) σ) ∧ (¬ a1 < 0 → (((6 : Int32) ≤ a1 → Qk (0 : Int32) σ) ∧ (¬ (6 : Int32) ≤ a1 → Qk (1 : Int32) σ))))) : PS M 0 [(0, .int a1)] [] σ (0, 0) := by
  refine P_iload_n C dX11_isTape_0 0 rfl ?_
  refine P_if_lt C dX11_isTape_1 (tgt := 14) (by decide +kernel) (fun q1 => ?_) (fun q1 => ?_)
  · have h := h.1 q1
    refine P_iconst C dX11_isTape_14 (v := (0 : Int32)) rfl ?_
    exact P_zret C (by decide +kernel) dX11_isTape_15 h
  · have h := h.2 q1
    refine P_iload_n C dX11_isTape_4 0 rfl ?_
    refine P_bipush C dX11_isTape_5 (v := (6 : Int32)) rfl ?_
    refine P_icmp_ge C dX11_isTape_7 (tgt := 14) (by decide +kernel) (fun q2 => ?_) (fun q2 => ?_)
    · have h := h.1 q2
      refine P_iconst C dX11_isTape_14 (v := (0 : Int32)) rfl ?_
      exact P_zret C (by decide +kernel) dX11_isTape_15 h
    · have h := h.2 q2
      refine P_iconst C dX11_isTape_10 (v := (1 : Int32)) rfl ?_
      refine P_goto C dX11_isTape_11 (tgt := 15) (by decide +kernel) ?_
      exact P_zret C (by decide +kernel) dX11_isTape_15 h
theorem fa_X11_trace_56 : FA RX11 wsX11_trace 56 11 9 "NineMowers" := by
  show _ ∧ _ ∧ _ ∧ _
  exact ⟨by decide +kernel, fun _ h => List.mem_cons_of_mem _ (List.mem_append_left _ (List.mem_append_right _ h)), List.mem_of_getElem? (i := 1) rfl, Or.inl rfl⟩
theorem kv_X11_trace_X5_has : KV RX11 wsX11_trace (rmz 1) 314 RX5 yX5_has wsX5_has (rmz 0) 1 := ⟨_, _, _, _, gX11_trace_X5_has, rfl, by decide +kernel, by decide +kernel⟩
theorem fa_X11_trace_270 : FA RX11 wsX11_trace 270 5 0 "NineMowers$Numbers" := by
  show _ ∧ _ ∧ _ ∧ _
  exact ⟨by decide +kernel, fun _ h => List.mem_cons_of_mem _ (List.mem_append_right _ h), List.mem_of_getElem? (i := 2) rfl, Or.inl rfl⟩
noncomputable def K_X11_trace (l : Launch) (V : Vx) (a1 : Int32) (σ : Sg) (Qk : Int32 → Sg → Prop) : Prop := Ka l V yX11_trace wsX11_trace (rmz 1) 0 0 [.ref 0, .int a1] σ (QI V Qk)
theorem e_X11_trace {l : Launch} {V : Vx} {a1 : Int32} {σ : Sg} {Qk : Int32 → Sg → Prop} (h : ∀ M : Mx, mL M = l → mV M = V → mN M = 2 → Cx M cX11_trace (some .int) RX11 wsX11_trace (rmz 1) 0 0 (QI (mV M) Qk) → PS M 0 [(0, .ref 0), (1, .int a1)] [] σ (0, 0)) : K_X11_trace l V a1 σ Qk :=
  Ka_of (by decide +kernel) rfl rfl (Nat.le_of_ble_eq_true rfl) (fun M h1 h2 h3 C => h M h1 h2 h3 (by rw [h2]; exact C))
set_option maxRecDepth 100000 in
set_option maxHeartbeats 4000000 in
theorem s_X11_trace_0 {M : Mx} {Qk : Int32 → Sg → Prop} (C : Cx M cX11_trace (some .int) RX11 wsX11_trace (rmz 1) 0 0 (QI (mV M) Qk)) (hN : mN M = 2) {a1 : Int32} {σ : Sg} (h : K_X5_has (mL M) (mV M) 64 a1 σ (fun r2 σ1 => ((r2 = 0 → Qk (-1 : Int32) σ1) ∧ (¬ r2 = 0 → (vp_in a1 20 ∧ Qk (gi σ1 65 a1.toNatClampNeg) σ1))))) : PS M 0 [(0, .ref 0), (1, .int a1)] [] σ (0, 0) := by
  refine P_aload_n C dX11_trace_0 0 rfl ?_
  refine P_getS C (e := 64) fa_X11_trace_56 kd_0 (d := 64) rfl (fxl fx_0) rfl dX11_trace_1 ?_
  refine P_iload_n C dX11_trace_4 1 rfl ?_
  refine P_ci (R_v (ci := 5) C kv_X11_trace_X5_has (As := [.int a1]) rfl kd_64 rfl (fxl fx_64) (Nat.le_of_ble_eq_true rfl) dX11_trace_5 ⟨Nat.le_refl _, Nat.le_refl _⟩ h) (fun r2 σ1 h => ?_)
  refine P_if_eq C dX11_trace_8 (tgt := 23) (by decide +kernel) (fun q3 => ?_) (fun q3 => ?_)
  · have h := h.1 q3
    refine P_iconst C dX11_trace_23 (v := (-1 : Int32)) rfl ?_
    exact P_iret C dX11_trace_24 h
  · have h := h.2 q3
    refine P_aload_n C dX11_trace_11 0 rfl ?_
    refine P_getS C (e := 64) fa_X11_trace_56 kd_0 (d := 64) rfl (fxl fx_0) rfl dX11_trace_12 ?_
    refine P_getS C (e := 65) fa_X11_trace_270 kd_64 (d := 1) rfl (fxl fx_64) rfl dX11_trace_15 ?_
    refine P_iload_n C dX11_trace_18 1 rfl ?_
    obtain ⟨hv4, h⟩ := h
    refine P_iald C kd_65 (fxl fx_65) hv4 dX11_trace_19 ?_
    refine P_goto C dX11_trace_20 (tgt := 24) (by decide +kernel) ?_
    exact P_iret C dX11_trace_24 h
theorem fa_X11_count_12 : FA RX11 wsX11_count 12 11 0 "NineMowers" := by
  show _ ∧ _ ∧ _ ∧ _
  exact ⟨by decide +kernel, fun _ h => List.mem_cons_of_mem _ (List.mem_append_left _ (List.mem_append_left _ (List.mem_append_right _ h))), List.mem_of_getElem? (i := 1) rfl, Or.inl rfl⟩
theorem fa_X11_count_76 : FA RX11 wsX11_count 76 1 1 "NineMowers$Course" := by
  show _ ∧ _ ∧ _ ∧ _
  exact ⟨by decide +kernel, fun _ h => List.mem_cons_of_mem _ (List.mem_append_left _ (List.mem_append_right _ h)), List.mem_of_getElem? (i := 2) rfl, Or.inl rfl⟩
theorem fa_X11_count_34 : FA RX11 wsX11_count 34 11 5 "NineMowers" := by
  show _ ∧ _ ∧ _ ∧ _
  exact ⟨by decide +kernel, fun _ h => List.mem_cons_of_mem _ (List.mem_append_left _ (List.mem_append_left _ (List.mem_append_right _ h))), List.mem_of_getElem? (i := 3) rfl, Or.inl rfl⟩
theorem fa_X11_count_253 : FA RX11 wsX11_count 253 1 12 "NineMowers$Course" := by
  show _ ∧ _ ∧ _ ∧ _
  exact ⟨by decide +kernel, fun _ h => List.mem_cons_of_mem _ (List.mem_append_left _ (List.mem_append_right _ h)), List.mem_of_getElem? (i := 4) rfl, Or.inl rfl⟩
theorem fa_X11_count_256 : FA RX11 wsX11_count 256 5 1 "NineMowers$Numbers" := by
  show _ ∧ _ ∧ _ ∧ _
  exact ⟨by decide +kernel, fun _ h => List.mem_cons_of_mem _ (List.mem_append_right _ h), List.mem_of_getElem? (i := 5) rfl, Or.inl rfl⟩
theorem fa_X11_count_279 : FA RX11 wsX11_count 279 1 13 "NineMowers$Course" := by
  show _ ∧ _ ∧ _ ∧ _
  exact ⟨by decide +kernel, fun _ h => List.mem_cons_of_mem _ (List.mem_append_left _ (List.mem_append_right _ h)), List.mem_of_getElem? (i := 6) rfl, Or.inl rfl⟩
theorem fa_X11_count_282 : FA RX11 wsX11_count 282 1 14 "NineMowers$Course" := by
  show _ ∧ _ ∧ _ ∧ _
  exact ⟨by decide +kernel, fun _ h => List.mem_cons_of_mem _ (List.mem_append_left _ (List.mem_append_right _ h)), List.mem_of_getElem? (i := 7) rfl, Or.inl rfl⟩
theorem fa_X11_count_42 : FA RX11 wsX11_count 42 11 7 "NineMowers" := by
  show _ ∧ _ ∧ _ ∧ _
  exact ⟨by decide +kernel, fun _ h => List.mem_cons_of_mem _ (List.mem_append_left _ (List.mem_append_left _ (List.mem_append_right _ h))), List.mem_of_getElem? (i := 8) rfl, Or.inl rfl⟩
theorem fa_X11_count_56 : FA RX11 wsX11_count 56 11 9 "NineMowers" := by
  show _ ∧ _ ∧ _ ∧ _
  exact ⟨by decide +kernel, fun _ h => List.mem_cons_of_mem _ (List.mem_append_left _ (List.mem_append_left _ (List.mem_append_right _ h))), List.mem_of_getElem? (i := 9) rfl, Or.inl rfl⟩
noncomputable def K_X11_count (l : Launch) (V : Vx) (a1 : Int32) (σ : Sg) (Qk : Int32 → Sg → Prop) : Prop := Ka l V yX11_count wsX11_count (rmz 0) 0 0 [.ref 0, .int a1] σ (QI V Qk)
theorem e_X11_count {l : Launch} {V : Vx} {a1 : Int32} {σ : Sg} {Qk : Int32 → Sg → Prop} (h : ∀ M : Mx, mL M = l → mV M = V → mN M = 2 → Cx M cX11_count (some .int) RX11 wsX11_count (rmz 0) 0 0 (QI (mV M) Qk) → PS M 0 [(0, .ref 0), (1, .int a1)] [] σ (0, 0)) : K_X11_count l V a1 σ Qk :=
  Ka_of (by decide +kernel) rfl rfl (Nat.le_of_ble_eq_true rfl) (fun M h1 h2 h3 C => h M h1 h2 h3 (by rw [h2]; exact C))
set_option maxRecDepth 100000 in
set_option maxHeartbeats 4000000 in
theorem s_X11_count_0 {M : Mx} {Qk : Int32 → Sg → Prop} (C : Cx M cX11_count (some .int) RX11 wsX11_count (rmz 0) 0 0 (QI (mV M) Qk)) (hN : mN M = 2) {a1 : Int32} {σ : Sg} (h : ((a1.toInt < 0 ∨ 6 < a1.toInt → Qk (-2 : Int32) σ) ∧ (a1.toInt = 0 → Qk (gi σ 1 1) σ) ∧ (a1.toInt = 1 → Qk (gi σ 0 5) σ) ∧ (a1.toInt = 2 → Qk ((gi σ 9 1) / (3 : Int32)) σ) ∧ (a1.toInt = 3 → Qk (gi σ 11 1) σ) ∧ (a1.toInt = 4 → Qk (gi σ 13 1) σ) ∧ (a1.toInt = 5 → Qk (gi σ 0 7) σ) ∧ (a1.toInt = 6 → Qk (gi σ 64 1) σ))) : PS M 0 [(0, .ref 0), (1, .int a1)] [] σ (0, 0) := by
  refine P_iload_n C dX11_count_0 1 rfl ?_
  refine P_tsw C dX11_count_1 105 (by decide +kernel) (fun q1 => ?_) (by decide +kernel) (fun i off ho q1 => ?_)
  · have h := h.1 q1
    refine P_bipush C dX11_count_105 (v := (-2 : Int32)) rfl ?_
    exact P_iret C dX11_count_107 h
  · rcases i with _ | _ | _ | _ | _ | _ | _ | i
    · obtain rfl : (43 : Int) = off := Option.some.inj ho
      refine ⟨?_, by decide +kernel⟩
      show PS M 44 _ _ _ _
      have h := h.2.1 (by have q := q1; simp at q; omega)
      refine P_aload_n C dX11_count_44 0 rfl ?_
      refine P_getS C (e := 1) fa_X11_count_12 kd_0 (d := 1) rfl (fxl fx_0) rfl dX11_count_45 ?_
      refine P_getI C fa_X11_count_76 kd_1 rfl (fxl fx_1) dX11_count_48 ?_
      exact P_iret C dX11_count_51 h
    · obtain rfl : (51 : Int) = off := Option.some.inj ho
      refine ⟨?_, by decide +kernel⟩
      show PS M 52 _ _ _ _
      have h := h.2.2.1 (by have q := q1; simp at q; omega)
      refine P_aload_n C dX11_count_52 0 rfl ?_
      refine P_getI C fa_X11_count_34 kd_0 rfl (fxl fx_0) dX11_count_53 ?_
      exact P_iret C dX11_count_56 h
    · obtain rfl : (56 : Int) = off := Option.some.inj ho
      refine ⟨?_, by decide +kernel⟩
      show PS M 57 _ _ _ _
      have h := h.2.2.2.1 (by have q := q1; simp at q; omega)
      refine P_aload_n C dX11_count_57 0 rfl ?_
      refine P_getS C (e := 1) fa_X11_count_12 kd_0 (d := 1) rfl (fxl fx_0) rfl dX11_count_58 ?_
      refine P_getS C (e := 9) fa_X11_count_253 kd_1 (d := 8) rfl (fxl fx_1) rfl dX11_count_61 ?_
      refine P_getI C fa_X11_count_256 kd_9 rfl (fxl fx_9) dX11_count_64 ?_
      refine P_iconst C dX11_count_67 (v := (3 : Int32)) rfl ?_
      refine P_idiv C dX11_count_68 (by decide +kernel) ?_
      exact P_iret C dX11_count_69 h
    · obtain rfl : (69 : Int) = off := Option.some.inj ho
      refine ⟨?_, by decide +kernel⟩
      show PS M 70 _ _ _ _
      have h := h.2.2.2.2.1 (by have q := q1; simp at q; omega)
      refine P_aload_n C dX11_count_70 0 rfl ?_
      refine P_getS C (e := 1) fa_X11_count_12 kd_0 (d := 1) rfl (fxl fx_0) rfl dX11_count_71 ?_
      refine P_getS C (e := 11) fa_X11_count_279 kd_1 (d := 10) rfl (fxl fx_1) rfl dX11_count_74 ?_
      refine P_getI C fa_X11_count_256 kd_11 rfl (fxl fx_11) dX11_count_77 ?_
      exact P_iret C dX11_count_80 h
    · obtain rfl : (80 : Int) = off := Option.some.inj ho
      refine ⟨?_, by decide +kernel⟩
      show PS M 81 _ _ _ _
      have h := h.2.2.2.2.2.1 (by have q := q1; simp at q; omega)
      refine P_aload_n C dX11_count_81 0 rfl ?_
      refine P_getS C (e := 1) fa_X11_count_12 kd_0 (d := 1) rfl (fxl fx_0) rfl dX11_count_82 ?_
      refine P_getS C (e := 13) fa_X11_count_282 kd_1 (d := 12) rfl (fxl fx_1) rfl dX11_count_85 ?_
      refine P_getI C fa_X11_count_256 kd_13 rfl (fxl fx_13) dX11_count_88 ?_
      exact P_iret C dX11_count_91 h
    · obtain rfl : (91 : Int) = off := Option.some.inj ho
      refine ⟨?_, by decide +kernel⟩
      show PS M 92 _ _ _ _
      have h := h.2.2.2.2.2.2.1 (by have q := q1; simp at q; omega)
      refine P_aload_n C dX11_count_92 0 rfl ?_
      refine P_getI C fa_X11_count_42 kd_0 rfl (fxl fx_0) dX11_count_93 ?_
      exact P_iret C dX11_count_96 h
    · obtain rfl : (96 : Int) = off := Option.some.inj ho
      refine ⟨?_, by decide +kernel⟩
      show PS M 97 _ _ _ _
      have h := h.2.2.2.2.2.2.2 (by have q := q1; simp at q; omega)
      refine P_aload_n C dX11_count_97 0 rfl ?_
      refine P_getS C (e := 64) fa_X11_count_56 kd_0 (d := 64) rfl (fxl fx_0) rfl dX11_count_98 ?_
      refine P_getI C fa_X11_count_256 kd_64 rfl (fxl fx_64) dX11_count_101 ?_
      exact P_iret C dX11_count_104 h
    · exact absurd (Array.getElem?_eq_some_iff.mp ho).1 (Nat.not_lt.mpr (by show 7 ≤ _; omega))
theorem kf_X11_read_X11_isTape : KF RX11 wsX11_read (rmz 1) 285 yX11_isTape wsX11_isTape (rmz 0) 1 := ⟨_, _, _, _, gX11_read_X11_isTape, rfl, by decide +kernel, by decide +kernel⟩
theorem fa_X11_read_47 : FA RX11 wsX11_read 47 11 8 "NineMowers" := by
  show _ ∧ _ ∧ _ ∧ _
  exact ⟨by decide +kernel, fun _ h => List.mem_cons_of_mem _ (List.mem_append_left _ (List.mem_append_right _ h)), List.mem_of_getElem? (i := 1) rfl, Or.inl rfl⟩
theorem kv_X11_read_X9_has : KV RX11 wsX11_read (rmz 1) 294 RX9 yX9_has wsX9_has (rmz 0) 1 := ⟨_, _, _, _, gX11_read_X9_has, rfl, by decide +kernel, by decide +kernel⟩
theorem fa_X11_read_297 : FA RX11 wsX11_read 297 9 0 "NineMowers$Tape" := by
  show _ ∧ _ ∧ _ ∧ _
  exact ⟨by decide +kernel, fun _ h => List.mem_cons_of_mem _ (List.mem_append_right _ h), List.mem_of_getElem? (i := 2) rfl, Or.inl rfl⟩
noncomputable def K_X11_read (l : Launch) (V : Vx) (a1 : Int32) (a2 : Int32) (σ : Sg) (Qk : Int64 → Sg → Prop) : Prop := Ka l V yX11_read wsX11_read (rmz 1) 0 0 [.ref 0, .int a1, .int a2] σ (QL V Qk)
theorem e_X11_read {l : Launch} {V : Vx} {a1 : Int32} {a2 : Int32} {σ : Sg} {Qk : Int64 → Sg → Prop} (h : ∀ M : Mx, mL M = l → mV M = V → mN M = 3 → Cx M cX11_read (some .long) RX11 wsX11_read (rmz 1) 0 0 (QL (mV M) Qk) → PS M 0 [(0, .ref 0), (1, .int a1), (2, .int a2)] [] σ (0, 0)) : K_X11_read l V a1 a2 σ Qk :=
  Ka_of (by decide +kernel) rfl rfl (Nat.le_of_ble_eq_true rfl) (fun M h1 h2 h3 C => h M h1 h2 h3 (by rw [h2]; exact C))
set_option maxRecDepth 100000 in
set_option maxHeartbeats 4000000 in
theorem s_X11_read_0 {M : Mx} {Qk : Int64 → Sg → Prop} (C : Cx M cX11_read (some .long) RX11 wsX11_read (rmz 1) 0 0 (QL (mV M) Qk)) (hN : mN M = 3) {a1 : Int32} {a2 : Int32} {σ : Sg} (h : K_X11_isTape (mL M) (mV M) a1 σ (fun r2 σ1 => ((r2 = 0 → Qk (-9223372036854775808 : Int64) σ1) ∧ (¬ r2 = 0 → (vp_in a1 6 ∧ K_X9_has (mL M) (mV M) (52 + 2 * a1.toNatClampNeg) a2 σ1 (fun r6 σ5 => ((r6 = 0 → Qk (-9223372036854775808 : Int64) σ5) ∧ (¬ r6 = 0 → (vp_in a1 6 ∧ (vp_in a2 60 ∧ Qk (gl σ5 ((52 + 2 * a1.toNatClampNeg) + 1) a2.toNatClampNeg) σ5)))))))))) : PS M 0 [(0, .ref 0), (1, .int a1), (2, .int a2)] [] σ (0, 0) := by
  refine P_iload_n C dX11_read_0 1 rfl ?_
  refine P_ci (R_f C kf_X11_read_X11_isTape (As := [.int a1]) rfl (Nat.le_of_ble_eq_true rfl) dX11_read_1 ⟨Nat.le_refl _, Nat.le_refl _⟩ h) (fun r2 σ1 h => ?_)
  refine P_if_eq C dX11_read_4 (tgt := 34) (by decide +kernel) (fun q3 => ?_) (fun q3 => ?_)
  · have h := h.1 q3
    refine P_ldc2 C (v := (-9223372036854775808 : Int64)) (List.mem_of_getElem? (i := 3) rfl) dX11_read_34 ?_
    exact P_lret C dX11_read_37 h
  · have h := h.2 q3
    refine P_aload_n C dX11_read_7 0 rfl ?_
    refine P_getS C (e := 51) fa_X11_read_47 kd_0 (d := 51) rfl (fxl fx_0) rfl dX11_read_8 ?_
    refine P_iload_n C dX11_read_11 1 rfl ?_
    obtain ⟨hv4, h⟩ := h
    refine P_aldTe C (e := (52 + 2 * a1.toNatClampNeg)) kd_51 (fxl fx_51) hv4 rfl dX11_read_12 ?_
    refine P_iload_n C dX11_read_13 2 rfl ?_
    refine P_ci (R_v (ci := 9) C kv_X11_read_X9_has (As := [.int a2]) rfl (kdT_0 (isT_of hv4)) rfl (fxl (fxT_0 (isT_of hv4))) (Nat.le_of_ble_eq_true rfl) dX11_read_14 ⟨Nat.le_refl _, Nat.le_refl _⟩ h) (fun r6 σ5 h => ?_)
    refine P_if_eq C dX11_read_17 (tgt := 34) (by decide +kernel) (fun q7 => ?_) (fun q7 => ?_)
    · have h := h.1 q7
      refine P_ldc2 C (v := (-9223372036854775808 : Int64)) (List.mem_of_getElem? (i := 3) rfl) dX11_read_34 ?_
      exact P_lret C dX11_read_37 h
    · have h := h.2 q7
      refine P_aload_n C dX11_read_20 0 rfl ?_
      refine P_getS C (e := 51) fa_X11_read_47 kd_0 (d := 51) rfl (fxl fx_0) rfl dX11_read_21 ?_
      refine P_iload_n C dX11_read_24 1 rfl ?_
      obtain ⟨hv8, h⟩ := h
      refine P_aldTe C (e := (52 + 2 * a1.toNatClampNeg)) kd_51 (fxl fx_51) hv8 rfl dX11_read_25 ?_
      refine P_getS C (e := ((52 + 2 * a1.toNatClampNeg) + 1)) fa_X11_read_297 (kdT_0 (isT_of hv8)) (d := 1) rfl (fxl (fxT_0 (isT_of hv8))) rfl dX11_read_26 ?_
      refine P_iload_n C dX11_read_29 2 rfl ?_
      obtain ⟨hv9, h⟩ := h
      refine P_lald C (kdT_1 (isT_of hv8)) (fxl (fxT_1 (isT_of hv8))) hv9 dX11_read_30 ?_
      refine P_goto C dX11_read_31 (tgt := 37) (by decide +kernel) ?_
      exact P_lret C dX11_read_37 h
theorem fa_X11_hits_21 : FA RX11 wsX11_hits 21 11 2 "NineMowers" := by
  show _ ∧ _ ∧ _ ∧ _
  exact ⟨by decide +kernel, fun _ h => List.mem_cons_of_mem _ (List.mem_append_left _ (List.mem_append_right _ h)), List.mem_of_getElem? (i := 1) rfl, Or.inl rfl⟩
theorem fa_X11_hits_76 : FA RX11 wsX11_hits 76 1 1 "NineMowers$Course" := by
  show _ ∧ _ ∧ _ ∧ _
  exact ⟨by decide +kernel, fun _ h => List.mem_cons_of_mem _ (List.mem_append_right _ h), List.mem_of_getElem? (i := 2) rfl, Or.inl rfl⟩
theorem fa_X11_hits_124 : FA RX11 wsX11_hits 124 1 4 "NineMowers$Course" := by
  show _ ∧ _ ∧ _ ∧ _
  exact ⟨by decide +kernel, fun _ h => List.mem_cons_of_mem _ (List.mem_append_right _ h), List.mem_of_getElem? (i := 3) rfl, Or.inl rfl⟩
theorem fa_X11_hits_67 : FA RX11 wsX11_hits 67 11 12 "NineMowers" := by
  show _ ∧ _ ∧ _ ∧ _
  exact ⟨by decide +kernel, fun _ h => List.mem_cons_of_mem _ (List.mem_append_left _ (List.mem_append_right _ h)), List.mem_of_getElem? (i := 4) rfl, Or.inl rfl⟩
noncomputable def K_X11_hits (l : Launch) (V : Vx) (a1 : Int32) (σ : Sg) (Qk : Int32 → Sg → Prop) : Prop := Ka l V yX11_hits wsX11_hits (rmz 0) 0 0 [.ref 0, .int a1] σ (QI V Qk)
theorem e_X11_hits {l : Launch} {V : Vx} {a1 : Int32} {σ : Sg} {Qk : Int32 → Sg → Prop} (h : ∀ M : Mx, mL M = l → mV M = V → mN M = 4 → Cx M cX11_hits (some .int) RX11 wsX11_hits (rmz 0) 0 0 (QI (mV M) Qk) → PS M 0 [(0, .ref 0), (1, .int a1)] [] σ (0, 0)) : K_X11_hits l V a1 σ Qk :=
  Ka_of (by decide +kernel) rfl rfl (Nat.le_of_ble_eq_true rfl) (fun M h1 h2 h3 C => h M h1 h2 h3 (by rw [h2]; exact C))
set_option maxRecDepth 100000 in
set_option maxHeartbeats 4000000 in
theorem s_X11_hits_0 {M : Mx} {Qk : Int32 → Sg → Prop} (C : Cx M cX11_hits (some .int) RX11 wsX11_hits (rmz 0) 0 0 (QI (mV M) Qk)) (hN : mN M = 4) {a1 : Int32} {σ : Sg} (h : PS M 4 [(0, .ref 0), (1, .int a1), (2, .int (0 : Int32)), (3, .int (0 : Int32))] [] σ (0, 0)) : PS M 0 [(0, .ref 0), (1, .int a1)] [] σ (0, 0) := by
  refine P_iconst C dX11_hits_0 (v := (0 : Int32)) rfl ?_
  refine P_istore_n C dX11_hits_1 (by rw [hN]; decide) rfl ?_
  refine P_iconst C dX11_hits_2 (v := (0 : Int32)) rfl ?_
  refine P_istore_n C dX11_hits_3 (by rw [hN]; decide) rfl ?_
  exact P_sub [2, 3, 1, 0] rfl h
set_option maxRecDepth 100000 in
set_option maxHeartbeats 4000000 in
theorem s_X11_hits_4 {M : Mx} {Qk : Int32 → Sg → Prop} (C : Cx M cX11_hits (some .int) RX11 wsX11_hits (rmz 0) 0 0 (QI (mV M) Qk)) (hN : mN M = 4) {x1 : Int32} {x2 : Int32} {x3 : Int32} {σ : Sg} (h : (((gi σ 33 1) ≤ x3 → Qk x2 σ) ∧ (¬ (gi σ 33 1) ≤ x3 → ((x3 = x1 → (∀ v3 : Int32, v3 = x3 + 1 → PS M 4 [(0, .ref 0), (1, .int x1), (2, .int x2), (3, .int v3)] [] σ (0, 0))) ∧ (¬ x3 = x1 → (vp_in x3 6 ∧ (vp_in x3 6 ∧ (((gi σ 68 x3.toNatClampNeg) ≤ (gi σ 36 x3.toNatClampNeg) → (∀ v7 : Int32, v7 = x3 + 1 → PS M 4 [(0, .ref 0), (1, .int x1), (2, .int x2), (3, .int v7)] [] σ (0, 0))) ∧ (¬ (gi σ 68 x3.toNatClampNeg) ≤ (gi σ 36 x3.toNatClampNeg) → (∀ v8 : Int32, v8 = x2 ||| ((1 : Int32) <<< (x3 &&& 31)) → (∀ v9 : Int32, v9 = x3 + 1 → PS M 4 [(0, .ref 0), (1, .int x1), (2, .int v8), (3, .int v9)] [] σ (0, 0)))))))))))) : PS M 4 [(0, .ref 0), (1, .int x1), (2, .int x2), (3, .int x3)] [] σ (0, 0) := by
  refine P_iload_n C dX11_hits_4 3 rfl ?_
  refine P_aload_n C dX11_hits_5 0 rfl ?_
  refine P_getS C (e := 33) fa_X11_hits_21 kd_0 (d := 33) rfl (fxl fx_0) rfl dX11_hits_6 ?_
  refine P_getI C fa_X11_hits_76 kd_33 rfl (fxl fx_33) dX11_hits_9 ?_
  refine P_icmp_ge C dX11_hits_12 (tgt := 50) (by decide +kernel) (fun q1 => ?_) (fun q1 => ?_)
  · have h := h.1 q1
    refine P_iload_n C dX11_hits_50 2 rfl ?_
    exact P_iret C dX11_hits_51 h
  · have h := h.2 q1
    refine P_iload_n C dX11_hits_15 3 rfl ?_
    refine P_iload_n C dX11_hits_16 1 rfl ?_
    refine P_icmp_eq C dX11_hits_17 (tgt := 44) (by decide +kernel) (fun q2 => ?_) (fun q2 => ?_)
    · have h := h.1 q2
      obtain ⟨v3, ev3⟩ : ∃ v : Int32, v = x3 + 1 := ⟨_, rfl⟩
      have h := h v3 ev3
      refine P_iinc (v := v3) C dX11_hits_44 3 rfl (by rw [ev3]; rfl) (by rw [hN]; decide) rfl ?_
      refine P_goto C dX11_hits_47 (tgt := 4) (by decide +kernel) ?_
      exact P_sub [1, 2, 3, 0] rfl h
    · have h := h.2 q2
      refine P_aload_n C dX11_hits_20 0 rfl ?_
      refine P_getS C (e := 33) fa_X11_hits_21 kd_0 (d := 33) rfl (fxl fx_0) rfl dX11_hits_21 ?_
      refine P_getS C (e := 36) fa_X11_hits_124 kd_33 (d := 3) rfl (fxl fx_33) rfl dX11_hits_24 ?_
      refine P_iload_n C dX11_hits_27 3 rfl ?_
      obtain ⟨hv4, h⟩ := h
      refine P_iald C kd_36 (fxl fx_36) hv4 dX11_hits_28 ?_
      refine P_aload_n C dX11_hits_29 0 rfl ?_
      refine P_getS C (e := 68) fa_X11_hits_67 kd_0 (d := 68) rfl (fxl fx_0) rfl dX11_hits_30 ?_
      refine P_iload_n C dX11_hits_33 3 rfl ?_
      obtain ⟨hv5, h⟩ := h
      refine P_iald C kd_68 (fxl fx_68) hv5 dX11_hits_34 ?_
      refine P_icmp_ge C dX11_hits_35 (tgt := 44) (by decide +kernel) (fun q6 => ?_) (fun q6 => ?_)
      · have h := h.1 q6
        obtain ⟨v7, ev7⟩ : ∃ v : Int32, v = x3 + 1 := ⟨_, rfl⟩
        have h := h v7 ev7
        refine P_iinc (v := v7) C dX11_hits_44 3 rfl (by rw [ev7]; rfl) (by rw [hN]; decide) rfl ?_
        refine P_goto C dX11_hits_47 (tgt := 4) (by decide +kernel) ?_
        exact P_sub [1, 2, 3, 0] rfl h
      · have h := h.2 q6
        refine P_iload_n C dX11_hits_38 2 rfl ?_
        refine P_iconst C dX11_hits_39 (v := (1 : Int32)) rfl ?_
        refine P_iload_n C dX11_hits_40 3 rfl ?_
        refine P_ishl C dX11_hits_41 ?_
        refine P_ior C dX11_hits_42 ?_
        refine P_nmi (fun v8 ev8 => ?_)
        have h := h v8 ev8
        refine P_istore_n C dX11_hits_43 (by rw [hN]; decide) rfl ?_
        obtain ⟨v9, ev9⟩ : ∃ v : Int32, v = x3 + 1 := ⟨_, rfl⟩
        have h := h v9 ev9
        refine P_iinc (v := v9) C dX11_hits_44 3 rfl (by rw [ev9]; rfl) (by rw [hN]; decide) rfl ?_
        refine P_goto C dX11_hits_47 (tgt := 4) (by decide +kernel) ?_
        exact P_sub [2, 3, 1, 0] rfl h
theorem fa_X11_told_12 : FA RX11 wsX11_told 12 11 0 "NineMowers" := by
  show _ ∧ _ ∧ _ ∧ _
  exact ⟨by decide +kernel, fun _ h => List.mem_cons_of_mem _ (List.mem_append_left _ (List.mem_append_left _ (List.mem_append_right _ h))), List.mem_of_getElem? (i := 1) rfl, Or.inl rfl⟩
theorem fa_X11_told_76 : FA RX11 wsX11_told 76 1 1 "NineMowers$Course" := by
  show _ ∧ _ ∧ _ ∧ _
  exact ⟨by decide +kernel, fun _ h => List.mem_cons_of_mem _ (List.mem_append_left _ (List.mem_append_right _ h)), List.mem_of_getElem? (i := 7) rfl, Or.inl rfl⟩
theorem fa_X11_told_177 : FA RX11 wsX11_told 177 1 2 "NineMowers$Course" := by
  show _ ∧ _ ∧ _ ∧ _
  exact ⟨by decide +kernel, fun _ h => List.mem_cons_of_mem _ (List.mem_append_left _ (List.mem_append_right _ h)), List.mem_of_getElem? (i := 8) rfl, Or.inl rfl⟩
theorem fa_X11_told_165 : FA RX11 wsX11_told 165 1 9 "NineMowers$Course" := by
  show _ ∧ _ ∧ _ ∧ _
  exact ⟨by decide +kernel, fun _ h => List.mem_cons_of_mem _ (List.mem_append_left _ (List.mem_append_right _ h)), List.mem_of_getElem? (i := 2) rfl, Or.inl rfl⟩
theorem fa_X11_told_71 : FA RX11 wsX11_told 71 1 10 "NineMowers$Course" := by
  show _ ∧ _ ∧ _ ∧ _
  exact ⟨by decide +kernel, fun _ h => List.mem_cons_of_mem _ (List.mem_append_left _ (List.mem_append_right _ h)), List.mem_of_getElem? (i := 3) rfl, Or.inl rfl⟩
theorem fa_X11_told_168 : FA RX11 wsX11_told 168 2 0 "NineMowers$Field" := by
  show _ ∧ _ ∧ _ ∧ _
  exact ⟨by decide +kernel, fun _ h => List.mem_cons_of_mem _ (List.mem_append_right _ h), List.mem_of_getElem? (i := 4) rfl, Or.inl rfl⟩
theorem fa_X11_told_171 : FA RX11 wsX11_told 171 2 1 "NineMowers$Field" := by
  show _ ∧ _ ∧ _ ∧ _
  exact ⟨by decide +kernel, fun _ h => List.mem_cons_of_mem _ (List.mem_append_right _ h), List.mem_of_getElem? (i := 5) rfl, Or.inl rfl⟩
theorem fa_X11_told_174 : FA RX11 wsX11_told 174 2 2 "NineMowers$Field" := by
  show _ ∧ _ ∧ _ ∧ _
  exact ⟨by decide +kernel, fun _ h => List.mem_cons_of_mem _ (List.mem_append_right _ h), List.mem_of_getElem? (i := 6) rfl, Or.inl rfl⟩
noncomputable def K_X11_told (l : Launch) (V : Vx) (a1 : Int32) (σ : Sg) (Qk : Int32 → Sg → Prop) : Prop := Ka l V yX11_told wsX11_told (rmz 0) 0 0 [.ref 0, .int a1] σ (QI V Qk)
theorem e_X11_told {l : Launch} {V : Vx} {a1 : Int32} {σ : Sg} {Qk : Int32 → Sg → Prop} (h : ∀ M : Mx, mL M = l → mV M = V → mN M = 2 → Cx M cX11_told (some .int) RX11 wsX11_told (rmz 0) 0 0 (QI (mV M) Qk) → PS M 0 [(0, .ref 0), (1, .int a1)] [] σ (0, 0)) : K_X11_told l V a1 σ Qk :=
  Ka_of (by decide +kernel) rfl rfl (Nat.le_of_ble_eq_true rfl) (fun M h1 h2 h3 C => h M h1 h2 h3 (by rw [h2]; exact C))
set_option maxRecDepth 100000 in
set_option maxHeartbeats 4000000 in
theorem s_X11_told_0 {M : Mx} {Qk : Int32 → Sg → Prop} (C : Cx M cX11_told (some .int) RX11 wsX11_told (rmz 0) 0 0 (QI (mV M) Qk)) (hN : mN M = 2) {a1 : Int32} {σ : Sg} (h : ((a1.toInt < 0 ∨ 3 < a1.toInt → ((a1 < (10 : Int32) → Qk (-1 : Int32) σ) ∧ (¬ a1 < (10 : Int32) → (((gi σ 1 1) ≤ (a1 - (10 : Int32)) → Qk (-1 : Int32) σ) ∧ (¬ (gi σ 1 1) ≤ (a1 - (10 : Int32)) → (vp_in (a1 - (10 : Int32)) 6 ∧ Qk (gi σ 3 (a1 - (10 : Int32)).toNatClampNeg) σ)))))) ∧ (a1.toInt = 0 → Qk (gi σ 1 9) σ) ∧ (a1.toInt = 1 → (∃ f5 : Nat, gr σ 1 10 = some f5 ∧ kd f5 = (12, 0) ∧ f5 ∈ ids (mV M) ∧ Qk (gi σ f5 0) σ)) ∧ (a1.toInt = 2 → (∃ f6 : Nat, gr σ 1 10 = some f6 ∧ kd f6 = (12, 0) ∧ f6 ∈ ids (mV M) ∧ Qk (gi σ f6 1) σ)) ∧ (a1.toInt = 3 → (∃ f7 : Nat, gr σ 1 10 = some f7 ∧ kd f7 = (12, 0) ∧ f7 ∈ ids (mV M) ∧ Qk (gi σ f7 2) σ)))) : PS M 0 [(0, .ref 0), (1, .int a1)] [] σ (0, 0) := by
  refine P_iload_n C dX11_told_0 1 rfl ?_
  refine P_tsw C dX11_told_1 73 (by decide +kernel) (fun q4 => ?_) (by decide +kernel) (fun i off ho q4 => ?_)
  · have h := h.1 q4
    refine P_iload_n C dX11_told_73 1 rfl ?_
    refine P_bipush C dX11_told_74 (v := (10 : Int32)) rfl ?_
    refine P_icmp_lt C dX11_told_76 (tgt := 108) (by decide +kernel) (fun q1 => ?_) (fun q1 => ?_)
    · have h := h.1 q1
      refine P_iconst C dX11_told_108 (v := (-1 : Int32)) rfl ?_
      exact P_iret C dX11_told_109 h
    · have h := h.2 q1
      refine P_iload_n C dX11_told_79 1 rfl ?_
      refine P_bipush C dX11_told_80 (v := (10 : Int32)) rfl ?_
      refine P_isub C dX11_told_82 ?_
      refine P_aload_n C dX11_told_83 0 rfl ?_
      refine P_getS C (e := 1) fa_X11_told_12 kd_0 (d := 1) rfl (fxl fx_0) rfl dX11_told_84 ?_
      refine P_getI C fa_X11_told_76 kd_1 rfl (fxl fx_1) dX11_told_87 ?_
      refine P_icmp_ge C dX11_told_90 (tgt := 108) (by decide +kernel) (fun q2 => ?_) (fun q2 => ?_)
      · have h := h.1 q2
        refine P_iconst C dX11_told_108 (v := (-1 : Int32)) rfl ?_
        exact P_iret C dX11_told_109 h
      · have h := h.2 q2
        refine P_aload_n C dX11_told_93 0 rfl ?_
        refine P_getS C (e := 1) fa_X11_told_12 kd_0 (d := 1) rfl (fxl fx_0) rfl dX11_told_94 ?_
        refine P_getS C (e := 3) fa_X11_told_177 kd_1 (d := 2) rfl (fxl fx_1) rfl dX11_told_97 ?_
        refine P_iload_n C dX11_told_100 1 rfl ?_
        refine P_bipush C dX11_told_101 (v := (10 : Int32)) rfl ?_
        refine P_isub C dX11_told_103 ?_
        obtain ⟨hv3, h⟩ := h
        refine P_iald C kd_3 (fxl fx_3) hv3 dX11_told_104 ?_
        refine P_goto C dX11_told_105 (tgt := 109) (by decide +kernel) ?_
        exact P_iret C dX11_told_109 h
  · rcases i with _ | _ | _ | _ | i
    · obtain rfl : (31 : Int) = off := Option.some.inj ho
      refine ⟨?_, by decide +kernel⟩
      show PS M 32 _ _ _ _
      have h := h.2.1 (by have q := q4; simp at q; omega)
      refine P_aload_n C dX11_told_32 0 rfl ?_
      refine P_getS C (e := 1) fa_X11_told_12 kd_0 (d := 1) rfl (fxl fx_0) rfl dX11_told_33 ?_
      refine P_getI C fa_X11_told_165 kd_1 rfl (fxl fx_1) dX11_told_36 ?_
      exact P_iret C dX11_told_39 h
    · obtain rfl : (39 : Int) = off := Option.some.inj ho
      refine ⟨?_, by decide +kernel⟩
      show PS M 40 _ _ _ _
      have h := h.2.2.1 (by have q := q4; simp at q; omega)
      refine P_aload_n C dX11_told_40 0 rfl ?_
      refine P_getS C (e := 1) fa_X11_told_12 kd_0 (d := 1) rfl (fxl fx_0) rfl dX11_told_41 ?_
      obtain ⟨f5, hrf5, hf5, lf5, h⟩ := h
      refine P_getD C fa_X11_told_71 kd_1 rfl (fxl fx_1) hrf5 dX11_told_44 ?_
      refine P_getI C fa_X11_told_168 hf5 rfl lf5 dX11_told_47 ?_
      exact P_iret C dX11_told_50 h
    · obtain rfl : (50 : Int) = off := Option.some.inj ho
      refine ⟨?_, by decide +kernel⟩
      show PS M 51 _ _ _ _
      have h := h.2.2.2.1 (by have q := q4; simp at q; omega)
      refine P_aload_n C dX11_told_51 0 rfl ?_
      refine P_getS C (e := 1) fa_X11_told_12 kd_0 (d := 1) rfl (fxl fx_0) rfl dX11_told_52 ?_
      obtain ⟨f6, hrf6, hf6, lf6, h⟩ := h
      refine P_getD C fa_X11_told_71 kd_1 rfl (fxl fx_1) hrf6 dX11_told_55 ?_
      refine P_getI C fa_X11_told_171 hf6 rfl lf6 dX11_told_58 ?_
      exact P_iret C dX11_told_61 h
    · obtain rfl : (61 : Int) = off := Option.some.inj ho
      refine ⟨?_, by decide +kernel⟩
      show PS M 62 _ _ _ _
      have h := h.2.2.2.2 (by have q := q4; simp at q; omega)
      refine P_aload_n C dX11_told_62 0 rfl ?_
      refine P_getS C (e := 1) fa_X11_told_12 kd_0 (d := 1) rfl (fxl fx_0) rfl dX11_told_63 ?_
      obtain ⟨f7, hrf7, hf7, lf7, h⟩ := h
      refine P_getD C fa_X11_told_71 kd_1 rfl (fxl fx_1) hrf7 dX11_told_66 ?_
      refine P_getI C fa_X11_told_174 hf7 rfl lf7 dX11_told_69 ?_
      exact P_iret C dX11_told_72 h
    · exact absurd (Array.getElem?_eq_some_iff.mp ho).1 (Nat.not_lt.mpr (by show 4 ≤ _; omega))
theorem kv_X11_place_X11_isMower : KV RX11 wsX11_place (rmz 2) 110 RX11 yX11_isMower wsX11_isMower (rmz 0) 1 := ⟨_, _, _, _, gX11_place_X11_isMower, rfl, by decide +kernel, by decide +kernel⟩
theorem fa_X11_place_12 : FA RX11 wsX11_place 12 11 0 "NineMowers" := by
  show _ ∧ _ ∧ _ ∧ _
  exact ⟨by decide +kernel, fun _ h => List.mem_cons_of_mem _ (List.mem_append_left _ (List.mem_append_right _ h)), List.mem_of_getElem? (i := 1) rfl, Or.inl rfl⟩
theorem fa_X11_place_76 : FA RX11 wsX11_place 76 1 1 "NineMowers$Course" := by
  show _ ∧ _ ∧ _ ∧ _
  exact ⟨by decide +kernel, fun _ h => List.mem_cons_of_mem _ (List.mem_append_right _ h), List.mem_of_getElem? (i := 2) rfl, Or.inl rfl⟩
theorem kv_X11_place_X1_moves : KV RX11 wsX11_place (rmz 2) 153 RX1 yX1_moves wsX1_moves (rmz 1) 2 := ⟨_, _, _, _, gX11_place_X1_moves, rfl, by decide +kernel, by decide +kernel⟩
noncomputable def K_X11_place (l : Launch) (V : Vx) (a1 : Int32) (a2 : Int32) (σ : Sg) (Qk : Int32 → Sg → Prop) : Prop := Ka l V yX11_place wsX11_place (rmz 2) 0 0 [.ref 0, .int a1, .int a2] σ (QI V Qk)
theorem e_X11_place {l : Launch} {V : Vx} {a1 : Int32} {a2 : Int32} {σ : Sg} {Qk : Int32 → Sg → Prop} (h : ∀ M : Mx, mL M = l → mV M = V → mN M = 3 → Cx M cX11_place (some .int) RX11 wsX11_place (rmz 2) 0 0 (QI (mV M) Qk) → PS M 0 [(0, .ref 0), (1, .int a1), (2, .int a2)] [] σ (0, 0)) : K_X11_place l V a1 a2 σ Qk :=
  Ka_of (by decide +kernel) rfl rfl (Nat.le_of_ble_eq_true rfl) (fun M h1 h2 h3 C => h M h1 h2 h3 (by rw [h2]; exact C))
set_option maxRecDepth 100000 in
set_option maxHeartbeats 4000000 in
theorem s_X11_place_0 {M : Mx} {Qk : Int32 → Sg → Prop} (C : Cx M cX11_place (some .int) RX11 wsX11_place (rmz 2) 0 0 (QI (mV M) Qk)) (hN : mN M = 3) {a1 : Int32} {a2 : Int32} {σ : Sg} (h : K_X11_isMower (mL M) (mV M) a1 σ (fun r2 σ1 => ((r2 = 0 → Qk (-1 : Int32) σ1) ∧ (¬ r2 = 0 → ((a2 < 0 → Qk (-1 : Int32) σ1) ∧ (¬ a2 < 0 → ((a2 < (gi σ1 1 1) → K_X1_moves (mL M) (mV M) 1 a1 a2 σ1 (fun r7 σ6 => Qk r7 σ6)) ∧ (¬ a2 < (gi σ1 1 1) → Qk (-1 : Int32) σ1)))))))) : PS M 0 [(0, .ref 0), (1, .int a1), (2, .int a2)] [] σ (0, 0) := by
  refine P_aload_n C dX11_place_0 0 rfl ?_
  refine P_iload_n C dX11_place_1 1 rfl ?_
  refine P_ci (R_v (ci := 11) C kv_X11_place_X11_isMower (As := [.int a1]) rfl kd_0 rfl (fxl fx_0) (Nat.le_of_ble_eq_true rfl) dX11_place_2 ⟨Nat.le_refl _, Nat.le_refl _⟩ h) (fun r2 σ1 h => ?_)
  refine P_if_eq C dX11_place_5 (tgt := 23) (by decide +kernel) (fun q3 => ?_) (fun q3 => ?_)
  · have h := h.1 q3
    refine P_iconst C dX11_place_23 (v := (-1 : Int32)) rfl ?_
    exact P_iret C dX11_place_24 h
  · have h := h.2 q3
    refine P_iload_n C dX11_place_8 2 rfl ?_
    refine P_if_lt C dX11_place_9 (tgt := 23) (by decide +kernel) (fun q4 => ?_) (fun q4 => ?_)
    · have h := h.1 q4
      refine P_iconst C dX11_place_23 (v := (-1 : Int32)) rfl ?_
      exact P_iret C dX11_place_24 h
    · have h := h.2 q4
      refine P_iload_n C dX11_place_12 2 rfl ?_
      refine P_aload_n C dX11_place_13 0 rfl ?_
      refine P_getS C (e := 1) fa_X11_place_12 kd_0 (d := 1) rfl (fxl fx_0) rfl dX11_place_14 ?_
      refine P_getI C fa_X11_place_76 kd_1 rfl (fxl fx_1) dX11_place_17 ?_
      refine P_icmp_lt C dX11_place_20 (tgt := 25) (by decide +kernel) (fun q5 => ?_) (fun q5 => ?_)
      · have h := h.1 q5
        refine P_aload_n C dX11_place_25 0 rfl ?_
        refine P_getS C (e := 1) fa_X11_place_12 kd_0 (d := 1) rfl (fxl fx_0) rfl dX11_place_26 ?_
        refine P_iload_n C dX11_place_29 1 rfl ?_
        refine P_iload_n C dX11_place_30 2 rfl ?_
        refine P_ci (R_v (ci := 1) C kv_X11_place_X1_moves (As := [.int a1, .int a2]) rfl kd_1 rfl (fxl fx_1) (Nat.le_of_ble_eq_true rfl) dX11_place_31 ⟨Nat.le_refl _, Nat.le_refl _⟩ h) (fun r7 σ6 h => ?_)
        exact P_iret C dX11_place_34 h
      · have h := h.2 q5
        refine P_iconst C dX11_place_23 (v := (-1 : Int32)) rfl ?_
        exact P_iret C dX11_place_24 h
noncomputable def K_X11_isOfKind (l : Launch) (V : Vx) (a1 : Nat) (a2 : Int32) (σ : Sg) (Qk : Int32 → Sg → Prop) : Prop := Ka l V yX11_isOfKind wsX11_isOfKind (rmz 0) 0 0 [.ref a1, .int a2] σ (QI V Qk)
theorem e_X11_isOfKind {l : Launch} {V : Vx} {a1 : Nat} {a2 : Int32} {σ : Sg} {Qk : Int32 → Sg → Prop} (h : ∀ M : Mx, mL M = l → mV M = V → mN M = 2 → Cx M cX11_isOfKind (some .boolean) RX11 wsX11_isOfKind (rmz 0) 0 0 (QI (mV M) Qk) → PS M 0 [(0, .ref a1), (1, .int a2)] [] σ (0, 0)) : K_X11_isOfKind l V a1 a2 σ Qk :=
  Ka_of (by decide +kernel) rfl rfl (Nat.le_of_ble_eq_true rfl) (fun M h1 h2 h3 C => h M h1 h2 h3 (by rw [h2]; exact C))
set_option maxRecDepth 100000 in
set_option maxHeartbeats 4000000 in
theorem s_X11_isOfKind_0 {M : Mx} {Qk : Int32 → Sg → Prop} (C : Cx M cX11_isOfKind (some .boolean) RX11 wsX11_isOfKind (rmz 0) 0 0 (QI (mV M) Qk)) (hN : mN M = 2) {a1 : Nat} {a2 : Int32} {ci1 : Nat} (sa1 : isMc ci1) (ha1 : kd a1 = (10 + ci1, 0)) (la1 : a1 ∈ ids (mV M)) {σ : Sg} (h : ((a2.toInt < 0 ∨ 6 < a2.toInt → Qk (0 : Int32) σ) ∧ (a2.toInt = 0 → Qk (1 : Int32) σ) ∧ (a2.toInt = 1 → (∀ v2 : Int32, v2 = (if msub ci1 8 then 1 else 0) → (narrow .boolean (.int v2) = .int v2 ∧ Qk v2 σ))) ∧ (a2.toInt = 2 → (∀ v3 : Int32, v3 = (if msub ci1 3 then 1 else 0) → (narrow .boolean (.int v3) = .int v3 ∧ Qk v3 σ))) ∧ (a2.toInt = 3 → (∀ v4 : Int32, v4 = (if msub ci1 0 then 1 else 0) → (narrow .boolean (.int v4) = .int v4 ∧ Qk v4 σ))) ∧ (a2.toInt = 4 → (∀ v5 : Int32, v5 = (if msub ci1 6 then 1 else 0) → (narrow .boolean (.int v5) = .int v5 ∧ Qk v5 σ))) ∧ (a2.toInt = 5 → (∀ v6 : Int32, v6 = (if msub ci1 7 then 1 else 0) → (narrow .boolean (.int v6) = .int v6 ∧ Qk v6 σ))) ∧ (a2.toInt = 6 → (∀ v7 : Int32, v7 = (if msub ci1 10 then 1 else 0) → (narrow .boolean (.int v7) = .int v7 ∧ Qk v7 σ))))) : PS M 0 [(0, .ref a1), (1, .int a2)] [] σ (0, 0) := by
  refine P_iload_n C dX11_isOfKind_0 1 rfl ?_
  refine P_tsw C dX11_isOfKind_1 76 (by decide +kernel) (fun q1 => ?_) (by decide +kernel) (fun i off ho q1 => ?_)
  · have h := h.1 q1
    refine P_iconst C dX11_isOfKind_76 (v := (0 : Int32)) rfl ?_
    exact P_zret C (by decide +kernel) dX11_isOfKind_77 h
  · rcases i with _ | _ | _ | _ | _ | _ | _ | i
    · obtain rfl : (43 : Int) = off := Option.some.inj ho
      refine ⟨?_, by decide +kernel⟩
      show PS M 44 _ _ _ _
      have h := h.2.1 (by have q := q1; simp at q; omega)
      refine P_iconst C dX11_isOfKind_44 (v := (1 : Int32)) rfl ?_
      exact P_zret C (by decide +kernel) dX11_isOfKind_45 h
    · obtain rfl : (45 : Int) = off := Option.some.inj ho
      refine ⟨?_, by decide +kernel⟩
      show PS M 46 _ _ _ _
      have h := h.2.2.1 (by have q := q1; simp at q; omega)
      refine P_aload_n C dX11_isOfKind_46 0 rfl ?_
      refine P_inst C (ct := 8) (List.mem_of_getElem? (i := 1) rfl) rfl sa1 (by decide +kernel) ha1 la1 dX11_isOfKind_47 ?_
      refine P_nmi (fun v2 ev2 => ?_)
      have h := h v2 ev2
      exact P_zret C h.1 dX11_isOfKind_50 h.2
    · obtain rfl : (50 : Int) = off := Option.some.inj ho
      refine ⟨?_, by decide +kernel⟩
      show PS M 51 _ _ _ _
      have h := h.2.2.2.1 (by have q := q1; simp at q; omega)
      refine P_aload_n C dX11_isOfKind_51 0 rfl ?_
      refine P_inst C (ct := 3) (List.mem_of_getElem? (i := 2) rfl) rfl sa1 (by decide +kernel) ha1 la1 dX11_isOfKind_52 ?_
      refine P_nmi (fun v3 ev3 => ?_)
      have h := h v3 ev3
      exact P_zret C h.1 dX11_isOfKind_55 h.2
    · obtain rfl : (55 : Int) = off := Option.some.inj ho
      refine ⟨?_, by decide +kernel⟩
      show PS M 56 _ _ _ _
      have h := h.2.2.2.2.1 (by have q := q1; simp at q; omega)
      refine P_aload_n C dX11_isOfKind_56 0 rfl ?_
      refine P_inst C (ct := 0) (List.mem_of_getElem? (i := 3) rfl) rfl sa1 (by decide +kernel) ha1 la1 dX11_isOfKind_57 ?_
      refine P_nmi (fun v4 ev4 => ?_)
      have h := h v4 ev4
      exact P_zret C h.1 dX11_isOfKind_60 h.2
    · obtain rfl : (60 : Int) = off := Option.some.inj ho
      refine ⟨?_, by decide +kernel⟩
      show PS M 61 _ _ _ _
      have h := h.2.2.2.2.2.1 (by have q := q1; simp at q; omega)
      refine P_aload_n C dX11_isOfKind_61 0 rfl ?_
      refine P_inst C (ct := 6) (List.mem_of_getElem? (i := 4) rfl) rfl sa1 (by decide +kernel) ha1 la1 dX11_isOfKind_62 ?_
      refine P_nmi (fun v5 ev5 => ?_)
      have h := h v5 ev5
      exact P_zret C h.1 dX11_isOfKind_65 h.2
    · obtain rfl : (65 : Int) = off := Option.some.inj ho
      refine ⟨?_, by decide +kernel⟩
      show PS M 66 _ _ _ _
      have h := h.2.2.2.2.2.2.1 (by have q := q1; simp at q; omega)
      refine P_aload_n C dX11_isOfKind_66 0 rfl ?_
      refine P_inst C (ct := 7) (List.mem_of_getElem? (i := 5) rfl) rfl sa1 (by decide +kernel) ha1 la1 dX11_isOfKind_67 ?_
      refine P_nmi (fun v6 ev6 => ?_)
      have h := h v6 ev6
      exact P_zret C h.1 dX11_isOfKind_70 h.2
    · obtain rfl : (70 : Int) = off := Option.some.inj ho
      refine ⟨?_, by decide +kernel⟩
      show PS M 71 _ _ _ _
      have h := h.2.2.2.2.2.2.2 (by have q := q1; simp at q; omega)
      refine P_aload_n C dX11_isOfKind_71 0 rfl ?_
      refine P_inst C (ct := 10) (List.mem_of_getElem? (i := 6) rfl) rfl sa1 (by decide +kernel) ha1 la1 dX11_isOfKind_72 ?_
      refine P_nmi (fun v7 ev7 => ?_)
      have h := h v7 ev7
      exact P_zret C h.1 dX11_isOfKind_75 h.2
    · exact absurd (Array.getElem?_eq_some_iff.mp ho).1 (Nat.not_lt.mpr (by show 7 ≤ _; omega))
theorem kv_X11_taken_X11_isMower : KV RX11 wsX11_taken (rmz 1) 110 RX11 yX11_isMower wsX11_isMower (rmz 0) 1 := ⟨_, _, _, _, gX11_taken_X11_isMower, rfl, by decide +kernel, by decide +kernel⟩
theorem fa_X11_taken_12 : FA RX11 wsX11_taken 12 11 0 "NineMowers" := by
  show _ ∧ _ ∧ _ ∧ _
  exact ⟨by decide +kernel, fun _ h => List.mem_cons_of_mem _ (List.mem_append_left _ (List.mem_append_left _ (List.mem_append_left _ (List.mem_append_left _ (List.mem_append_left _ (List.mem_append_left _ (List.mem_append_left _ (List.mem_append_left _ (List.mem_append_right _ h))))))))), List.mem_of_getElem? (i := 1) rfl, Or.inl rfl⟩
theorem fa_X11_taken_114 : FA RX11 wsX11_taken 114 1 0 "NineMowers$Course" := by
  show _ ∧ _ ∧ _ ∧ _
  exact ⟨by decide +kernel, fun _ h => List.mem_cons_of_mem _ (List.mem_append_left _ (List.mem_append_left _ (List.mem_append_left _ (List.mem_append_left _ (List.mem_append_left _ (List.mem_append_left _ (List.mem_append_left _ (List.mem_append_right _ h)))))))), List.mem_of_getElem? (i := 2) rfl, Or.inl rfl⟩
theorem kf_X11_taken_X11_isOfKind : KF RX11 wsX11_taken (rmz 1) 315 yX11_isOfKind wsX11_isOfKind (rmz 0) 2 := ⟨_, _, _, _, gX11_taken_X11_isOfKind, rfl, by decide +kernel, by decide +kernel⟩
theorem fa_X11_taken_118 : FA RX11 wsX11_taken 118 4 0 "NineMowers$Mower" := by
  show _ ∧ _ ∧ _ ∧ _
  exact ⟨by decide +kernel, fun _ h => List.mem_cons_of_mem _ (List.mem_append_left _ (List.mem_append_left _ (List.mem_append_left _ (List.mem_append_left _ (List.mem_append_right _ h))))), List.mem_of_getElem? (i := 3) rfl, Or.inl rfl⟩
noncomputable def K_X11_taken (l : Launch) (V : Vx) (a1 : Int32) (a2 : Int32) (σ : Sg) (Qk : Int32 → Sg → Prop) : Prop := Ka l V yX11_taken wsX11_taken (rmz 1) 0 0 [.ref 0, .int a1, .int a2] σ (QI V Qk)
theorem e_X11_taken {l : Launch} {V : Vx} {a1 : Int32} {a2 : Int32} {σ : Sg} {Qk : Int32 → Sg → Prop} (h : ∀ M : Mx, mL M = l → mV M = V → mN M = 3 → Cx M cX11_taken (some .int) RX11 wsX11_taken (rmz 1) 0 0 (QI (mV M) Qk) → PS M 0 [(0, .ref 0), (1, .int a1), (2, .int a2)] [] σ (0, 0)) : K_X11_taken l V a1 a2 σ Qk :=
  Ka_of (by decide +kernel) rfl rfl (Nat.le_of_ble_eq_true rfl) (fun M h1 h2 h3 C => h M h1 h2 h3 (by rw [h2]; exact C))
set_option maxRecDepth 100000 in
set_option maxHeartbeats 4000000 in
theorem s_X11_taken_0 {M : Mx} {Qk : Int32 → Sg → Prop} (C : Cx M cX11_taken (some .int) RX11 wsX11_taken (rmz 1) 0 0 (QI (mV M) Qk)) (hN : mN M = 3) {a1 : Int32} {a2 : Int32} {σ : Sg} (h : ((a2 < 0 → Qk (-2 : Int32) σ) ∧ (¬ a2 < 0 → ((a2 ≤ (6 : Int32) → K_X11_isMower (mL M) (mV M) a1 σ (fun r4 σ3 => ((¬ r4 = 0 → (vp_in a1 6 ∧ (∃ (μ7 ci7 : Nat), gr σ3 2 a1.toNatClampNeg = some μ7 ∧ isMc ci7 ∧ kd μ7 = (10 + ci7, 0) ∧ μ7 ∈ ids (mV M) ∧ K_X11_isOfKind (mL M) (mV M) μ7 a2 σ3 (fun r9 σ8 => ((r9 = 0 → Qk (-12 : Int32) σ8) ∧ (¬ r9 = 0 → (vp_in a1 6 ∧ (∃ (μ12 ci12 : Nat), gr σ8 2 a1.toNatClampNeg = some μ12 ∧ isMc ci12 ∧ kd μ12 = (10 + ci12, 0) ∧ μ12 ∈ ids (mV M) ∧ Qk (gi σ8 μ12 0) σ8)))))))) ∧ (r4 = 0 → Qk (-11 : Int32) σ3)))) ∧ (¬ a2 ≤ (6 : Int32) → Qk (-2 : Int32) σ))))) : PS M 0 [(0, .ref 0), (1, .int a1), (2, .int a2)] [] σ (0, 0) := by
  refine P_iload_n C dX11_taken_0 2 rfl ?_
  refine P_if_lt C dX11_taken_1 (tgt := 10) (by decide +kernel) (fun q1 => ?_) (fun q1 => ?_)
  · have h := h.1 q1
    refine P_bipush C dX11_taken_10 (v := (-2 : Int32)) rfl ?_
    exact P_iret C dX11_taken_12 h
  · have h := h.2 q1
    refine P_iload_n C dX11_taken_4 2 rfl ?_
    refine P_bipush C dX11_taken_5 (v := (6 : Int32)) rfl ?_
    refine P_icmp_le C dX11_taken_7 (tgt := 13) (by decide +kernel) (fun q2 => ?_) (fun q2 => ?_)
    · have h := h.1 q2
      refine P_aload_n C dX11_taken_13 0 rfl ?_
      refine P_iload_n C dX11_taken_14 1 rfl ?_
      refine P_ci (R_v (ci := 11) C kv_X11_taken_X11_isMower (As := [.int a1]) rfl kd_0 rfl (fxl fx_0) (Nat.le_of_ble_eq_true rfl) dX11_taken_15 ⟨Nat.le_refl _, Nat.le_refl _⟩ h) (fun r4 σ3 h => ?_)
      refine P_if_ne C dX11_taken_18 (tgt := 24) (by decide +kernel) (fun q5 => ?_) (fun q5 => ?_)
      · have h := h.1 q5
        refine P_aload_n C dX11_taken_24 0 rfl ?_
        refine P_getS C (e := 1) fa_X11_taken_12 kd_0 (d := 1) rfl (fxl fx_0) rfl dX11_taken_25 ?_
        refine P_getS C (e := 2) fa_X11_taken_114 kd_1 (d := 1) rfl (fxl fx_1) rfl dX11_taken_28 ?_
        refine P_iload_n C dX11_taken_31 1 rfl ?_
        obtain ⟨hv6, μ7, ci7, hrμ7, sμ7, hμ7, lμ7, h⟩ := h
        refine P_aldD C kd_2 (Or.inl rfl) (fxl fx_2) hv6 hrμ7 dX11_taken_32 ?_
        refine P_iload_n C dX11_taken_33 2 rfl ?_
        refine P_ci (R_f C kf_X11_taken_X11_isOfKind (As := [.ref μ7, .int a2]) rfl (Nat.le_of_ble_eq_true rfl) dX11_taken_34 ⟨Nat.le_refl _, Nat.le_refl _⟩ h) (fun r9 σ8 h => ?_)
        refine P_if_eq C dX11_taken_37 (tgt := 55) (by decide +kernel) (fun q10 => ?_) (fun q10 => ?_)
        · have h := h.1 q10
          refine P_bipush C dX11_taken_55 (v := (-12 : Int32)) rfl ?_
          exact P_iret C dX11_taken_57 h
        · have h := h.2 q10
          refine P_aload_n C dX11_taken_40 0 rfl ?_
          refine P_getS C (e := 1) fa_X11_taken_12 kd_0 (d := 1) rfl (fxl fx_0) rfl dX11_taken_41 ?_
          refine P_getS C (e := 2) fa_X11_taken_114 kd_1 (d := 1) rfl (fxl fx_1) rfl dX11_taken_44 ?_
          refine P_iload_n C dX11_taken_47 1 rfl ?_
          obtain ⟨hv11, μ12, ci12, hrμ12, sμ12, hμ12, lμ12, h⟩ := h
          refine P_aldD C kd_2 (Or.inl rfl) (fxl fx_2) hv11 hrμ12 dX11_taken_48 ?_
          refine P_getM C fa_X11_taken_118 (by decide +kernel) sμ12 hμ12 lμ12 dX11_taken_49 ?_
          refine P_goto C dX11_taken_52 (tgt := 57) (by decide +kernel) ?_
          exact P_iret C dX11_taken_57 h
      · have h := h.2 q5
        refine P_bipush C dX11_taken_21 (v := (-11 : Int32)) rfl ?_
        exact P_iret C dX11_taken_23 h
    · have h := h.2 q2
      refine P_bipush C dX11_taken_10 (v := (-2 : Int32)) rfl ?_
      exact P_iret C dX11_taken_12 h
theorem kv_X11_row_X11_isMower : KV RX11 wsX11_row (rmz 1) 110 RX11 yX11_isMower wsX11_isMower (rmz 0) 1 := ⟨_, _, _, _, gX11_row_X11_isMower, rfl, by decide +kernel, by decide +kernel⟩
theorem fa_X11_row_12 : FA RX11 wsX11_row 12 11 0 "NineMowers" := by
  show _ ∧ _ ∧ _ ∧ _
  exact ⟨by decide +kernel, fun _ h => List.mem_cons_of_mem _ (List.mem_append_left _ (List.mem_append_right _ h)), List.mem_of_getElem? (i := 1) rfl, Or.inl rfl⟩
theorem fa_X11_row_114 : FA RX11 wsX11_row 114 1 0 "NineMowers$Course" := by
  show _ ∧ _ ∧ _ ∧ _
  exact ⟨by decide +kernel, fun _ h => List.mem_cons_of_mem _ (List.mem_append_right _ h), List.mem_of_getElem? (i := 2) rfl, Or.inl rfl⟩
theorem fa_X11_row_150 : FA RX11 wsX11_row 150 1 8 "NineMowers$Course" := by
  show _ ∧ _ ∧ _ ∧ _
  exact ⟨by decide +kernel, fun _ h => List.mem_cons_of_mem _ (List.mem_append_right _ h), List.mem_of_getElem? (i := 4) rfl, Or.inl rfl⟩
noncomputable def K_X11_row (l : Launch) (V : Vx) (a1 : Int32) (a2 : Int32) (a3 : Int32) (σ : Sg) (Qk : Int32 → Sg → Prop) : Prop := Ka l V yX11_row wsX11_row (rmz 1) 0 0 [.ref 0, .int a1, .int a2, .int a3] σ (QI V Qk)
theorem e_X11_row {l : Launch} {V : Vx} {a1 : Int32} {a2 : Int32} {a3 : Int32} {σ : Sg} {Qk : Int32 → Sg → Prop} (h : ∀ M : Mx, mL M = l → mV M = V → mN M = 5 → Cx M cX11_row (some .int) RX11 wsX11_row (rmz 1) 0 0 (QI (mV M) Qk) → PS M 0 [(0, .ref 0), (1, .int a1), (2, .int a2), (3, .int a3)] [] σ (0, 0)) : K_X11_row l V a1 a2 a3 σ Qk :=
  Ka_of (by decide +kernel) rfl rfl (Nat.le_of_ble_eq_true rfl) (fun M h1 h2 h3 C => h M h1 h2 h3 (by rw [h2]; exact C))
set_option maxRecDepth 100000 in
set_option maxHeartbeats 4000000 in
theorem s_X11_row_0 {M : Mx} {Qk : Int32 → Sg → Prop} (C : Cx M cX11_row (some .int) RX11 wsX11_row (rmz 1) 0 0 (QI (mV M) Qk)) (hN : mN M = 5) {a1 : Int32} {a2 : Int32} {a3 : Int32} {σ : Sg} (h : K_X11_isMower (mL M) (mV M) a1 σ (fun r2 σ1 => ((r2 = 0 → Qk (-1 : Int32) σ1) ∧ (¬ r2 = 0 → ((a2 < 0 → Qk (-1 : Int32) σ1) ∧ (¬ a2 < 0 → ((a2 ≤ (3 : Int32) → ((a3 < 0 → Qk (-2 : Int32) σ1) ∧ (¬ a3 < 0 → ((a3 ≤ (9 : Int32) → (vp_in a1 6 ∧ (∃ (μ9 ci9 : Nat), gr σ1 2 a1.toNatClampNeg = some μ9 ∧ isMc ci9 ∧ kd μ9 = (10 + ci9, 0) ∧ μ9 ∈ ids (mV M) ∧ (∀ v10 : Int32, v10 = (if msub ci9 10 then 1 else 0) → ((¬ v10 = 0 → (vp_in (((4 : Int32) * a1) + a2) 24 ∧ (∀ v13 : Int32, v13 = gi σ1 8 (((4 : Int32) * a1) + a2).toNatClampNeg → (vp_in (((4 : Int32) * a1) + a2) 24 ∧ (∀ σ15 : Sg, σ15 = si σ1 8 (((4 : Int32) * a1) + a2).toNatClampNeg a3 → Qk v13 σ15))))) ∧ (v10 = 0 → Qk (-3 : Int32) σ1)))))) ∧ (¬ a3 ≤ (9 : Int32) → Qk (-2 : Int32) σ1))))) ∧ (¬ a2 ≤ (3 : Int32) → Qk (-1 : Int32) σ1)))))))) : PS M 0 [(0, .ref 0), (1, .int a1), (2, .int a2), (3, .int a3)] [] σ (0, 0) := by
  refine P_aload_n C dX11_row_0 0 rfl ?_
  refine P_iload_n C dX11_row_1 1 rfl ?_
  refine P_ci (R_v (ci := 11) C kv_X11_row_X11_isMower (As := [.int a1]) rfl kd_0 rfl (fxl fx_0) (Nat.le_of_ble_eq_true rfl) dX11_row_2 ⟨Nat.le_refl _, Nat.le_refl _⟩ h) (fun r2 σ1 h => ?_)
  refine P_if_eq C dX11_row_5 (tgt := 17) (by decide +kernel) (fun q3 => ?_) (fun q3 => ?_)
  · have h := h.1 q3
    refine P_iconst C dX11_row_17 (v := (-1 : Int32)) rfl ?_
    exact P_iret C dX11_row_18 h
  · have h := h.2 q3
    refine P_iload_n C dX11_row_8 2 rfl ?_
    refine P_if_lt C dX11_row_9 (tgt := 17) (by decide +kernel) (fun q4 => ?_) (fun q4 => ?_)
    · have h := h.1 q4
      refine P_iconst C dX11_row_17 (v := (-1 : Int32)) rfl ?_
      exact P_iret C dX11_row_18 h
    · have h := h.2 q4
      refine P_iload_n C dX11_row_12 2 rfl ?_
      refine P_iconst C dX11_row_13 (v := (3 : Int32)) rfl ?_
      refine P_icmp_le C dX11_row_14 (tgt := 19) (by decide +kernel) (fun q5 => ?_) (fun q5 => ?_)
      · have h := h.1 q5
        refine P_iload_n C dX11_row_19 3 rfl ?_
        refine P_if_lt C dX11_row_20 (tgt := 29) (by decide +kernel) (fun q6 => ?_) (fun q6 => ?_)
        · have h := h.1 q6
          refine P_bipush C dX11_row_29 (v := (-2 : Int32)) rfl ?_
          exact P_iret C dX11_row_31 h
        · have h := h.2 q6
          refine P_iload_n C dX11_row_23 3 rfl ?_
          refine P_bipush C dX11_row_24 (v := (9 : Int32)) rfl ?_
          refine P_icmp_le C dX11_row_26 (tgt := 32) (by decide +kernel) (fun q7 => ?_) (fun q7 => ?_)
          · have h := h.1 q7
            refine P_aload_n C dX11_row_32 0 rfl ?_
            refine P_getS C (e := 1) fa_X11_row_12 kd_0 (d := 1) rfl (fxl fx_0) rfl dX11_row_33 ?_
            refine P_getS C (e := 2) fa_X11_row_114 kd_1 (d := 1) rfl (fxl fx_1) rfl dX11_row_36 ?_
            refine P_iload_n C dX11_row_39 1 rfl ?_
            obtain ⟨hv8, μ9, ci9, hrμ9, sμ9, hμ9, lμ9, h⟩ := h
            refine P_aldD C kd_2 (Or.inl rfl) (fxl fx_2) hv8 hrμ9 dX11_row_40 ?_
            refine P_inst C (ct := 10) (List.mem_of_getElem? (i := 3) rfl) rfl sμ9 (by decide +kernel) hμ9 lμ9 dX11_row_41 ?_
            refine P_nmi (fun v10 ev10 => ?_)
            have h := h v10 ev10
            refine P_if_ne C dX11_row_44 (tgt := 50) (by decide +kernel) (fun q11 => ?_) (fun q11 => ?_)
            · have h := h.1 q11
              refine P_aload_n C dX11_row_50 0 rfl ?_
              refine P_getS C (e := 1) fa_X11_row_12 kd_0 (d := 1) rfl (fxl fx_0) rfl dX11_row_51 ?_
              refine P_getS C (e := 8) fa_X11_row_150 kd_1 (d := 7) rfl (fxl fx_1) rfl dX11_row_54 ?_
              refine P_iconst C dX11_row_57 (v := (4 : Int32)) rfl ?_
              refine P_iload_n C dX11_row_58 1 rfl ?_
              refine P_imul C dX11_row_59 ?_
              refine P_iload_n C dX11_row_60 2 rfl ?_
              refine P_iadd C dX11_row_61 ?_
              obtain ⟨hv12, h⟩ := h
              refine P_iald C kd_8 (fxl fx_8) hv12 dX11_row_62 ?_
              refine P_nmi (fun v13 ev13 => ?_)
              have h := h v13 ev13
              refine P_istore C dX11_row_63 (by rw [hN]; decide) rfl ?_
              refine P_aload_n C dX11_row_65 1 rfl ?_
              refine P_getS C (e := 1) fa_X11_row_12 kd_0 (d := 1) rfl (fxl fx_0) rfl dX11_row_66 ?_
              refine P_getS C (e := 8) fa_X11_row_150 kd_1 (d := 7) rfl (fxl fx_1) rfl dX11_row_69 ?_
              refine P_iconst C dX11_row_72 (v := (4 : Int32)) rfl ?_
              refine P_iload_n C dX11_row_73 2 rfl ?_
              refine P_imul C dX11_row_74 ?_
              refine P_iload_n C dX11_row_75 3 rfl ?_
              refine P_iadd C dX11_row_76 ?_
              refine P_iload_n C dX11_row_77 4 rfl ?_
              obtain ⟨hv14, h⟩ := h
              refine P_iast C kd_8 (fxl fx_8) hv14 dX11_row_78 ?_
              refine P_nm (fun σ15 eσ15 => ?_)
              have h := h σ15 eσ15
              refine P_iload C dX11_row_79 0 rfl ?_
              exact P_iret C dX11_row_81 h
            · have h := h.2 q11
              refine P_bipush C dX11_row_47 (v := (-3 : Int32)) rfl ?_
              exact P_iret C dX11_row_49 h
          · have h := h.2 q7
            refine P_bipush C dX11_row_29 (v := (-2 : Int32)) rfl ?_
            exact P_iret C dX11_row_31 h
      · have h := h.2 q5
        refine P_iconst C dX11_row_17 (v := (-1 : Int32)) rfl ?_
        exact P_iret C dX11_row_18 h
/-! words that the printed lists lack: calls of a body from further above -/
noncomputable def wsLk : List Cond := [.methodLink RX6 23 ⟨RX8, "mowing", "(ILNineMowers$Numbers;)I"⟩, .sameMethod RX8 RX4 "mowing" "(ILNineMowers$Numbers;)I", .superclass RX6 RX8, .superclass RX8 RX4, .instanceMethod yX4_mowing, .methodLink RX10 36 ⟨RX0, "mowing", "(ILNineMowers$Numbers;)I"⟩, .sameMethod RX0 RX4 "mowing" "(ILNineMowers$Numbers;)I", .superclass RX10 RX0, .superclass RX0 RX4, .methodLink RX10 32 ⟨RX0, "whetting", "(ILNineMowers$Numbers;)I"⟩, .sameMethod RX0 RX4 "whetting" "(ILNineMowers$Numbers;)I", .instanceMethod yX4_whetting, .methodLink RX7 29 ⟨RX3, "telling", "(ILNineMowers$Numbers;)I"⟩, .sameMethod RX3 RX4 "telling" "(ILNineMowers$Numbers;)I", .superclass RX7 RX3, .superclass RX3 RX4, .instanceMethod yX4_telling, .initialized RX4]
noncomputable def wsAct : List Cond := wsLk ++ (wsX4_mowing ++ (wsX4_whetting ++ wsX4_telling))
noncomputable def wsX0_tellinge : List Cond := wsX0_telling ++ wsAct
noncomputable def wsX10_mowinge : List Cond := wsX10_mowing ++ wsAct
noncomputable def wsX10_whettinge : List Cond := wsX10_whetting ++ wsAct
noncomputable def wsX11_acte : List Cond := wsX11_act ++ wsAct
noncomputable def wsX3_mowinge : List Cond := wsX3_mowing ++ wsAct
noncomputable def wsX4_mowinge : List Cond := wsX4_mowing ++ wsAct
noncomputable def wsX4_tellinge : List Cond := wsX4_telling ++ wsAct
noncomputable def wsX4_whettinge : List Cond := wsX4_whetting ++ wsAct
noncomputable def wsX6_mowinge : List Cond := wsX6_mowing ++ wsAct
noncomputable def wsX6_whettinge : List Cond := wsX6_whetting ++ wsAct
noncomputable def wsX7_tellinge : List Cond := wsX7_telling ++ wsAct
noncomputable def wsX8_whettinge : List Cond := wsX8_whetting ++ wsAct
theorem act_good : ∀ w ∈ wsAct, goodWord w = true := List.all_eq_true.mp (by decide +kernel)
theorem wsV_app (own : String) (idx : Nat) (C : String) (y : MethodName) (ws A : List Cond) : wsV own idx C y (ws ++ A) = wsV own idx C y ws ++ A := (List.append_assoc _ ws A).symm
theorem wsU_app (own : String) (idx : Nat) (C o : String) (x y : MethodName) (ws A : List Cond) : va_wsU own idx C o x y (ws ++ A) = va_wsU own idx C o x y ws ++ A := (List.append_assoc _ ws A).symm
theorem wsO_app (own : String) (idx : Nat) (C o : String) (x y : MethodName) (ws A : List Cond) : va_wsO own idx C o x y (ws ++ A) = va_wsO own idx C o x y ws ++ A := (List.append_assoc _ ws A).symm
theorem wsSU_app (own : String) (idx : Nat) (y : MethodName) (ws A : List Cond) : va_wsSU own idx y (ws ++ A) = va_wsSU own idx y ws ++ A := (List.append_assoc _ ws A).symm
theorem good_l {T A ws : List Cond} (h : GoodIn T ws) : GoodIn (T ++ A) ws := fun w hw => ⟨List.mem_append_left _ (h w hw).1, (h w hw).2⟩
theorem good_b {T ws : List Cond} (h : GoodIn T ws) : GoodIn (T ++ wsAct) (ws ++ wsAct) := goodIn_app (good_l h) (fun w hw => ⟨List.mem_append_right _ hw, good_of_word (act_good w hw)⟩)
theorem FA_ml {own : String} {T A : List Cond} {idx ci k : Nat} {rn : String} (h : FA own T idx ci k rn) : FA own (T ++ A) idx ci k rn := by
  unfold FA at h ⊢
  split at h
  · obtain ⟨h1, h2, h3, h4⟩ := h
    exact ⟨h1, fun w hw => List.mem_append_left _ (h2 w hw), List.mem_append_left _ h3, h4.elim Or.inl (fun h => Or.inr (List.mem_append_left _ h))⟩
  · exact h
theorem PA_ml {own : String} {T A : List Cond} {idx ci k : Nat} {rn : String} {ty : FieldType} (h : PA own T idx ci k rn ty) : PA own (T ++ A) idx ci k rn ty := by
  unfold PA at h ⊢
  split at h
  · obtain ⟨h1, h2, h3, h4⟩ := h
    exact ⟨h1, fun w hw => List.mem_append_left _ (h2 w hw), List.mem_append_left _ h3, h4⟩
  · exact h
theorem KV_ml {own : String} {T A : List Cond} {rm : Room} {idx : Nat} {Cn : String} {y : MethodName} {ws : List Cond} {rc : Room} {n : Nat} (h : KV own T rm idx Cn y ws rc n) : KV own (T ++ A) rm idx Cn y ws rc n := by
  obtain ⟨b, m, r, w', h1, h2⟩ := h
  exact ⟨b, m, r, w', good_l h1, h2⟩
theorem KV_mb {own : String} {T : List Cond} {rm : Room} {idx : Nat} {Cn : String} {y : MethodName} {ws : List Cond} {rc : Room} {n : Nat} (h : KV own T rm idx Cn y ws rc n) : KV own (T ++ wsAct) rm idx Cn y (ws ++ wsAct) rc n := by
  obtain ⟨b, m, r, w', h1, h2, h3⟩ := h
  exact ⟨b, m, r, w' ++ wsAct, by rw [wsV_app]; exact good_b h1, by rw [h2]; rfl, h3⟩
theorem KU_mb {own : String} {T : List Cond} {rm : Room} {idx : Nat} {Cn : String} {y : MethodName} {ws : List Cond} {rc : Room} {n : Nat} (h : KU own T rm idx Cn y ws rc n) : KU own (T ++ wsAct) rm idx Cn y (ws ++ wsAct) rc n := by
  obtain ⟨b, m, r, w', ow, x, h1, h2, h3⟩ := h
  refine ⟨b, m, r, w' ++ wsAct, ow, x, ?_, by rw [h2]; rfl, h3⟩
  rcases h1 with ⟨g, e⟩ | ⟨g, b0, m0, r0, e⟩
  · exact Or.inl ⟨by rw [wsU_app]; exact good_b g, e⟩
  · exact Or.inr ⟨by rw [wsO_app]; exact good_b g, b0, m0, r0, List.mem_append_left _ e⟩
theorem KSU_mb {own : String} {T : List Cond} {rm : Room} {idx : Nat} {y : MethodName} {ws : List Cond} {rc : Room} {n : Nat} (h : KSU own T rm idx y ws rc n) : KSU own (T ++ wsAct) rm idx y (ws ++ wsAct) rc n := by
  obtain ⟨b, m, r, w', h1, h2, h3⟩ := h
  exact ⟨b, m, r, w' ++ wsAct, by rw [wsSU_app]; exact good_b h1, by rw [h2]; rfl, h3⟩
noncomputable def wsSI (own : String) (idx : Nat) (x : MethodName) (C : String) (y : MethodName) (ws : List Cond) : List Cond := ([.methodLink own idx x, .sameMethod x.cls C x.name x.desc, .superclass own x.cls, .superclass x.cls C, .instanceMethod y, .initialized C] : List Cond) ++ ws
theorem act_4 {ws : List Cond} (h : ∀ w ∈ ws, w ∈ wsAct) (T : List Cond) : GoodIn (T ++ wsAct) (ws ++ wsAct) := fun w hw => by
  have h1 : w ∈ wsAct := (List.mem_append.mp hw).elim (h w) id
  exact ⟨List.mem_append_right _ h1, good_of_word (act_good w h1)⟩
theorem act_k {ws : List Cond} (h : ∀ w ∈ ws, w ∈ wsLk) (T : List Cond) : GoodIn (T ++ wsAct) ws := fun w hw => by
  have h1 : w ∈ wsAct := List.mem_append_left _ (h w hw)
  exact ⟨List.mem_append_right _ h1, good_of_word (act_good w h1)⟩
theorem act_m : ∀ w ∈ wsX4_mowing, w ∈ wsAct := fun _ h => List.mem_append_right _ (List.mem_append_left _ h)
theorem act_w : ∀ w ∈ wsX4_whetting, w ∈ wsAct := fun _ h => List.mem_append_right _ (List.mem_append_right _ (List.mem_append_left _ h))
theorem act_t : ∀ w ∈ wsX4_telling, w ∈ wsAct := fun _ h => List.mem_append_right _ (List.mem_append_right _ (List.mem_append_right _ h))
theorem gsi_X6_mowing_23 : GoodIn wsX6_mowinge (wsSI RX6 23 ⟨RX8, "mowing", "(ILNineMowers$Numbers;)I"⟩ RX4 yX4_mowing wsX4_mowinge) := goodIn_app (act_k (by
  intro w hw
  simp only [List.mem_cons, List.not_mem_nil, or_false] at hw
  rcases hw with rfl | rfl | rfl | rfl | rfl | rfl
  · exact List.mem_of_getElem? (i := 0) rfl
  · exact List.mem_of_getElem? (i := 1) rfl
  · exact List.mem_of_getElem? (i := 2) rfl
  · exact List.mem_of_getElem? (i := 3) rfl
  · exact List.mem_of_getElem? (i := 4) rfl
  · exact List.mem_of_getElem? (i := 17) rfl) wsX6_mowing) (act_4 act_m wsX6_mowing)
theorem gsi_X10_mowing_36 : GoodIn wsX10_mowinge (wsSI RX10 36 ⟨RX0, "mowing", "(ILNineMowers$Numbers;)I"⟩ RX4 yX4_mowing wsX4_mowinge) := goodIn_app (act_k (by
  intro w hw
  simp only [List.mem_cons, List.not_mem_nil, or_false] at hw
  rcases hw with rfl | rfl | rfl | rfl | rfl | rfl
  · exact List.mem_of_getElem? (i := 5) rfl
  · exact List.mem_of_getElem? (i := 6) rfl
  · exact List.mem_of_getElem? (i := 7) rfl
  · exact List.mem_of_getElem? (i := 8) rfl
  · exact List.mem_of_getElem? (i := 4) rfl
  · exact List.mem_of_getElem? (i := 17) rfl) wsX10_mowing) (act_4 act_m wsX10_mowing)
theorem gsi_X10_whetting_36 : GoodIn wsX10_whettinge (wsSI RX10 36 ⟨RX0, "mowing", "(ILNineMowers$Numbers;)I"⟩ RX4 yX4_mowing wsX4_mowinge) := goodIn_app (act_k (by
  intro w hw
  simp only [List.mem_cons, List.not_mem_nil, or_false] at hw
  rcases hw with rfl | rfl | rfl | rfl | rfl | rfl
  · exact List.mem_of_getElem? (i := 5) rfl
  · exact List.mem_of_getElem? (i := 6) rfl
  · exact List.mem_of_getElem? (i := 7) rfl
  · exact List.mem_of_getElem? (i := 8) rfl
  · exact List.mem_of_getElem? (i := 4) rfl
  · exact List.mem_of_getElem? (i := 17) rfl) wsX10_whetting) (act_4 act_m wsX10_whetting)
theorem gsi_X10_whetting_32 : GoodIn wsX10_whettinge (wsSI RX10 32 ⟨RX0, "whetting", "(ILNineMowers$Numbers;)I"⟩ RX4 yX4_whetting wsX4_whettinge) := goodIn_app (act_k (by
  intro w hw
  simp only [List.mem_cons, List.not_mem_nil, or_false] at hw
  rcases hw with rfl | rfl | rfl | rfl | rfl | rfl
  · exact List.mem_of_getElem? (i := 9) rfl
  · exact List.mem_of_getElem? (i := 10) rfl
  · exact List.mem_of_getElem? (i := 7) rfl
  · exact List.mem_of_getElem? (i := 8) rfl
  · exact List.mem_of_getElem? (i := 11) rfl
  · exact List.mem_of_getElem? (i := 17) rfl) wsX10_whetting) (act_4 act_w wsX10_whetting)
theorem gsi_X7_telling_29 : GoodIn wsX7_tellinge (wsSI RX7 29 ⟨RX3, "telling", "(ILNineMowers$Numbers;)I"⟩ RX4 yX4_telling wsX4_tellinge) := goodIn_app (act_k (by
  intro w hw
  simp only [List.mem_cons, List.not_mem_nil, or_false] at hw
  rcases hw with rfl | rfl | rfl | rfl | rfl | rfl
  · exact List.mem_of_getElem? (i := 12) rfl
  · exact List.mem_of_getElem? (i := 13) rfl
  · exact List.mem_of_getElem? (i := 14) rfl
  · exact List.mem_of_getElem? (i := 15) rfl
  · exact List.mem_of_getElem? (i := 16) rfl
  · exact List.mem_of_getElem? (i := 17) rfl) wsX7_telling) (act_4 act_t wsX7_telling)
/-- a call of a body from further above, of the same object -/
noncomputable def KSI (own : String) (Ts : List Cond) (rm : Room) (idx : Nat) (x : MethodName) (C : String) (y : MethodName) (ws : List Cond) (rc : Room) (n : Nat) : Prop :=
  ∃ (bytes : ByteArray) (maxL : Nat) (rt : Option FieldType) (ws' : List Cond), GoodIn Ts (wsSI own idx x C y ws) ∧ ws = Cond.code y bytes maxL rt :: ws' ∧ (y = ⟨C, x.name, x.desc⟩ ∧ y.name ≠ "<init>" ∧ (parseMethodDescriptor y.desc).map (fun d => d.parameters.length) = some n) ∧ (rc.frames + 1 ≤ rm.frames ∧ 8 + (maxL + 11) + rc.locals ≤ rm.locals)
section Rules4
variable {M : Mx} {cc : ByteArray} {ret : Option FieldType} {own : String} {Ts : List Cond} {rm rc : Room} {mc ms : Nat} {Qc Qm : Array Value → State → Outcome → State → Prop} {pc : Nat} {lv lv' : List (Nat × Value)} {st : List Value} {σ : Sg} {kn : Nat × Nat} {idx n b ci z : Nat} {x y : MethodName} {ws : List Cond} {As : List Value} {Cn Cy : String} {T : u_T} {N : Nat}
theorem R_si (C : Cx M cc ret own Ts rm mc ms Qc) (k : KSI own Ts rm idx x Cy y ws rc n) (hn : As.length = n) (hk : kd b = (10 + ci, z)) (hcl : vwCl[ci]? = some (Cn, T, N)) (hi : b ∈ ids (mV M)) (hst : (st.map fun v => v.category).sum ≤ 8) (hd : decode cc pc = .ok (.invokespecial idx, 3)) (hf : kn.1 + rc.cells ≤ rm.cells ∧ kn.2 + rc.slots ≤ rm.slots)
    (hM : Ka (mL M) (mV M) y ws rc rc.cells rc.slots (.ref b :: As) σ Qm) : RS M pc lv (As.reverse ++ .ref b :: st) st σ kn rc.cells rc.slots (Qm ((.ref b :: As).map (cv (mV M))).toArray) := by
  obtain ⟨p, l, e, R, s, m, args, below, meth, c, V, nL, Q⟩ := M
  intro ls H locs hl hG hS
  obtain ⟨hx, hb, hml, hown, hts, hr, hlk, hK, rfl, rfl, hw, hX⟩ := C
  obtain ⟨bytes, maxL, rt, ws', k1, k2, ⟨ky, k3, k3'⟩, k4⟩ := k
  obtain ⟨q0, hq⟩ := cell_at (V := V) (σ := σ) hi
  rw [ct_o hk] at hq
  rw [map_stk]
  have ok : ∀ w ∈ wsSI own idx x Cy y ws, w.before args s = true := fun w h => hts w (k1 w h).1
  have hGo : GoodIn Ts ws := fun w h => k1 w (List.mem_append_right _ h)
  have hcm : Cond.code y bytes maxL rt ∈ ws := by rw [k2]; exact List.mem_cons_self
  have hl1 := ok _ (List.mem_of_getElem? (i := 0) rfl)
  have hl2 := ok _ (List.mem_of_getElem? (i := 1) rfl)
  have hl3 := ok _ (List.mem_of_getElem? (i := 2) rfl)
  have hl4 := ok _ (List.mem_of_getElem? (i := 3) rfl)
  have hl5 := ok _ (List.mem_of_getElem? (i := 4) rfl)
  have hl6 := ok _ (List.mem_of_getElem? (i := 5) rfl)
  have hcode := hts _ (hGo _ hcm).1
  have hcy : y.cls = Cy := by rw [ky]
  have hws : ∀ w ∈ ws, ∀ (a' : Array Value) (U : State), s.WarmedH U.vm → w.before a' U = true := pay_in hts hGo
  have hBk : Back l R p e below s args y 3 8 (PreOf R rc.cells rc.slots (va_Pc ((.ref b :: As).map (cv V)) (fun U => GG V σ U))) (PostOf Qm rc.cells rc.slots (vA V)) := back_of (bytes := bytes) (maxL := maxL) (ret := rt) hM GGblind rfl rfl k4.1 k4.2 hws hcm (fun a' U hW => word_at hW (Or.inl (by first | rfl | simp [Cond.onTables, Cond.keeps, Cond.steady])) (by rw [hcy]; exact hl6))
  obtain ⟨cellB, hcB, hoB, hclB⟩ := va_recv hK hG.1 hcl hq
  obtain ⟨hfc, kB, hkB, -⟩ := (hK.1 ci _ hcl).2
  have hcc := Option.some.inj (hclB.symm.trans hfc)
  have hkB : s.vm.classes[cellB.cls]? = some kB := by rw [hcc]; exact hkB
  obtain ⟨mk, methM, hnamed, hmethM, hstM, habM⟩ := Cond.instanceMethod_spec hl5
  obtain ⟨methM', cM, hmethM', -, -, -, -, -, -, hsigM⟩ := Cond.code_spec hnamed hcode
  cases hmethM.symm.trans hmethM'
  obtain ⟨ps, dk, kp, hps, hdk, hkp, hsuper, -, -, hnid⟩ := Cond.superclass_spec hown hl3
  obtain ⟨p2, k2', kp2, hp2, hk2, hkp2, hsuper2, -, -, -⟩ := Cond.superclass_spec hps hl4
  have hn : s.methodNamed? ⟨Cy, x.name, x.desc⟩ = some mk := by rw [← ky]; exact hnamed
  have hpm : p2 = mk.cls := Option.some.inj (hp2.symm.trans (findClass_of_methodNamed hn))
  have hsz : 0 < s.vm.classes.size := Nat.lt_of_le_of_lt (Nat.zero_le _) (Array.getElem?_eq_some_iff.mp hk2).1
  have hsub : s.vm.isSubclass ps mk.cls = true := by
    rw [← hpm]
    unfold Vm.isSubclass
    obtain ⟨j, hj⟩ : ∃ j, s.vm.classes.size = j + 1 := ⟨s.vm.classes.size - 1, by omega⟩
    rw [hj]
    simp [Vm.isSubclassAux, hk2, hsuper2]
  have hlen : ∀ sig, parseMethodDescriptor y.desc = some sig → (As.map (cv V)).length = sig.parameters.length := fun sig h => by
    rw [h] at k3'
    rw [List.length_map, (by assumption : As.length = n)]
    exact (Option.some.inj k3').symm
  intro Tt hT X
  obtain ⟨vm₁, X₁, hstep₁⟩ := X.invokespecialUp hx hown hl1 hl2 hn hmethM hstM habM (by rw [ky] at k3; exact k3) hdk hnid hps hsuper hsub (a := va V b) (cell := cellB) (by rw [hT]; exact hcB)
    (fun z h => by rw [h] at hoB; cases hoB) hkB (g := F0 m pc ls ((As.map (cv V)).reverse ++ .ref (va V b) :: st.map (cv V))) rfl (argsL := As.map (cv V)) (rest := st.map (cv V)) (hlen _ hsigM) rfl (by rw [hb]; exact hd)
  obtain ⟨v, B, X', hpost, hsteps⟩ := hBk m meth c ⟨Tt.setVm vm₁, locs, _, _⟩ { F0 m pc ls ((As.map (cv V)).reverse ++ .ref (va V b) :: st.map (cv V)) with stack := st.map (cv V) } (.invokespecial idx) mk (Value.ref (va V b) :: As.map (cv V)).toArray X₁ rfl (hl.1.trans hml.symm) (by rw [hb]; exact hd) (cat_sum hst) (X₁.named hnamed) ⟨hf.1, hf.2, rfl, GG_mk hT hG hK hX hS X₁.warmed⟩
  obtain ⟨U', l2, c2, s2⟩ := B
  obtain ⟨g', mk', t, L, e1, e2, hq, h1, hL, h2, h3⟩ := hpost
  dsimp only [Pt.U, Pt.locs, Pt.cells, Pt.slots] at X' e1 e2 h1 h2 h3 hsteps
  subst h1; subst h2; subst h3
  exact ⟨v, (Tt.setVm vm₁).calling g' mk' (Value.ref (va V b) :: As.map (cv V)).toArray, t, U', L, hT, X', hL, e1, e2, hq, fun target h => hstep₁ _ (by rw [doInvoke_state]; exact hsteps.trans h)⟩
/-! texts -/
theorem P_ldcS (C : Cx M cc ret RX2 Ts rm mc ms Qc) {i : Nat} (hi : i < 8) (he : jIdx.getD i 0 = idx) (hd : decode cc pc = .ok (.ldc idx, 2)) (h : PS M (pc + 2) lv (.ref (200 + i) :: st) σ kn) : PS M pc lv st σ kn := by
  obtain ⟨p, l, e, R, s, m, args, below, meth, c, V, nL, Q⟩ := M
  intro ls H locs hl hG hS
  obtain ⟨hx, hb, hml, hown, hts, hr, hlk, hK, rfl, rfl, hw, hX⟩ := C
  have hSX := (hX.2.2 s hX.1).2
  have h1 := hSX.2.1 i hi
  rw [he] at h1
  exact va_ldcS hx hb hown h1 hd (h ls H locs hl hG hS)
theorem P_sval (C : Cx M cc ret own Ts rm mc ms Qc) {i : Nat} (hi : i < 8) (hlk : Cond.fieldLink own idx "java/lang/String" "value" "[B" ∈ Ts) (hd : decode cc pc = .ok (.getfield idx, 3)) (h : PS M (pc + 3) lv (.ref (300 + i) :: st) σ kn) : PS M pc lv (.ref (200 + i) :: st) σ kn := by
  obtain ⟨p, l, e, R, s, m, args, below, meth, c, V, nL, Q⟩ := M
  intro ls H locs hl hG hS
  have hk := hlk
  obtain ⟨hx, hb, hml, hown, hts, hr, hlk, hK, rfl, rfl, hw, hX⟩ := C
  have hSX := (hX.2.2 s hX.1).2
  exact vk_getf hx hb (hSX.1.1 i hi).2.2.1 hS hown (hts _ hk) (fun _ h => h) hd (h ls H locs hl hG hS)
theorem P_scod (C : Cx M cc ret own Ts rm mc ms Qc) {i : Nat} (hi : i < 8) (hlk : Cond.fieldLink own idx "java/lang/String" "coder" "B" ∈ Ts) (hd : decode cc pc = .ok (.getfield idx, 3)) (h : PS M (pc + 3) lv (.int 0 :: st) σ kn) : PS M pc lv (.ref (200 + i) :: st) σ kn := by
  obtain ⟨p, l, e, R, s, m, args, below, meth, c, V, nL, Q⟩ := M
  intro ls H locs hl hG hS
  have hk := hlk
  obtain ⟨hx, hb, hml, hown, hts, hr, hlk, hK, rfl, rfl, hw, hX⟩ := C
  have hSX := (hX.2.2 s hX.1).2
  exact vk_getf hx hb (hSX.1.1 i hi).2.1 hS hown (hts _ hk) (fun _ h => h) hd (h ls H locs hl hG hS)
theorem P_gstZ (C : Cx M cc ret own Ts rm mc ms Qc) (hlk : Cond.fieldLink own idx "java/lang/String" "COMPACT_STRINGS" "Z" ∈ Ts) (hd : decode cc pc = .ok (.getstatic idx, 3)) (h : PS M (pc + 3) lv (.int 1 :: st) σ kn) : PS M pc lv st σ kn := by
  obtain ⟨p, l, e, R, s, m, args, below, meth, c, V, nL, Q⟩ := M
  intro ls H locs hl hG hS
  have hk := hlk
  obtain ⟨hx, hb, hml, hown, hts, hr, hlk, hK, rfl, rfl, hw, hX⟩ := C
  have hSX := (hX.2.2 s hX.1).2
  exact va_gets hx hb hSX.2.2.1 hS hown (hts _ hk) (fun _ h => h) hd (h ls H locs hl hG hS)
theorem P_gstQ (C : Cx M cc ret own Ts rm mc ms Qc) (hlk : Cond.fieldLink own idx "jdk/internal/util/Preconditions" "SIOOBE_FORMATTER" "Ljava/util/function/BiFunction;" ∈ Ts) (hd : decode cc pc = .ok (.getstatic idx, 3)) (h : ∀ w : Value, (w = .null ∨ w = .ref 400) → PS M (pc + 3) lv (w :: st) σ kn) : PS M pc lv st σ kn := by
  obtain ⟨p, l, e, R, s, m, args, below, meth, c, V, nL, Q⟩ := M
  intro ls H locs hl hG hS
  have hk := hlk
  obtain ⟨hx, hb, hml, hown, hts, hr, hlk, hK, rfl, rfl, hw, hX⟩ := C
  have hSX := (hX.2.2 s hX.1).2
  rcases hSX.2.2.2 with hz | hz
  · exact va_gets hx hb hz hS hown (hts _ hk) (fun _ h => h) hd (h .null (Or.inl rfl) ls H locs hl hG hS)
  · exact va_gets hx hb hz hS hown (hts _ hk) (fun _ h => h) hd (h (.ref 400) (Or.inr rfl) ls H locs hl hG hS)
theorem P_slen (C : Cx M cc ret own Ts rm mc ms Qc) {i : Nat} (hi : i < 8) (hd : decode cc pc = .ok (.arraylength, 1)) (h : PS M (pc + 1) lv (.int (nI (slen i)) :: st) σ kn) : PS M pc lv (.ref (300 + i) :: st) σ kn := by
  obtain ⟨p, l, e, R, s, m, args, below, meth, c, V, nL, Q⟩ := M
  intro ls H locs hl hG hS
  obtain ⟨hx, hb, hml, hown, hts, hr, hlk, hK, rfl, rfl, hw, hX⟩ := C
  have hSX := (hX.2.2 s hX.1).2
  exact va_tlen hx hb (hSX.1.1 i hi).2.2.2 hS (v := nI (slen i)) rfl hd (h ls H locs hl hG hS)
theorem P_sald (C : Cx M cc ret own Ts rm mc ms Qc) {i : Nat} {k : Int32} (hi : i < 8) (hv : vp_in k (slen i)) (hd : decode cc pc = .ok (.baload, 1)) (h : PS M (pc + 1) lv (.int (sby i k.toNatClampNeg) :: st) σ kn) : PS M pc lv (.int k :: .ref (300 + i) :: st) σ kn := by
  obtain ⟨p, l, e, R, s, m, args, below, meth, c, V, nL, Q⟩ := M
  intro ls H locs hl hG hS
  obtain ⟨hx, hb, hml, hown, hts, hr, hlk, hK, rfl, rfl, hw, hX⟩ := C
  have hSX := (hX.2.2 s hX.1).2
  exact va_tb hx hb (hSX.1.1 i hi).2.2.2 hS hv (v := .int (sby i k.toNatClampNeg)) rfl hd (h ls H locs hl hG hS)
theorem R_vs (C : Cx M cc ret own Ts rm mc ms Qc) {i : Nat} (k : KV own Ts rm idx "java/lang/String" y ws rc n) (hn : As.length = n) (hi : i < 8) (hst : (st.map fun v => v.category).sum ≤ 8) (hd : decode cc pc = .ok (.invokevirtual idx, 3)) (hf : kn.1 + rc.cells ≤ rm.cells ∧ kn.2 + rc.slots ≤ rm.slots)
    (hM : Ka (mL M) (mV M) y ws rc rc.cells rc.slots (.ref (200 + i) :: As) σ Qm) : RS M pc lv (As.reverse ++ .ref (200 + i) :: st) st σ kn rc.cells rc.slots (Qm ((.ref (200 + i) :: As).map (cv (mV M))).toArray) := by
  obtain ⟨p, l, e, R, s, m, args, below, meth, c, V, nL, Q⟩ := M
  intro ls H locs hl hG hS
  obtain ⟨hx, hb, hml, hown, hts, hr, hlk, hK, rfl, rfl, hw, hX⟩ := C
  obtain ⟨bytes, maxL, rt, ws', k1, k2, k3, k4⟩ := k
  have hSX := (hX.2.2 s hX.1).2
  rw [map_stk]
  exact va_runV (As := As.map (cv V)) (b := va V (200 + i)) ⟨hx, hb, hml, hown, hts⟩ hM (cwV n hts k1 k2 rfl rfl k3 k4) ⟨GGblind, vk_recv (adK := fun i => va V (200 + i)) (i := i) hSX.1 hi hS, fun U hU hW => ⟨rfl, GG_mk hU hG hK hX hS hW⟩⟩ rfl (by rw [List.length_map]; exact hn) hl.1 rfl (cat_sum hst) hd hf
end Rules4
noncomputable def K_J0_checkIndex_df160 (l : Launch) (V : Vx) (i n : Int32) (σ : Sg) (Qk : Sg → Prop) : Prop := Ka l V yJ0_checkIndex_df160 wsJ0_checkIndex_df160 (rmz 1) 0 0 [.int i, .int n] σ (QV V Qk)
set_option maxHeartbeats 4000000 in
theorem k_J3_checkIndex {l : Launch} {V : Vx} {i n : Int32} {w : Value} (hw : w = .null ∨ w = .ref 400) {σ : Sg} {Qk : Int32 → Sg → Prop} (h0 : ¬ i < 0) (h1 : i < n) (h : Qk i σ) : Ka l V yJ3_checkIndex_8e157 wsJ3_checkIndex_8e157 (rmz 0) 0 0 [.int i, .int n, w] σ (QI V Qk) := by
  rcases hw with rfl | rfl
  all_goals
    refine Ka_of (own := RJ3) (by decide +kernel) rfl rfl (Nat.le_of_ble_eq_true rfl) (fun M hl hV hN C => ?_)
    subst hV
    refine P_iload_n C dJ3_checkIndex_8e157_0 0 rfl ?_
    refine P_if_lt C dJ3_checkIndex_8e157_1 (tgt := 9) (by decide +kernel) (fun q => absurd q h0) (fun _ => ?_)
    refine P_iload_n C dJ3_checkIndex_8e157_4 0 rfl ?_
    refine P_iload_n C dJ3_checkIndex_8e157_5 1 rfl ?_
    refine P_icmp_lt C dJ3_checkIndex_8e157_6 (tgt := 16) (by decide +kernel) (fun _ => ?_) (fun q => absurd h1 q)
    refine P_iload_n C dJ3_checkIndex_8e157_16 0 rfl ?_
    exact P_iret C dJ3_checkIndex_8e157_17 h
theorem kf_J0_checkIndex : KF RJ0 wsJ0_checkIndex_df160 (rmz 1) 1059 yJ3_checkIndex_8e157 wsJ3_checkIndex_8e157 (rmz 0) 3 := ⟨_, _, _, _, gJ0_checkIndex_df160_J3_checkIndex_8e157, rfl, by decide +kernel, by decide +kernel⟩
set_option maxHeartbeats 4000000 in
theorem k_J0_checkIndex {l : Launch} {V : Vx} {i n : Int32} {σ : Sg} {Qk : Sg → Prop} (h0 : ¬ i < 0) (h1 : i < n) (h : Qk σ) : K_J0_checkIndex_df160 l V i n σ Qk := by
  refine Ka_of (own := RJ0) (by decide +kernel) rfl rfl (Nat.le_of_ble_eq_true rfl) (fun M hl hV hN C => ?_)
  subst hl
  subst hV
  refine P_iload_n C dJ0_checkIndex_df160_0 0 rfl ?_
  refine P_iload_n C dJ0_checkIndex_df160_1 1 rfl ?_
  refine P_gstQ C (List.mem_of_getElem? (i := 1) rfl) dJ0_checkIndex_df160_2 (fun w hw => ?_)
  refine P_ci (R_f C kf_J0_checkIndex (As := [.int i, .int n, w]) rfl (Nat.le_of_ble_eq_true rfl) dJ0_checkIndex_df160_5 ⟨Nat.le_refl _, Nat.le_refl _⟩ (k_J3_checkIndex (Qk := fun r s => r = i ∧ s = σ) hw h0 h1 ⟨rfl, rfl⟩)) (fun r s hq => ?_)
  obtain ⟨rfl, rfl⟩ := hq
  refine P_pop C dJ0_checkIndex_df160_8 rfl ?_
  exact P_vret C dJ0_checkIndex_df160_9 h

