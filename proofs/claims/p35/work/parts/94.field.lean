theorem fa_X11_field_34 : FA RX11 wsX11_field 34 11 5 "NineMowers" := by
  show _ ∧ _ ∧ _ ∧ _
  exact ⟨by decide, fun _ h => List.mem_cons_of_mem _ (List.mem_append_left _ (List.mem_append_left _ (List.mem_append_right _ h))), List.mem_of_getElem? (i := 1) rfl, Or.inl rfl⟩
theorem fa_X11_field_30 : FA RX11 wsX11_field 30 11 4 "NineMowers" := by
  show _ ∧ _ ∧ _ ∧ _
  exact ⟨by decide, fun _ h => List.mem_cons_of_mem _ (List.mem_append_left _ (List.mem_append_left _ (List.mem_append_right _ h))), List.mem_of_getElem? (i := 2) rfl, Or.inl rfl⟩
theorem fa_X11_field_38 : FA RX11 wsX11_field 38 11 6 "NineMowers" := by
  show _ ∧ _ ∧ _ ∧ _
  exact ⟨by decide, fun _ h => List.mem_cons_of_mem _ (List.mem_append_left _ (List.mem_append_left _ (List.mem_append_right _ h))), List.mem_of_getElem? (i := 6) rfl, Or.inl rfl⟩
theorem fa_X11_field_42 : FA RX11 wsX11_field 42 11 7 "NineMowers" := by
  show _ ∧ _ ∧ _ ∧ _
  exact ⟨by decide, fun _ h => List.mem_cons_of_mem _ (List.mem_append_left _ (List.mem_append_left _ (List.mem_append_right _ h))), List.mem_of_getElem? (i := 7) rfl, Or.inl rfl⟩
theorem fa_X11_field_12 : FA RX11 wsX11_field 12 11 0 "NineMowers" := by
  show _ ∧ _ ∧ _ ∧ _
  exact ⟨by decide, fun _ h => List.mem_cons_of_mem _ (List.mem_append_left _ (List.mem_append_left _ (List.mem_append_right _ h))), List.mem_of_getElem? (i := 8) rfl, Or.inl rfl⟩
theorem pa_X11_field_42 : PA RX11 wsX11_field 42 11 7 "NineMowers" .int := by
  show _ ∧ _ ∧ _ ∧ _ ∧ _ ∧ _ ∧ _ ∧ _
  exact ⟨by decide, fun _ h => List.mem_cons_of_mem _ (List.mem_append_left _ (List.mem_append_left _ (List.mem_append_right _ h))), List.mem_of_getElem? (i := 7) rfl, rfl, rfl, by decide +kernel, ⟨tyX11, tyX11_ok⟩, nmX11⟩
theorem pa_X11_field_34 : PA RX11 wsX11_field 34 11 5 "NineMowers" .int := by
  show _ ∧ _ ∧ _ ∧ _ ∧ _ ∧ _ ∧ _ ∧ _
  exact ⟨by decide, fun _ h => List.mem_cons_of_mem _ (List.mem_append_left _ (List.mem_append_left _ (List.mem_append_right _ h))), List.mem_of_getElem? (i := 1) rfl, rfl, rfl, by decide +kernel, ⟨tyX11, tyX11_ok⟩, nmX11⟩
theorem pa_X11_field_71 : PA RX11 wsX11_field 71 1 10 "NineMowers$Course" (.object "NineMowers$Field") := by
  show _ ∧ _ ∧ _ ∧ _ ∧ _ ∧ _ ∧ _ ∧ _
  exact ⟨by decide, fun _ h => List.mem_cons_of_mem _ (List.mem_append_right _ h), List.mem_of_getElem? (i := 9) rfl, rfl, rfl, by decide +kernel, ⟨tyX1, tyX1_ok⟩, nmX1⟩
theorem kin_X11_field : KIN wsX11_field (rmr 24 5 142) yX2_init wsX2_init (rmr 1 4 130) 0 := ⟨_, _, _, gX11_field_X2_init_n70, rfl, (List.mem_of_getElem? (i := 5) rfl), (List.mem_of_getElem? (i := 10) rfl), rfl, by decide +kernel, Nat.le_of_ble_eq_true rfl, Nat.le_of_ble_eq_true rfl⟩
theorem kv_X11_field_reads : KV RX11 wsX11_field (rmr 24 5 142) 157 RX2 yX2_reads wsX2_reads (rmz 22) 2 := ⟨_, _, _, _, gX11_field_X2_reads, rfl, by decide +kernel, by decide⟩
theorem kv_X11_field_fault : KV RX11 wsX11_field (rmr 24 5 142) 161 RX2 yX2_fault wsX2_fault (rmz 0) 0 := ⟨_, _, _, _, gX11_field_X2_fault, rfl, by decide +kernel, by decide⟩
theorem ws2_X11_field : ∀ w ∈ u_ws RX2 TX2 12, w ∈ wsX11_field := fun _ h => List.mem_cons_of_mem _ (List.mem_append_left _ (List.mem_append_right _ h))
theorem cl_X11_field : Cond.classLink RX11 28 RX2 ∈ wsX11_field := (List.mem_of_getElem? (i := 3) rfl)
theorem il_X11_field : Cond.instantiable RX2 12 ∈ wsX11_field := (List.mem_of_getElem? (i := 4) rfl)
theorem nl_X11_field : Cond.initialized RX2 ∈ wsX11_field := (List.mem_of_getElem? (i := 5) rfl)
/-- rows of fields are there only where a field stands -/
noncomputable def FI (V : Vx) (σ : Sg) : Prop := ∀ k, k < 6 → gr σ 49 k = none → ∀ r, r < 5 → 1000 + 5 * k + r ∉ ids V
theorem lim_0_5 : lim 0 5 = some (0, 6) := rfl
theorem lim_0_7 : lim 0 7 = some (0, 100) := rfl
set_option maxRecDepth 100000 in
set_option maxHeartbeats 4000000 in
theorem fld_rest {M : Mx} {V0 : Vx} {Qk : Int32 → Vx → Sg → Prop} (C : Cx M cX11_field (some .int) RX11 wsX11_field (rmr 24 5 142) 5 142 (QIW V0 Qk)) (hN : mN M = 3) (hA : vA (mV M) = vA V0) {f : Nat} {σ : Sg} {kn : Nat × Nat} (x : XI (mV M) σ) (hc : (gi σ 0 5).toInt ≤ 5) (hr : gr σ 49 (gi σ 0 5).toNatClampNeg = some f) (hk1 : kn.1 ≤ 5) (hk2 : kn.2 ≤ 142)
    (h9 : ∀ (r : Int32) (σ' : Sg), XI (mV M) σ' → FX (fun id => id = f ∨ id = f + 1 ∨ id = f + 2 ∨ id = f + 3 ∨ id = f + 4) (fun id k => (id = 0 ∧ (k = 5 ∨ k = 7)) ∨ (id = 1 ∧ k = 10)) σ σ' → Qk r (mV M) σ') : PS M 40 [(0, .ref 0)] [] σ kn := by
  have b5 := XI_c1 x lim_0_5
  have b7 := XI_c1 x lim_0_7
  have hv : vp_in (gi σ 0 5) 6 := vp_in_iff.mpr ⟨b5.1, by omega⟩
  obtain ⟨hkf, hlf⟩ := x.2.2.1 _ f hr
  have hge := kdF_ge hkf
  refine P_aload_n C dX11_field_40 0 rfl ?_
  refine P_getS C (e := 49) fa_X11_field_30 kd_0 (d := 49) rfl (fxl fx_0) rfl dX11_field_41 ?_
  refine P_aload_n C dX11_field_44 0 rfl ?_
  refine P_getI C fa_X11_field_34 kd_0 rfl (fxl fx_0) dX11_field_45 ?_
  refine P_aldD C kd_49 (Or.inr rfl) (fxl fx_49) hv hr dX11_field_48 ?_
  refine P_astore_n C dX11_field_49 (by rw [hN]; decide) rfl ?_
  refine P_aload_n C dX11_field_50 0 rfl ?_
  refine P_aload_n C dX11_field_51 1 rfl ?_
  refine P_getS C (e := 50) fa_X11_field_38 kd_0 (d := 50) rfl (fxl fx_0) rfl dX11_field_52 ?_
  refine P_aload_n C dX11_field_55 1 rfl ?_
  refine P_getI C fa_X11_field_42 kd_0 rfl (fxl fx_0) dX11_field_56 ?_
  refine P_ci (R_v (ci := 2) C kv_X11_field_reads (As := [.ref 50, .int (gi σ 0 7)]) rfl hkf rfl hlf (Nat.le_of_ble_eq_true rfl) dX11_field_59 ⟨by show kn.1 + 0 ≤ 5; omega, by show kn.2 + 0 ≤ 142; omega⟩ (k_X2_reads (Qk := fun r σ2 => XI (mV M) σ2 ∧ FX (fun id => id = f + 1 ∨ id = f + 2 ∨ id = f + 3 ∨ id = f + 4) (fun id k => (id = f ∧ k = 0) ∨ (id = f ∧ k = 1) ∨ (id = f ∧ k = 2) ∨ (id = f ∧ k = 4) ∨ (id = f ∧ k = 8) ∨ (id = f ∧ k = 9) ∨ (id = f ∧ k = 10) ∨ (id = f ∧ k = 11)) σ σ2) hkf hlf kd_50 (fxl fx_50) x b7.1 b7.2 rfl rfl (fun r σ' y1 y2 _ _ => ⟨y1, y2⟩))) (fun r σ2 h => ?_)
  obtain ⟨x2, f2⟩ := h
  have f2' : FX (fun id => id = f ∨ id = f + 1 ∨ id = f + 2 ∨ id = f + 3 ∨ id = f + 4) (fun id k => (id = 0 ∧ (k = 5 ∨ k = 7)) ∨ (id = 1 ∧ k = 10)) σ σ2 := FX_tr FX_rf f2 (fun id hi => by
    rcases hi with hi | hi | hi | hi
    · exact Or.inr (Or.inl hi)
    · exact Or.inr (Or.inr (Or.inl hi))
    · exact Or.inr (Or.inr (Or.inr (Or.inl hi)))
    · exact Or.inr (Or.inr (Or.inr (Or.inr hi)))) (fun id k hi => Or.inl (Or.inl (by rcases hi with ⟨h, -⟩ | ⟨h, -⟩ | ⟨h, -⟩ | ⟨h, -⟩ | ⟨h, -⟩ | ⟨h, -⟩ | ⟨h, -⟩ | ⟨h, -⟩ <;> exact h)))
  refine P_istore_n C dX11_field_62 (by rw [hN]; decide) rfl ?_
  refine P_aload_n C dX11_field_63 2 rfl ?_
  refine P_iconst C dX11_field_64 (v := (0 : Int32)) rfl ?_
  refine P_putI C pa_X11_field_42 kd_0 rfl (fxl fx_0) dX11_field_65 ?_
  obtain ⟨σ3, e3⟩ : ∃ σ3, σ3 = si σ2 0 7 (0 : Int32) := ⟨_, rfl⟩
  rw [← e3]
  have x3 : XI (mV M) σ3 := by rw [e3]; exact XIs_b x2 lim_0_7 (by decide) (by decide)
  have f3 : FX (fun id => id = f ∨ id = f + 1 ∨ id = f + 2 ∨ id = f + 3 ∨ id = f + 4) (fun id k => (id = 0 ∧ (k = 5 ∨ k = 7)) ∨ (id = 1 ∧ k = 10)) σ σ3 := by rw [e3]; exact FX_si f2' (Or.inr (Or.inl ⟨rfl, Or.inr rfl⟩))
  have g5 : gi σ3 0 5 = gi σ 0 5 := by
    rw [e3, gi_si_ne (Or.inr (by decide))]
    exact f2.1 0 5 (by omega) (by omega)
  refine P_iload_n C dX11_field_68 0 rfl ?_
  refine P_if_ne C dX11_field_69 (tgt := 80) (by decide) (fun _ => ?_) (fun _ => ?_)
  · refine P_aload_n C dX11_field_80 2 rfl ?_
    refine P_getS C (e := 1) fa_X11_field_12 kd_0 (d := 1) rfl (fxl fx_0) rfl dX11_field_81 ?_
    refine P_aload_n C dX11_field_84 1 rfl ?_
    refine P_putD C pa_X11_field_71 kd_1 rfl (fxl fx_1) (fun _ => rfl) (fun _ => rfl) dX11_field_85 ?_
    obtain ⟨σ4, e4⟩ : ∃ σ4, σ4 = sr σ3 1 10 (some f) := ⟨_, rfl⟩
    rw [← e4]
    have x4 : XI (mV M) σ4 := by
      rw [e4]
      refine XIs_r x3 (fun c hc e _ => ⟨f, rfl, hkf, hlf⟩) (fun c hc e => ?_) (fun e => by omega) (fun e => ?_)
      · exfalso; rcases hc with rfl | rfl | rfl <;> omega
      · rw [kd_1] at e; cases e
    have f4 : FX (fun id => id = f ∨ id = f + 1 ∨ id = f + 2 ∨ id = f + 3 ∨ id = f + 4) (fun id k => (id = 0 ∧ (k = 5 ∨ k = 7)) ∨ (id = 1 ∧ k = 10)) σ σ4 := by rw [e4]; exact FX_sr f3 (Or.inr (Or.inr ⟨rfl, rfl⟩))
    refine P_aload_n C dX11_field_88 2 rfl ?_
    refine P_dup C dX11_field_89 rfl ?_
    refine P_getI C fa_X11_field_34 kd_0 rfl (fxl fx_0) dX11_field_90 ?_
    refine P_iconst C dX11_field_93 (v := (1 : Int32)) rfl ?_
    refine P_iadd C dX11_field_94 ?_
    refine P_putI C pa_X11_field_34 kd_0 rfl (fxl fx_0) dX11_field_95 ?_
    have g4 : gi σ4 0 5 = gi σ 0 5 := by rw [e4, gi_sr]; exact g5
    have s5 : ((gi σ4 0 5) + (1 : Int32)).toInt = (gi σ 0 5).toInt + 1 := by rw [g4]; exact i_add (y := (1 : Int32)) (by show _ ≤ (gi σ 0 5).toInt + 1; omega) (by show (gi σ 0 5).toInt + 1 ≤ _; omega)
    obtain ⟨σ5, e5⟩ : ∃ σ5, σ5 = si σ4 0 5 ((gi σ4 0 5) + (1 : Int32)) := ⟨_, rfl⟩
    rw [← e5]
    have x5 : XI (mV M) σ5 := by rw [e5]; exact XIs_b x4 lim_0_5 (by omega) (by omega)
    have f5 : FX (fun id => id = f ∨ id = f + 1 ∨ id = f + 2 ∨ id = f + 3 ∨ id = f + 4) (fun id k => (id = 0 ∧ (k = 5 ∨ k = 7)) ∨ (id = 1 ∧ k = 10)) σ σ5 := by rw [e5]; exact FX_si f4 (Or.inr (Or.inl ⟨rfl, Or.inl rfl⟩))
    refine P_aload_n C dX11_field_98 2 rfl ?_
    refine P_getI C fa_X11_field_34 kd_0 rfl (fxl fx_0) dX11_field_99 ?_
    refine P_iconst C dX11_field_102 (v := (1 : Int32)) rfl ?_
    refine P_isub C dX11_field_103 ?_
    exact P_iretW C hA (by show kn.1 + 0 ≤ 5; omega) (by show kn.2 + 0 ≤ 142; omega) dX11_field_104 (h9 _ _ x5 f5)
  · refine P_bipush C dX11_field_72 (v := (-10 : Int32)) rfl ?_
    refine P_aload_n C dX11_field_74 1 rfl ?_
    refine P_ci (R_v (ci := 2) C kv_X11_field_fault (As := []) rfl hkf rfl hlf (Nat.le_of_ble_eq_true rfl) dX11_field_75 ⟨by show kn.1 + 0 + 0 ≤ 5; omega, by show kn.2 + 0 + 0 ≤ 142; omega⟩ (k_X2_fault (Qk := fun r σ4 => σ3 = σ4) hkf hlf x3 (fun r σ' y1 y2 => FX_nil y2))) (fun r2 σ4 h => ?_)
    subst h
    refine P_isub C dX11_field_78 ?_
    exact P_iretW C hA (by show kn.1 + 0 + 0 ≤ 5; omega) (by show kn.2 + 0 + 0 ≤ 142; omega) dX11_field_79 (h9 _ _ x3 f3)
noncomputable abbrev SFd : Nat → Prop := fun id => (69 ≤ id ∧ id < 74) ∨ (1000 ≤ id ∧ id < 2000)
noncomputable abbrev FFd : Nat → Nat → Prop := fun id k => (id = 0 ∧ (k = 5 ∨ k = 7)) ∨ (id = 1 ∧ k = 10) ∨ id = 49
noncomputable def K_X11_field (l : Launch) (V : Vx) (σ : Sg) (Qk : Int32 → Vx → Sg → Prop) : Prop := KaN l V yX11_field wsX11_field (rmr 24 5 142) 5 142 [.ref 0] σ (QIW V Qk)
set_option maxRecDepth 100000 in
set_option maxHeartbeats 4000000 in
theorem k_X11_field {l : Launch} {V : Vx} {σ0 : Sg} {Qk : Int32 → Vx → Sg → Prop} (hU : UPV V) (hw : wfd V) (m0 : XI V σ0) (fi : FI V σ0)
    (h9 : ∀ (r : Int32) (V' : Vx) (σ' : Sg), VR V V' → (∀ id ∈ ids V', id ∈ ids V ∨ (1000 ≤ id ∧ id < 2000)) → wfd V' → FI V' σ' → XI V' σ' → FX SFd FFd σ0 σ' → Qk r V' σ') : K_X11_field l V σ0 Qk := by
  refine KaN_of (by decide +kernel) rfl rfl (Nat.le_of_ble_eq_true rfl) (fun M hl hV hN C hNW => ?_)
  subst hl
  subst hV
  have b5 := XI_c1 m0 lim_0_5
  show PS M 0 [(0, .ref 0)] [] σ0 (0, 0)
  refine P_aload_n C dX11_field_0 0 rfl ?_
  refine P_getI C fa_X11_field_34 kd_0 rfl (fxl fx_0) dX11_field_1 ?_
  refine P_bipush C dX11_field_4 (v := (6 : Int32)) rfl ?_
  refine P_icmp_lt C dX11_field_6 (tgt := 12) (by decide) (fun q => ?_) (fun _ => P_bipush C dX11_field_9 (v := (-4 : Int32)) rfl (P_iretW C rfl (Nat.zero_le _) (Nat.zero_le _) dX11_field_11 (h9 _ _ _ VR_rf (fun _ h => Or.inl h) hw fi m0 FX_rf)))
  have q5 : (gi σ0 0 5).toInt < 6 := Int32.lt_iff_toInt_lt.mp q
  have hv : vp_in (gi σ0 0 5) 6 := vp_in_iff.mpr ⟨b5.1, by omega⟩
  have ec := cl_eq b5.1
  refine P_aload_n C dX11_field_12 0 rfl ?_
  refine P_getS C (e := 49) fa_X11_field_30 kd_0 (d := 49) rfl (fxl fx_0) rfl dX11_field_13 ?_
  refine P_aload_n C dX11_field_16 0 rfl ?_
  refine P_getI C fa_X11_field_34 kd_0 rfl (fxl fx_0) dX11_field_17 ?_
  cases hr : gr σ0 49 (gi σ0 0 5).toNatClampNeg with
  | some f =>
    obtain ⟨hkf, hlf⟩ := m0.2.2.1 _ f hr
    have hge := kdF_ge hkf
    refine P_aldD C kd_49 (Or.inr rfl) (fxl fx_49) hv hr dX11_field_20 ?_
    refine P_ifnonnull C dX11_field_21 (tgt := 40) (by decide) ?_
    refine fld_rest C hN rfl m0 (by omega) hr (Nat.zero_le _) (Nat.zero_le _) (fun r σ' y1 y2 => h9 r _ σ' VR_rf (fun _ h => Or.inl h) hw (fun k hk hn => ?_) y1 (FX_tr FX_rf y2 (fun id hi => ?_) (fun id k hi => Or.inr ?_)))
    · rw [y2.2.2 49 k (by omega) (by omega)] at hn
      exact fi k hk hn
    · show (69 ≤ id ∧ id < 74) ∨ (1000 ≤ id ∧ id < 2000)
      omega
    · rcases hi with hi | hi
      · exact Or.inl hi
      · exact Or.inr (Or.inl hi)
  | none =>
    refine P_aldN C kd_49 (Or.inr rfl) (fxl fx_49) hv hr dX11_field_20 ?_
    refine P_ifnonnullN C dX11_field_21 ?_
    refine P_aload_n C dX11_field_24 0 rfl ?_
    refine P_getS C (e := 49) fa_X11_field_30 kd_0 (d := 49) rfl (fxl fx_0) rfl dX11_field_25 ?_
    refine P_aload_n C dX11_field_28 0 rfl ?_
    refine P_getI C fa_X11_field_34 kd_0 rfl (fxl fx_0) dX11_field_29 ?_
    refine P_newF (k9 := (gi σ0 0 5).toNatClampNeg) C hU hNW m0 (by omega) (fi _ (by omega) hr) ws2_X11_field cl_X11_field il_X11_field nl_X11_field kin_X11_field rfl rfl (Nat.le_of_ble_eq_true rfl) dX11_field_32 dX11_field_35 dX11_field_36 ⟨Nat.le_of_ble_eq_true rfl, Nat.le_of_ble_eq_true rfl⟩ (fun a h => ?_) (fun a h => ?_) (fun q0 q1 q2 q3 q4 hvr hwf => ?_)
    · have h : a = 0 := by simpa using h
      subst h; exact fxl fx_0
    · have h : a = 49 := by simpa using h
      subst h; exact fxl fx_49
    obtain ⟨f, ef⟩ : ∃ f, f = 1000 + 5 * (gi σ0 0 5).toNatClampNeg := ⟨_, rfl⟩
    have hkf : kd f = (12, 0) := by rw [ef]; exact kd_f (by omega)
    have hfr := fi _ (by omega) hr
    rw [← ef] at hvr hwf hfr ⊢
    have C' := Cx_vr C hvr hwf
    have eV : mV (mset M (vext (mV M) (fL f q0 q1 q2 q3 q4))) = vext (mV M) (fL f q0 q1 q2 q3 q4) := mset_V
    have hin : f ∈ ids (vext (mV M) (fL f q0 q1 q2 q3 q4)) := by rw [vext_ids]; exact List.mem_append_right _ (by simp [fL])
    have x1 : XI (vext (mV M) (fL f q0 q1 q2 q3 q4)) (fnew σ0 f) := XI_vr hvr (XI_f m0 hkf (by omega))
    refine P_astF C' kd_49 (fxl fx_49) hv hkf (by rw [eV]; exact hin) dX11_field_39 ?_
    obtain ⟨σ2, e2⟩ : ∃ σ2, σ2 = sr (fnew σ0 f) 49 (gi σ0 0 5).toNatClampNeg (some f) := ⟨_, rfl⟩
    rw [← e2]
    have x2 : XI (vext (mV M) (fL f q0 q1 q2 q3 q4)) σ2 := by
      rw [e2]
      refine XIs_r x1 (fun c hc e _ => ?_) (fun c hc e => ?_) (fun _ g hg => ?_) (fun e => ?_)
      · exfalso; rcases hc with rfl | rfl | rfl <;> omega
      · exfalso; rcases hc with rfl | rfl | rfl <;> omega
      · obtain rfl : f = g := Option.some.inj hg
        exact ⟨hkf, hin⟩
      · rw [kd_49] at e; cases e
    have g5 : gi σ2 0 5 = gi σ0 0 5 := by rw [e2, gi_sr]; exact fn_i (by omega)
    have hr2 : gr σ2 49 (gi σ2 0 5).toNatClampNeg = some f := by rw [g5, e2, gr_sr, if_pos ⟨rfl, rfl⟩]
    have hold : ∀ k, k ≠ (gi σ0 0 5).toNatClampNeg → gr σ2 49 k = gr σ0 49 k := fun k hk => by
      rw [e2, gr_sr, if_neg (fun z => hk z.2), fn_r, if_neg (by omega)]
    have f2 : FX SFd FFd σ0 σ2 := by
      refine ⟨fun id k n1 n2 => ?_, fun id k n1 => ?_, fun id k n1 n2 => ?_⟩
      · rw [e2, gi_sr]; exact fn_i (fun z => n1 (Or.inr (by omega)))
      · rw [e2]; rfl
      · rw [e2, gr_sr, if_neg (fun z => n2 (Or.inr (Or.inr z.1))), fn_r, if_neg (fun z => n1 (Or.inr (by omega)))]
    refine fld_rest (V0 := mV M) C' (by rw [mset_N]; exact hN) (by rw [eV]; rfl) (by rw [eV]; exact x2) (by rw [g5]; omega) hr2 (Nat.le_of_ble_eq_true rfl) (Nat.le_of_ble_eq_true rfl) (fun r σ' y1 y2 => ?_)
    rw [eV] at y1 ⊢
    refine h9 r _ σ' hvr (fun id hi => ?_) hwf (fun k hk hn j hj => ?_) y1 (FX_tr f2 y2 (fun id hi => ?_) (fun id k hi => Or.inr ?_))
    · rw [vext_ids] at hi
      rcases List.mem_append.mp hi with hi | hi
      · exact Or.inl hi
      · have hi : id = f ∨ id = f + 1 ∨ id = f + 2 ∨ id = f + 3 ∨ id = f + 4 := by simpa [fL] using hi
        exact Or.inr (by omega)
    · rw [y2.2.2 49 k (by omega) (by omega)] at hn
      by_cases hkk : k = (gi σ0 0 5).toNatClampNeg
      · rw [hkk, ← g5, hr2] at hn; cases hn
      · rw [hold k hkk] at hn
        rw [vext_ids]
        intro z
        rcases List.mem_append.mp z with z | z
        · exact fi k hk hn j hj z
        · have z : 1000 + 5 * k + j = f ∨ 1000 + 5 * k + j = f + 1 ∨ 1000 + 5 * k + j = f + 2 ∨ 1000 + 5 * k + j = f + 3 ∨ 1000 + 5 * k + j = f + 4 := by simpa [fL] using z
          omega
    · show (69 ≤ id ∧ id < 74) ∨ (1000 ≤ id ∧ id < 2000)
      omega
    · rcases hi with hi | hi
      · exact Or.inl hi
      · exact Or.inr (Or.inl hi)
