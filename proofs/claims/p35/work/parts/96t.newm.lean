/-! the class's mower, with all that it makes -/
noncomputable def NEWM (V : Vx) (a1 a2 : Int32) (σ σ' : Sg) : Prop := σ' = σ ∨ ∃ μ : Nat, 2000 ≤ μ ∧ μ ∉ ids V ∧ kd μ = (10 + kci a1, 0) ∧ gi σ' μ 0 = a1 ∧ gi σ' μ 1 = gi σ 1 1 ∧ gi σ' μ 2 = a2 ∧ (gi σ' 1 1).toInt = (gi σ 1 1).toInt + 1 ∧ (∀ k, gr σ' 2 k = if k = (gi σ 1 1).toNatClampNeg then some μ else gr σ 2 k) ∧ (∀ k, gi σ' 3 k = if k = (gi σ 1 1).toNatClampNeg then gi σ 1 1 else gi σ 3 k) ∧ (∀ k, gi σ' 5 k = if k = (gi σ 1 1).toNatClampNeg then (10 : Int32) else gi σ 5 k) ∧ ∀ id k, id ≠ μ → 2000 ≤ id → gi σ' id k = gi σ id k
set_option maxRecDepth 100000 in
set_option maxHeartbeats 4000000 in
theorem kn_X1_comes {l : Launch} {V : Vx} {c0 a1 : Nat} {σ0 : Sg} {Qk : Int32 → Sg → Prop} (hc0 : isC c0) {ci1 : Nat} (sa1 : isMc ci1) (ha1 : kd a1 = (10 + ci1, 0)) (la1 : a1 ∈ ids V) (m0 : XI V σ0) (n0 : NN σ0 c0) (e1 : gi σ0 a1 1 = gi σ0 c0 1) (hlt : (gi σ0 c0 1).toInt ≤ 5) (heq : (gi σ0 c0 3).toInt = (gi σ0 c0 1).toInt)
    (h9 : ∀ (r : Int32) (σ' : Sg), XI V σ' → FX (fun id => id = c0 + 1 ∨ id = c0 + 2 ∨ id = c0 + 4) (fun id k => id = c0 ∧ (k = 1 ∨ k = 3)) σ0 σ' → NN σ' c0 → (gi σ' c0 1).toInt = (gi σ0 c0 1).toInt + 1 → (gi σ' c0 3).toInt = (gi σ' c0 1).toInt → r = gi σ0 c0 1 → (∀ k, gr σ' (c0 + 1) k = if k = (gi σ0 c0 1).toNatClampNeg then some a1 else gr σ0 (c0 + 1) k) → (∀ k, gi σ' (c0 + 2) k = if k = (gi σ0 c0 1).toNatClampNeg then gi σ0 c0 1 else gi σ0 (c0 + 2) k) → (∀ k, gi σ' (c0 + 4) k = if k = (gi σ0 c0 1).toNatClampNeg then (10 : Int32) else gi σ0 (c0 + 4) k) → (∀ id k, id ≠ c0 → id ≠ c0 + 2 → id ≠ c0 + 4 → gi σ' id k = gi σ0 id k) → Qk r σ') : K_X1_comes l V c0 a1 σ0 Qk := by
  refine e_X1_comes (fun M hl hV hN C => ?_)
  subst hl
  subst hV
  have b1 := XI_c1 m0 (lim_C0_1 hc0)
  have ec := cl_eq b1.1
  refine s_X1_comes_0 C hN hc0 sa1 ha1 la1 ?_
  intro v1 ev1
  have ev : v1 = gi σ0 c0 1 := ev1.trans e1
  have hv1 : vp_in v1 6 := by rw [ev]; exact vp_in_iff.mpr ⟨by omega, by omega⟩
  refine ⟨hv1, ?_⟩
  intro σ3 eσ3
  have m3 : XI (mV M) σ3 := by
    rw [eσ3]
    refine XIs_r m0 (fun c hc e _ => ?_) (fun c hc e μ hμ => ?_) (fun e => ?_) (fun e _ => ?_)
    · exfalso; rcases hc0 with rfl | rfl | rfl <;> rcases hc with rfl | rfl | rfl <;> omega
    · obtain rfl : a1 = μ := Option.some.inj hμ
      exact ⟨ci1, sa1, ha1, la1⟩
    · exfalso; rcases hc0 with rfl | rfl | rfl <;> omega
    · rw [kdC_1 hc0] at e; cases e
  refine ⟨hv1, ?_⟩
  intro σ5 eσ5
  have m5 : XI (mV M) σ5 := by rw [eσ5]; exact XIs_n m3 (lim_C4 hc0 _)
  have c5 : gi σ5 c0 1 = gi σ0 c0 1 := by rw [eσ5, gi_si_ne (Or.inl (by omega)), eσ3, gi_sr]
  refine ⟨by rw [c5, ← ev]; exact hv1, ?_⟩
  intro σ7 eσ7
  have m7 : XI (mV M) σ7 := by rw [eσ7]; exact XIs_b m5 (lim_C2 hc0 _) (by rw [ev]; omega) (by rw [ev]; omega)
  have c7 : gi σ7 c0 1 = gi σ0 c0 1 := by rw [eσ7, gi_si_ne (Or.inl (by omega))]; exact c5
  intro σ8 eσ8
  have s8 : ((gi σ7 c0 1) + (1 : Int32)).toInt = (gi σ0 c0 1).toInt + 1 := by rw [c7]; exact i_add (y := (1 : Int32)) (by show _ ≤ (gi σ0 c0 1).toInt + 1; omega) (by show (gi σ0 c0 1).toInt + 1 ≤ _; omega)
  have m8 : XI (mV M) σ8 := by rw [eσ8]; exact XIs_b m7 (lim_C0_1 hc0) (by omega) (by omega)
  have c8 : gi σ8 c0 1 = (gi σ7 c0 1) + (1 : Int32) := by rw [eσ8, gi_si_eq]
  intro σ9 eσ9
  have m9 : XI (mV M) σ9 := by rw [eσ9]; exact XIs_b m8 (lim_C0_3 hc0) (by rw [c8]; omega) (by rw [c8]; omega)
  have c91 : gi σ9 c0 1 = (gi σ7 c0 1) + (1 : Int32) := by rw [eσ9, gi_si_ne (Or.inr (by decide))]; exact c8
  have c93 : gi σ9 c0 3 = (gi σ7 c0 1) + (1 : Int32) := by rw [eσ9, gi_si_eq]; exact c8
  have g2 : ∀ p, gi σ9 (c0 + 2) p = if p = v1.toNatClampNeg then v1 else gi σ0 (c0 + 2) p := fun p => by
    rw [eσ9, gi_si_ne (Or.inl (by omega)), eσ8, gi_si_ne (Or.inl (by omega)), eσ7, c5, ← ev]
    by_cases z : p = v1.toNatClampNeg
    · rw [if_pos z, z, gi_si_eq]
    · rw [if_neg z, gi_si_ne (Or.inr z), eσ5, gi_si_ne (Or.inl (by omega)), eσ3, gi_sr]
  have g1 : ∀ p, gr σ9 (c0 + 1) p = if p = v1.toNatClampNeg then some a1 else gr σ0 (c0 + 1) p := fun p => by
    rw [eσ9, gr_si, eσ8, gr_si, eσ7, gr_si, eσ5, gr_si, eσ3, gr_sr]
    by_cases z : p = v1.toNatClampNeg
    · rw [if_pos ⟨rfl, z⟩, if_pos z]
    · rw [if_neg (fun h => z h.2), if_neg z]
  have g4 : ∀ p, gi σ9 (c0 + 4) p = if p = v1.toNatClampNeg then (10 : Int32) else gi σ0 (c0 + 4) p := fun p => by
    rw [eσ9, gi_si_ne (Or.inl (by omega)), eσ8, gi_si_ne (Or.inl (by omega)), eσ7, gi_si_ne (Or.inl (by omega)), eσ5, gi_si, eσ3, gi_sr]
    by_cases z : p = v1.toNatClampNeg
    · rw [if_pos ⟨rfl, z⟩, if_pos z]
    · rw [if_neg (fun h => z h.2), if_neg z]
  have gO : ∀ id k, id ≠ c0 → id ≠ c0 + 2 → id ≠ c0 + 4 → gi σ9 id k = gi σ0 id k := fun id k h1 h2 h3 => by
    rw [eσ9, gi_si_ne (Or.inl h1), eσ8, gi_si_ne (Or.inl h1), eσ7, gi_si_ne (Or.inl h2), eσ5, gi_si_ne (Or.inl h3), eσ3, gi_sr]
  have evn : v1.toNatClampNeg = (gi σ0 c0 1).toNatClampNeg := by rw [ev]
  refine h9 v1 σ9 m9 ?_ ⟨fun p hp => ?_, fun m hm => ?_⟩ (by rw [c91]; exact s8) (by rw [c93, c91]) ev (by intro k; rw [← ev]; exact g1 k) (by intro k; rw [← ev]; exact g2 k) (by intro k; rw [← ev]; exact g4 k) gO
  · rw [eσ9, eσ8, eσ7, eσ5, eσ3]
    exact FX_si (FX_si (FX_si (FX_si (FX_sr FX_rf (Or.inl (Or.inl rfl))) (Or.inl (Or.inr (Or.inr rfl)))) (Or.inl (Or.inr (Or.inl rfl)))) (Or.inr ⟨rfl, Or.inl rfl⟩)) (Or.inr ⟨rfl, Or.inr rfl⟩)
  · rw [c93, s8] at hp
    rw [c91, s8, g2]
    by_cases z : p = v1.toNatClampNeg
    · rw [if_pos z, ev]; omega
    · rw [if_neg z]
      have := n0.1 p (by omega)
      omega
  · rw [c91, s8] at hm
    rw [g1]
    by_cases z : m = v1.toNatClampNeg
    · rw [if_pos z]; simp
    · rw [if_neg z]
      exact n0.2 m (by omega)
set_option maxRecDepth 100000 in
set_option maxHeartbeats 4000000 in
theorem kn_X11_mower {l : Launch} {V : Vx} {a1 a2 : Int32} {σ0 : Sg} {Qk : Int32 → Vx → Sg → Prop} (hU : UPV V) (hw : wfd V) (m0 : XI V σ0) (n0 : NN σ0 1) (heq : (gi σ0 1 3).toInt = (gi σ0 1 1).toInt)
    (h9 : ∀ (r : Int32) (V' : Vx) (σ' : Sg), VR V V' → (∀ id ∈ ids V', id ∈ ids V ∨ 2000 ≤ id) → wfd V' → XI V' σ' → NN σ' 1 → FX (fun id => id = 2 ∨ id = 3 ∨ id = 5 ∨ 2000 ≤ id) (fun id k => id = 1 ∧ (k = 1 ∨ k = 3)) σ0 σ' → (gi σ' 1 3).toInt = (gi σ' 1 1).toInt → MWA r a1 a2 (gi σ0 1 1).toInt (gi σ' 1 1).toInt → NEWM V a1 a2 σ0 σ' → Qk r V' σ') : K_X11_mower l V a1 a2 σ0 Qk := by
  refine Ka_of (by decide +kernel) rfl rfl (Nat.le_of_ble_eq_true rfl) (fun M hl hV hN C => ?_)
  subst hl
  subst hV
  have b1 := XI_c1 m0 (lim_C0_1 (c := 1) (Or.inl rfl))
  have stay : ∀ r, MWA r a1 a2 (gi σ0 1 1).toInt (gi σ0 1 1).toInt → Qk r (mV M) σ0 := fun r h8 => h9 r _ _ VR_rf (fun _ h => Or.inl h) hw m0 n0 FX_rf heq h8 (Or.inl rfl)
  have out : ∀ (pc : Nat) (x : Int32), decode cX11_mower pc = .ok (.ireturn, 1) → MWA x a1 a2 (gi σ0 1 1).toInt (gi σ0 1 1).toInt → PS M pc [(0, .ref 0), (1, .int a1), (2, .int a2)] [.int x] σ0 (0, 0) := fun pc x hd h8 => P_iretW C rfl (Nat.zero_le _) (Nat.zero_le _) hd (stay x h8)
  have no1 : (a1.toInt < 0 ∨ 6 < a1.toInt) → PS M 10 [(0, .ref 0), (1, .int a1), (2, .int a2)] [] σ0 (0, 0) := fun h8 => P_iconst C dX11_mower_10 (v := (-1 : Int32)) rfl (out 11 _ dX11_mower_11 (MWA_1 h8))
  have no2 : (0 ≤ a1.toInt ∧ a1.toInt ≤ 6 ∧ (a2.toInt < 0 ∨ 9 < a2.toInt)) → PS M 22 [(0, .ref 0), (1, .int a1), (2, .int a2)] [] σ0 (0, 0) := fun h8 => P_bipush C dX11_mower_22 (v := (-2 : Int32)) rfl (out 24 _ dX11_mower_24 (MWA_2 h8))
  show PS M 0 [(0, .ref 0), (1, .int a1), (2, .int a2)] [] σ0 (0, 0)
  refine P_iload_n C dX11_mower_0 1 rfl ?_
  refine P_if_lt C dX11_mower_1 (tgt := 10) (by decide) (fun q => no1 (Or.inl (Int32.lt_iff_toInt_lt.mp q))) (fun q1 => ?_)
  refine P_iload_n C dX11_mower_4 1 rfl ?_
  refine P_bipush C dX11_mower_5 (v := (6 : Int32)) rfl ?_
  refine P_icmp_le C dX11_mower_7 (tgt := 12) (by decide) (fun q2 => ?_) (fun q => no1 (Or.inr (Int.not_le.mp (fun z => q (Int32.le_iff_toInt_le.mpr z)))))
  refine P_iload_n C dX11_mower_12 2 rfl ?_
  refine P_if_lt C dX11_mower_13 (tgt := 22) (by decide) (fun q => no2 ⟨Int.not_lt.mp (fun z => q1 (Int32.lt_iff_toInt_lt.mpr z)), Int32.le_iff_toInt_le.mp q2, Or.inl (Int32.lt_iff_toInt_lt.mp q)⟩) (fun q3 => ?_)
  refine P_iload_n C dX11_mower_16 2 rfl ?_
  refine P_bipush C dX11_mower_17 (v := (9 : Int32)) rfl ?_
  refine P_icmp_le C dX11_mower_19 (tgt := 25) (by decide) (fun q4 => ?_) (fun q => no2 ⟨Int.not_lt.mp (fun z => q1 (Int32.lt_iff_toInt_lt.mpr z)), Int32.le_iff_toInt_le.mp q2, Or.inr (Int.not_le.mp (fun z => q (Int32.le_iff_toInt_le.mpr z)))⟩)
  refine P_aload_n C dX11_mower_25 0 rfl ?_
  refine P_getS C (e := 1) fa_X11_mower_12 kd_0 (d := 1) rfl (fxl fx_0) rfl dX11_mower_26 ?_
  refine P_getI C fa_X11_mower_76 kd_1 rfl (fxl fx_1) dX11_mower_29 ?_
  refine P_bipush C dX11_mower_32 (v := (6 : Int32)) rfl ?_
  refine P_icmp_lt C dX11_mower_34 (tgt := 40) (by decide) (fun q5 => ?_) (fun q => P_bipush C dX11_mower_37 (v := (-4 : Int32)) rfl (out 39 _ dX11_mower_39 (MWA_4 ⟨Int.not_lt.mp (fun z => q1 (Int32.lt_iff_toInt_lt.mpr z)), Int32.le_iff_toInt_le.mp q2, Int.not_lt.mp (fun z => q3 (Int32.lt_iff_toInt_lt.mpr z)), Int32.le_iff_toInt_le.mp q4, Int.not_lt.mp (fun z => q (Int32.lt_iff_toInt_lt.mpr z))⟩)))
  refine P_aload_n C dX11_mower_40 0 rfl ?_
  refine P_getS C (e := 1) fa_X11_mower_12 kd_0 (d := 1) rfl (fxl fx_0) rfl dX11_mower_41 ?_
  refine P_iload_n C dX11_mower_44 1 rfl ?_
  refine P_aload_n C dX11_mower_45 0 rfl ?_
  refine P_getS C (e := 1) fa_X11_mower_12 kd_0 (d := 1) rfl (fxl fx_0) rfl dX11_mower_46 ?_
  refine P_getI C fa_X11_mower_76 kd_1 rfl (fxl fx_1) dX11_mower_49 ?_
  refine P_iload_n C dX11_mower_52 2 rfl ?_
  have r1 : 0 ≤ a1.toInt := Int.not_lt.mp (fun z => q1 (Int32.lt_iff_toInt_lt.mpr z))
  have r2 : a1.toInt ≤ 6 := Int32.le_iff_toInt_le.mp q2
  have r3 : 0 ≤ a2.toInt := Int.not_lt.mp (fun z => q3 (Int32.lt_iff_toInt_lt.mpr z))
  have r4 : a2.toInt ≤ 9 := Int32.le_iff_toInt_le.mp q4
  have r5 : (gi σ0 1 1).toInt < 6 := Int32.lt_iff_toInt_lt.mp q5
  refine P_made C hU m0 kf_X11_mower (Nat.le_of_ble_eq_true rfl) dX11_mower_53 ⟨Nat.le_of_ble_eq_true rfl, Nat.le_of_ble_eq_true rfl⟩ (fun a h => ?_) (fun a h => ?_) (fun q μ hμ hge hk hwf => ?_)
  · have h : a = 0 := by simpa using h
    subst h; exact fxl fx_0
  · have h : a = 1 := by simpa using h
    subst h; exact fxl fx_1
  have hvr : VR (mV M) (vext (mV M) [(μ, q)]) := VR_ext (fun y hy => by
    obtain rfl : y = (μ, q) := by simpa using hy
    exact ⟨hμ, by show 1000 ≤ μ; omega⟩)
  have C' := Cx_vr C hvr hwf
  have eV : mV (mset M (vext (mV M) [(μ, q)])) = vext (mV M) [(μ, q)] := mset_V
  have hin : μ ∈ ids (vext (mV M) [(μ, q)]) := by rw [vext_ids]; exact List.mem_append_right _ (by simp)
  obtain ⟨σ1, e1⟩ : ∃ σ1, σ1 = sia σ0 μ (mvals a1 (gi σ0 1 1) a2) := ⟨_, rfl⟩
  rw [← e1]
  have x1 : XI (vext (mV M) [(μ, q)]) σ1 := by rw [e1]; exact XI_vr hvr (XI_m m0 hge r1 r2 (by omega) (by omega) r3 r4)
  have g1 : ∀ k, gi σ1 1 k = gi σ0 1 k := fun k => by rw [e1, gi_sia, if_neg (by omega)]
  have n1 : NN σ1 1 := by rw [e1]; exact NN_sia n0 (by omega) (by omega)
  have f1 : FX (fun id => id = 2 ∨ id = 3 ∨ id = 5 ∨ 2000 ≤ id) (fun id k => id = 1 ∧ (k = 1 ∨ k = 3)) σ0 σ1 := by rw [e1]; exact FX_sia FX_rf (Or.inr (Or.inr (Or.inr hge)))
  refine P_ci (R_v (ci := 1) C' kv_X11_mower (As := [.ref μ]) rfl kd_1 rfl (fxl fx_1) (Nat.le_of_ble_eq_true rfl) dX11_mower_56 ⟨Nat.le_of_ble_eq_true rfl, Nat.le_of_ble_eq_true rfl⟩ (kn_X1_comes (Qk := fun r σ2 => Qk r (vext (mV M) [(μ, q)]) σ2) (Or.inl rfl) (kci_mc a1) hk (by rw [eV]; exact hin) (by rw [eV]; exact x1) n1 ?_ (by rw [g1]; omega) (by rw [g1, g1]; exact heq) ?_)) (fun r σ2 h => ?_)
  · rw [g1, e1, gi_sia, if_pos rfl]; rfl
  · intro r σ2 y1 y2 y3 y4 y5 y6 y7 y8 y9 y10
    rw [eV] at y1
    refine h9 r _ σ2 hvr (fun id hi => ?_) hwf y1 y3 (FX_tr f1 y2 (fun id hi => ?_) (fun id k hi => Or.inr hi)) y5 (MWA_0 ⟨r1, r2, r3, r4, r5, by rw [y6, g1], by rw [y4, g1]⟩) (Or.inr ⟨μ, hge, hμ, hk, by rw [y10 _ _ (by omega) (by omega) (by omega), e1, gi_sia, if_pos rfl]; rfl, by rw [y10 _ _ (by omega) (by omega) (by omega), e1, gi_sia, if_pos rfl]; rfl, by rw [y10 _ _ (by omega) (by omega) (by omega), e1, gi_sia, if_pos rfl]; rfl, by rw [y4, g1], fun k => by have h8 := y7 k; rw [g1] at h8; rw [e1] at h8; exact h8, fun k => by have h8 := y8 k; rw [g1] at h8; rw [e1, gi_sia, if_neg (show ¬ 1 + 2 = μ by omega)] at h8; exact h8, fun k => by have h8 := y9 k; rw [g1] at h8; rw [e1, gi_sia, if_neg (show ¬ 1 + 4 = μ by omega)] at h8; exact h8, fun id k h8 h7 => by rw [y10 _ _ (by omega) (by omega) (by omega), e1, gi_sia, if_neg h8]⟩)
    · rw [vext_ids] at hi
      rcases List.mem_append.mp hi with hi | hi
      · exact Or.inl hi
      · obtain rfl : id = μ := by simpa using hi
        exact Or.inr hge
    · rcases hi with hi | hi | hi
      · exact Or.inl hi
      · exact Or.inr (Or.inl hi)
      · exact Or.inr (Or.inr (Or.inl hi))
  · exact P_iretW (V0 := mV M) C' (by rw [eV]; rfl) (Nat.le_of_ble_eq_true rfl) (Nat.le_of_ble_eq_true rfl) dX11_mower_59 (by rw [eV]; exact h)
