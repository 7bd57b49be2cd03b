/-! the class's mower: its answer, and the count -/
noncomputable def MWA (r a1 a2 : Int32) (c1 c2 : Int) : Prop := ((a1.toInt < 0 ∨ 6 < a1.toInt) → r.toInt = -1 ∧ c2 = c1) ∧ (0 ≤ a1.toInt → a1.toInt ≤ 6 → ((a2.toInt < 0 ∨ 9 < a2.toInt) → r.toInt = -2 ∧ c2 = c1) ∧ (0 ≤ a2.toInt → a2.toInt ≤ 9 → (6 ≤ c1 → r.toInt = -4 ∧ c2 = c1) ∧ (c1 < 6 → r.toInt = c1 ∧ c2 = c1 + 1)))
theorem MWA_1 {a1 a2 : Int32} {c : Int} (h : a1.toInt < 0 ∨ 6 < a1.toInt) : MWA (-1) a1 a2 c c := ⟨fun _ => ⟨rfl, rfl⟩, fun _ _ => by omega⟩
theorem MWA_2 {a1 a2 : Int32} {c : Int} (h : 0 ≤ a1.toInt ∧ a1.toInt ≤ 6 ∧ (a2.toInt < 0 ∨ 9 < a2.toInt)) : MWA (-2) a1 a2 c c := ⟨fun _ => by omega, fun _ _ => ⟨fun _ => ⟨rfl, rfl⟩, fun _ _ => by omega⟩⟩
theorem MWA_4 {a1 a2 : Int32} {c : Int} (h : 0 ≤ a1.toInt ∧ a1.toInt ≤ 6 ∧ 0 ≤ a2.toInt ∧ a2.toInt ≤ 9 ∧ 6 ≤ c) : MWA (-4) a1 a2 c c := ⟨fun _ => by omega, fun _ _ => ⟨fun _ => by omega, fun _ _ => ⟨fun _ => ⟨rfl, rfl⟩, fun _ => by omega⟩⟩⟩
theorem MWA_0 {r a1 a2 : Int32} {c c2 : Int} (h : 0 ≤ a1.toInt ∧ a1.toInt ≤ 6 ∧ 0 ≤ a2.toInt ∧ a2.toInt ≤ 9 ∧ c < 6 ∧ r.toInt = c ∧ c2 = c + 1) : MWA r a1 a2 c c2 := ⟨fun _ => by omega, fun _ _ => ⟨fun _ => by omega, fun _ _ => ⟨fun _ => by omega, fun _ => ⟨h.2.2.2.2.2.1, h.2.2.2.2.2.2⟩⟩⟩⟩
set_option maxRecDepth 100000 in
set_option maxHeartbeats 4000000 in
theorem kt_X11_mower {l : Launch} {V : Vx} {a1 a2 : Int32} {σ0 : Sg} {Qk : Int32 → Vx → Sg → Prop} (hU : UPV V) (hw : wfd V) (m0 : XI V σ0) (n0 : NN σ0 1) (heq : (gi σ0 1 3).toInt = (gi σ0 1 1).toInt)
    (h9 : ∀ (r : Int32) (V' : Vx) (σ' : Sg), VR V V' → (∀ id ∈ ids V', id ∈ ids V ∨ 2000 ≤ id) → wfd V' → XI V' σ' → NN σ' 1 → FX (fun id => id = 2 ∨ id = 3 ∨ id = 5 ∨ 2000 ≤ id) (fun id k => id = 1 ∧ (k = 1 ∨ k = 3)) σ0 σ' → (gi σ' 1 3).toInt = (gi σ' 1 1).toInt → MWA r a1 a2 (gi σ0 1 1).toInt (gi σ' 1 1).toInt → Qk r V' σ') : K_X11_mower l V a1 a2 σ0 Qk := by
  refine Ka_of (by decide +kernel) rfl rfl (Nat.le_of_ble_eq_true rfl) (fun M hl hV hN C => ?_)
  subst hl
  subst hV
  have b1 := XI_c1 m0 (lim_C0_1 (c := 1) (Or.inl rfl))
  have stay : ∀ r, MWA r a1 a2 (gi σ0 1 1).toInt (gi σ0 1 1).toInt → Qk r (mV M) σ0 := fun r => h9 r _ _ VR_rf (fun _ h => Or.inl h) hw m0 n0 FX_rf heq
  have out : ∀ (pc : Nat) (x : Int32), decode cX11_mower pc = .ok (.ireturn, 1) → MWA x a1 a2 (gi σ0 1 1).toInt (gi σ0 1 1).toInt → PS M pc [(0, .ref 0), (1, .int a1), (2, .int a2)] [.int x] σ0 (0, 0) := fun pc x hd h8 => P_iretW C rfl (Nat.zero_le _) (Nat.zero_le _) hd (stay x h8)
  have no1 : (a1.toInt < 0 ∨ 6 < a1.toInt) → PS M 10 [(0, .ref 0), (1, .int a1), (2, .int a2)] [] σ0 (0, 0) := fun h8 => P_iconst C dX11_mower_10 (v := (-1 : Int32)) rfl (out 11 _ dX11_mower_11 (MWA_1 h8))
  have no2 : (0 ≤ a1.toInt ∧ a1.toInt ≤ 6 ∧ (a2.toInt < 0 ∨ 9 < a2.toInt)) → PS M 22 [(0, .ref 0), (1, .int a1), (2, .int a2)] [] σ0 (0, 0) := fun h8 => P_bipush C dX11_mower_22 (v := (-2 : Int32)) rfl (out 24 _ dX11_mower_24 (MWA_2 h8))
  show PS M 0 [(0, .ref 0), (1, .int a1), (2, .int a2)] [] σ0 (0, 0)
  refine P_iload_n C dX11_mower_0 1 rfl ?_
  refine P_if_lt C dX11_mower_1 (tgt := 10) (by decide) (fun q => no1 (Or.inl (Int32.lt_iff_toInt_lt.mp q))) (fun q1 => ?_)
  refine P_iload_n C dX11_mower_4 1 rfl ?_
  refine P_bipush C dX11_mower_5 (v := (6 : Int32)) rfl ?_
  refine P_icmp_le C dX11_mower_7 (tgt := 12) (by decide) (fun q2 => ?_) (fun q => no1 (Or.inr (Int.not_le.mp (fun z => q (Int32.le_iff_toInt_le.mpr z)))))
  refine P_iload_n C dX11_mower_12 2 rfl ?_
  refine P_if_lt C dX11_mower_13 (tgt := 22) (by decide) (fun q => no2 ⟨Int.not_lt.mp (fun z => q1 (Int32.lt_iff_toInt_lt.mpr z)), Int32.le_iff_toInt_le.mp q2, Or.inl (Int32.lt_iff_toInt_lt.mp q)⟩) (fun q3 => ?_)
  refine P_iload_n C dX11_mower_16 2 rfl ?_
  refine P_bipush C dX11_mower_17 (v := (9 : Int32)) rfl ?_
  refine P_icmp_le C dX11_mower_19 (tgt := 25) (by decide) (fun q4 => ?_) (fun q => no2 ⟨Int.not_lt.mp (fun z => q1 (Int32.lt_iff_toInt_lt.mpr z)), Int32.le_iff_toInt_le.mp q2, Or.inr (Int.not_le.mp (fun z => q (Int32.le_iff_toInt_le.mpr z)))⟩)
  refine P_aload_n C dX11_mower_25 0 rfl ?_
  refine P_getS C (e := 1) fa_X11_mower_12 kd_0 (d := 1) rfl (fxl fx_0) rfl dX11_mower_26 ?_
  refine P_getI C fa_X11_mower_76 kd_1 rfl (fxl fx_1) dX11_mower_29 ?_
  refine P_bipush C dX11_mower_32 (v := (6 : Int32)) rfl ?_
  refine P_icmp_lt C dX11_mower_34 (tgt := 40) (by decide) (fun q5 => ?_) (fun q => P_bipush C dX11_mower_37 (v := (-4 : Int32)) rfl (out 39 _ dX11_mower_39 (MWA_4 ⟨Int.not_lt.mp (fun z => q1 (Int32.lt_iff_toInt_lt.mpr z)), Int32.le_iff_toInt_le.mp q2, Int.not_lt.mp (fun z => q3 (Int32.lt_iff_toInt_lt.mpr z)), Int32.le_iff_toInt_le.mp q4, Int.not_lt.mp (fun z => q (Int32.lt_iff_toInt_lt.mpr z))⟩)))
  refine P_aload_n C dX11_mower_40 0 rfl ?_
  refine P_getS C (e := 1) fa_X11_mower_12 kd_0 (d := 1) rfl (fxl fx_0) rfl dX11_mower_41 ?_
  refine P_iload_n C dX11_mower_44 1 rfl ?_
  refine P_aload_n C dX11_mower_45 0 rfl ?_
  refine P_getS C (e := 1) fa_X11_mower_12 kd_0 (d := 1) rfl (fxl fx_0) rfl dX11_mower_46 ?_
  refine P_getI C fa_X11_mower_76 kd_1 rfl (fxl fx_1) dX11_mower_49 ?_
  refine P_iload_n C dX11_mower_52 2 rfl ?_
  have r1 : 0 ≤ a1.toInt := Int.not_lt.mp (fun z => q1 (Int32.lt_iff_toInt_lt.mpr z))
  have r2 : a1.toInt ≤ 6 := Int32.le_iff_toInt_le.mp q2
  have r3 : 0 ≤ a2.toInt := Int.not_lt.mp (fun z => q3 (Int32.lt_iff_toInt_lt.mpr z))
  have r4 : a2.toInt ≤ 9 := Int32.le_iff_toInt_le.mp q4
  have r5 : (gi σ0 1 1).toInt < 6 := Int32.lt_iff_toInt_lt.mp q5
  refine P_made C hU m0 kf_X11_mower (Nat.le_of_ble_eq_true rfl) dX11_mower_53 ⟨Nat.le_of_ble_eq_true rfl, Nat.le_of_ble_eq_true rfl⟩ (fun a h => ?_) (fun a h => ?_) (fun q μ hμ hge hk hwf => ?_)
  · have h : a = 0 := by simpa using h
    subst h; exact fxl fx_0
  · have h : a = 1 := by simpa using h
    subst h; exact fxl fx_1
  have hvr : VR (mV M) (vext (mV M) [(μ, q)]) := VR_ext (fun y hy => by
    obtain rfl : y = (μ, q) := by simpa using hy
    exact ⟨hμ, by show 1000 ≤ μ; omega⟩)
  have C' := Cx_vr C hvr hwf
  have eV : mV (mset M (vext (mV M) [(μ, q)])) = vext (mV M) [(μ, q)] := mset_V
  have hin : μ ∈ ids (vext (mV M) [(μ, q)]) := by rw [vext_ids]; exact List.mem_append_right _ (by simp)
  obtain ⟨σ1, e1⟩ : ∃ σ1, σ1 = sia σ0 μ (mvals a1 (gi σ0 1 1) a2) := ⟨_, rfl⟩
  rw [← e1]
  have x1 : XI (vext (mV M) [(μ, q)]) σ1 := by rw [e1]; exact XI_vr hvr (XI_m m0 hge r1 r2 (by omega) (by omega) r3 r4)
  have g1 : ∀ k, gi σ1 1 k = gi σ0 1 k := fun k => by rw [e1, gi_sia, if_neg (by omega)]
  have n1 : NN σ1 1 := by rw [e1]; exact NN_sia n0 (by omega) (by omega)
  have f1 : FX (fun id => id = 2 ∨ id = 3 ∨ id = 5 ∨ 2000 ≤ id) (fun id k => id = 1 ∧ (k = 1 ∨ k = 3)) σ0 σ1 := by rw [e1]; exact FX_sia FX_rf (Or.inr (Or.inr (Or.inr hge)))
  refine P_ci (R_v (ci := 1) C' kv_X11_mower (As := [.ref μ]) rfl kd_1 rfl (fxl fx_1) (Nat.le_of_ble_eq_true rfl) dX11_mower_56 ⟨Nat.le_of_ble_eq_true rfl, Nat.le_of_ble_eq_true rfl⟩ (k_X1_comes (Qk := fun r σ2 => Qk r (vext (mV M) [(μ, q)]) σ2) (Or.inl rfl) (kci_mc a1) hk (by rw [eV]; exact hin) (by rw [eV]; exact x1) n1 ?_ (by rw [g1]; omega) (by rw [g1, g1]; exact heq) ?_)) (fun r σ2 h => ?_)
  · rw [g1, e1, gi_sia, if_pos rfl]; rfl
  · intro r σ2 y1 y2 y3 y4 y5 y6
    rw [eV] at y1
    refine h9 r _ σ2 hvr (fun id hi => ?_) hwf y1 y3 (FX_tr f1 y2 (fun id hi => ?_) (fun id k hi => Or.inr hi)) y5 (MWA_0 ⟨r1, r2, r3, r4, r5, by rw [y6, g1], by rw [y4, g1]⟩)
    · rw [vext_ids] at hi
      rcases List.mem_append.mp hi with hi | hi
      · exact Or.inl hi
      · obtain rfl : id = μ := by simpa using hi
        exact Or.inr hge
    · rcases hi with hi | hi | hi
      · exact Or.inl hi
      · exact Or.inr (Or.inl hi)
      · exact Or.inr (Or.inr (Or.inl hi))
  · exact P_iretW (V0 := mV M) C' (by rw [eV]; rfl) (Nat.le_of_ble_eq_true rfl) (Nat.le_of_ble_eq_true rfl) dX11_mower_59 (by rw [eV]; exact h)
