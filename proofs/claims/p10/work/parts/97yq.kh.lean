/-! see, plan, image, undo: all that they say, and the functions too -/
set_option maxRecDepth 100000 in
set_option maxHeartbeats 4000000 in
theorem kH_X11_see {l : Launch} {V : Vx} {a1 : Int32} {a2 : Int32} {a3 : Int32} {σ0 : Sg} {Qk : Int32 → Sg → Prop} (m0 : XI V σ0) (pre0 : (gi σ0 9 1).toInt % 3 = 0) (h9ret : ∀ (r : Int32) (σ' : Sg), XI V σ' → FX (fun id => id = 10) (fun id k => (id = 9 ∧ k = 1)) σ0 σ' → ((gi σ' 9 1).toInt % 3 = 0) → (SEA r a1 a2 a3 (gi σ0 1 1).toInt ((gi σ0 9 1).toInt / 3) ((gi σ' 9 1).toInt / 3)) → (F_X11_see a1 a2 a3 σ0 = (r, σ')) → Qk r σ') : K_X11_see l V a1 a2 a3 σ0 Qk := by
  refine e_X11_see (fun M hl hV hN C => ?_)
  subst hl
  subst hV
  obtain ⟨R9, H0⟩ : ∃ R9, F_X11_see a1 a2 a3 σ0 = R9 := ⟨_, rfl⟩
  have c9 : capI 9 = 18 := rfl
  have n9 : (nl 9 : Int) = 18 := by decide +kernel
  have f0 : FX (fun id => id = 10) (fun id k => (id = 9 ∧ k = 1)) σ0 σ0 := FX_rf
  have t_1 := XI_c1 m0 (id := 1) (k := 1) (lim_C0_1 (Or.inl rfl))
  have t_2 := XI_c1 m0 (id := 9) (k := 1) (lim_C8_1 (Or.inl rfl))
  have H := H0
  unfold F_X11_see at H
  refine s_X11_see_0 C hN  ?_
  refine ⟨?_, ?_⟩
  · intro q_3
    replace H := f_f q_3 H
    have w_4 := Int32.toInt_lt a1
    have w_5 := Int32.le_toInt a1
    have b_6 : ¬ a1.toInt = (-1) := fun h9 => q_3 (Int32.toInt_inj.mp h9)
    refine kF_X11_isMower  m0   (fun r3 σ2 mσ2 cσ2 plσ2 phσ2 (pσ2_0 : (r3.toInt = 1 ∧ 0 ≤ a1.toInt ∧ a1.toInt < (gi σ0 1 1).toInt) ∨ (r3.toInt = 0 ∧ (a1.toInt < 0 ∨ (gi σ0 1 1).toInt ≤ a1.toInt))) hσ2 => ?_)
    obtain rfl := FX_nil cσ2
    replace H := f_b hσ2 H
    refine ⟨?_, ?_⟩
    · intro q_7
      replace H := f_f q_7 H
      have b_8 : ¬ r3.toInt = 0 := fun h9 => q_7 (Int32.toInt_inj.mp h9)
      refine ⟨?_, ?_⟩
      · intro q_9
        replace H := f_t q_9 H
        have w_10 := Int32.toInt_lt a2
        have w_11 := Int32.le_toInt a2
        have b_12 : a2.toInt < 0 := Int32.lt_iff_toInt_lt.mp q_9
        have z_13 : (-2 : Int32).toInt = -2 := rfl
        exact h9ret (-2 : Int32) σ0 m0 f0 (by first | omega | assumption | rfl) (by unfold SEA; omega) (H0.trans H.symm)
      · intro q_9
        replace H := f_f q_9 H
        have w_14 := Int32.toInt_lt a2
        have w_15 := Int32.le_toInt a2
        have b_16 : ¬ a2.toInt < 0 := fun h9 => q_9 (Int32.lt_iff_toInt_lt.mpr h9)
        refine ⟨?_, ?_⟩
        · intro q_17
          replace H := f_t q_17 H
          have b_18 : (30 : Int) < a2.toInt := Int32.lt_iff_toInt_lt.mp q_17
          have z_19 : (-2 : Int32).toInt = -2 := rfl
          exact h9ret (-2 : Int32) σ0 m0 f0 (by first | omega | assumption | rfl) (by unfold SEA; omega) (H0.trans H.symm)
        · intro q_17
          replace H := f_f q_17 H
          have b_20 : ¬ (30 : Int) < a2.toInt := fun h9 => q_17 (Int32.lt_iff_toInt_lt.mpr h9)
          refine ⟨?_, ?_⟩
          · intro q_21
            replace H := f_t q_21 H
            have w_22 := Int32.toInt_lt a3
            have w_23 := Int32.le_toInt a3
            have b_24 : a3.toInt < 0 := Int32.lt_iff_toInt_lt.mp q_21
            have z_25 : (-2 : Int32).toInt = -2 := rfl
            exact h9ret (-2 : Int32) σ0 m0 f0 (by first | omega | assumption | rfl) (by unfold SEA; omega) (H0.trans H.symm)
          · intro q_21
            replace H := f_f q_21 H
            have w_26 := Int32.toInt_lt a3
            have w_27 := Int32.le_toInt a3
            have b_28 : ¬ a3.toInt < 0 := fun h9 => q_21 (Int32.lt_iff_toInt_lt.mpr h9)
            refine ⟨?_, ?_⟩
            · intro q_29
              replace H := f_t q_29 H
              have b_30 : a3.toInt ≤ 9999 := Int32.le_iff_toInt_le.mp q_29
              refine kF_X5_isFull (isN_C8 (Or.inl rfl)) m0   (fun r10 σ9 mσ9 cσ9 plσ9 phσ9 (pσ9_0 : (r10.toInt = 1 ∧ (nl 9 : Int) ≤ (gi σ0 9 1).toInt) ∨ (r10.toInt = 0 ∧ (gi σ0 9 1).toInt < (nl 9 : Int))) hσ9 => ?_)
              obtain rfl := FX_nil cσ9
              replace H := f_b hσ9 H
              refine ⟨?_, ?_⟩
              · intro q_31
                replace H := f_t q_31 H
                have b_32 : r10.toInt = 0 := congrArg Int32.toInt q_31
                refine kF_X5_comes (isN_C8 (Or.inl rfl)) m0  (by omega) (by first | exact okNum_b (by omega) (by omega) | exact okNum_9 (by omega)) (fun σ12 mσ12 cσ12 (pσ12_0 : (gi σ12 9 1).toInt = (gi σ0 9 1).toInt + 1) hσ12 => ?_)
                replace H := f_v hσ12 H
                have fσ12 : FX (fun id => id = 10) (fun id k => (id = 9 ∧ k = 1)) σ0 σ12 := FX_tr f0 cσ12 (fun x (h9 : x = 10) => (show x = 10 from h9)) (fun x k (h9 : (x = 9 ∧ k = 1)) => (show (x = 10) ∨ ((x = 9 ∧ k = 1)) from Or.inr (show (x = 9 ∧ k = 1) from h9)))
                have k_33 : (gi σ12 1 1).toInt = (gi σ0 1 1).toInt := congrArg Int32.toInt (FX_i cσ12 (show ¬ (1 = 10) from by omega) (show ¬ ((1 = 9 ∧ 1 = 1)) from by omega))
                have t_34 := XI_c1 mσ12 (id := 9) (k := 1) (lim_C8_1 (Or.inl rfl))
                refine kF_X5_comes (isN_C8 (Or.inl rfl)) mσ12  (by omega) (by first | exact okNum_b (by omega) (by omega) | exact okNum_9 (by omega)) (fun σ13 mσ13 cσ13 (pσ13_0 : (gi σ13 9 1).toInt = (gi σ12 9 1).toInt + 1) hσ13 => ?_)
                replace H := f_v hσ13 H
                have fσ13 : FX (fun id => id = 10) (fun id k => (id = 9 ∧ k = 1)) σ0 σ13 := FX_tr fσ12 cσ13 (fun x (h9 : x = 10) => (show x = 10 from h9)) (fun x k (h9 : (x = 9 ∧ k = 1)) => (show (x = 10) ∨ ((x = 9 ∧ k = 1)) from Or.inr (show (x = 9 ∧ k = 1) from h9)))
                have k_35 : (gi σ13 1 1).toInt = (gi σ12 1 1).toInt := congrArg Int32.toInt (FX_i cσ13 (show ¬ (1 = 10) from by omega) (show ¬ ((1 = 9 ∧ 1 = 1)) from by omega))
                have t_36 := XI_c1 mσ13 (id := 9) (k := 1) (lim_C8_1 (Or.inl rfl))
                refine kF_X5_comes (isN_C8 (Or.inl rfl)) mσ13  (by omega) (by first | exact okNum_b (by omega) (by omega) | exact okNum_9 (by omega)) (fun σ14 mσ14 cσ14 (pσ14_0 : (gi σ14 9 1).toInt = (gi σ13 9 1).toInt + 1) hσ14 => ?_)
                replace H := f_v hσ14 H
                have fσ14 : FX (fun id => id = 10) (fun id k => (id = 9 ∧ k = 1)) σ0 σ14 := FX_tr fσ13 cσ14 (fun x (h9 : x = 10) => (show x = 10 from h9)) (fun x k (h9 : (x = 9 ∧ k = 1)) => (show (x = 10) ∨ ((x = 9 ∧ k = 1)) from Or.inr (show (x = 9 ∧ k = 1) from h9)))
                have k_37 : (gi σ14 1 1).toInt = (gi σ13 1 1).toInt := congrArg Int32.toInt (FX_i cσ14 (show ¬ (1 = 10) from by omega) (show ¬ ((1 = 9 ∧ 1 = 1)) from by omega))
                have t_38 := XI_c1 mσ14 (id := 9) (k := 1) (lim_C8_1 (Or.inl rfl))
                have t_39 : ((gi σ14 9 1) / (3 : Int32)).toInt = (gi σ14 9 1).toInt / 3 := i_div (by omega) (by decide) rfl
                exact h9ret ((gi σ14 9 1) / (3 : Int32)) σ14 mσ14 fσ14 (by first | omega | assumption | rfl) (by unfold SEA; omega) (H0.trans H.symm)
              · intro q_31
                replace H := f_f q_31 H
                have b_40 : ¬ r10.toInt = 0 := fun h9 => q_31 (Int32.toInt_inj.mp h9)
                have z_41 : (-4 : Int32).toInt = -4 := rfl
                exact h9ret (-4 : Int32) σ0 m0 f0 (by first | omega | assumption | rfl) (by unfold SEA; omega) (H0.trans H.symm)
            · intro q_29
              replace H := f_f q_29 H
              have b_42 : ¬ a3.toInt ≤ 9999 := fun h9 => q_29 (Int32.le_iff_toInt_le.mpr h9)
              have z_43 : (-2 : Int32).toInt = -2 := rfl
              exact h9ret (-2 : Int32) σ0 m0 f0 (by first | omega | assumption | rfl) (by unfold SEA; omega) (H0.trans H.symm)
    · intro q_7
      replace H := f_t q_7 H
      have b_44 : r3.toInt = 0 := congrArg Int32.toInt q_7
      have z_45 : (-1 : Int32).toInt = -1 := rfl
      exact h9ret (-1 : Int32) σ0 m0 f0 (by first | omega | assumption | rfl) (by unfold SEA; omega) (H0.trans H.symm)
  · intro q_3
    replace H := f_t q_3 H
    have w_46 := Int32.toInt_lt a1
    have w_47 := Int32.le_toInt a1
    have b_48 : a1.toInt = (-1) := congrArg Int32.toInt q_3
    intro σ15 eσ15
    replace H := f_l eσ15 H
    have z_49 : (0 : Int32).toInt = 0 := rfl
    have mσ15 : XI (mV M) σ15 := by rw [eσ15]; exact XIs_b m0 (lim_C8_1 (Or.inl rfl)) (by omega) (by omega)
    have fσ15 : FX (fun id => id = 10) (fun id k => (id = 9 ∧ k = 1)) σ0 σ15 := by rw [eσ15]; exact FX_si f0 (Or.inr (show (9 = 9 ∧ 1 = 1) from ⟨rfl, rfl⟩))
    have k_50 : (gi σ15 1 1).toInt = (gi σ0 1 1).toInt := by rw [eσ15]; exact congrArg Int32.toInt (gi_si_ne (Or.inl (by omega)))
    have k_51 : (gi σ15 9 1).toInt = 0 := by rw [eσ15]; exact congrArg Int32.toInt gi_si_eq
    exact h9ret (0 : Int32) σ15 mσ15 fσ15 (by first | omega | assumption | rfl) (by unfold SEA; omega) (H0.trans H.symm)
set_option maxRecDepth 100000 in
set_option maxHeartbeats 4000000 in
theorem kH_X12_see {l : Launch} {V : Vx} {a1 : Int32} {a2 : Int32} {a3 : Int32} {σ0 : Sg} {Qk : Int32 → Sg → Prop} (m0 : MI σ0) (h9ret : ∀ (r : Int32) (σ' : Sg), MI σ' → Fr [74, 142, 143, 144] [41] σ0 σ' → (SEA r a1 a2 a3 (gi σ0 74 0).toInt (gi σ0 74 41).toInt (gi σ' 74 41).toInt) → (F_X12_see a1 a2 a3 σ0 = (r, σ')) → Qk r σ') : K_X12_see l V a1 a2 a3 σ0 Qk := by
  refine e_X12_see (fun M hl hV hN C => ?_)
  subst hl
  subst hV
  obtain ⟨R9, H0⟩ : ∃ R9, F_X12_see a1 a2 a3 σ0 = R9 := ⟨_, rfl⟩
  have f0 : Fr [74, 142, 143, 144] [41] σ0 σ0 := Fr_rf
  have H := H0
  unfold F_X12_see at H
  refine s_X12_see_0 C hN ?_
  refine ⟨?_, ?_⟩
  · intro q_1
    replace H := f_f q_1 H
    have w_2 := Int32.toInt_lt a1
    have w_3 := Int32.le_toInt a1
    have b_4 : ¬ a1.toInt = (-1) := fun h9 => q_1 (Int32.toInt_inj.mp h9)
    refine kF_X12_isMower m0  (fun r3 σ2 mσ2 cσ2 plσ2 phσ2 (pσ2_0 : (r3.toInt = 1 ∧ 0 ≤ a1.toInt ∧ a1.toInt < (gi σ0 74 0).toInt) ∨ (r3.toInt = 0 ∧ (a1.toInt < 0 ∨ (gi σ0 74 0).toInt ≤ a1.toInt))) hσ2 => ?_)
    obtain rfl := Fr_nil cσ2
    replace H := f_b hσ2 H
    have t_5 := MI_f0 m0
    refine ⟨?_, ?_⟩
    · intro q_6
      replace H := f_f q_6 H
      have b_7 : ¬ r3.toInt = 0 := fun h9 => q_6 (Int32.toInt_inj.mp h9)
      refine kF_X12_in m0  (fun r6 σ5 mσ5 cσ5 plσ5 phσ5 (pσ5_0 : (r6.toInt = 1 ∧ (0 : Int) ≤ a2.toInt ∧ a2.toInt ≤ (30 : Int)) ∨ (r6.toInt = 0 ∧ (a2.toInt < (0 : Int) ∨ (30 : Int) < a2.toInt))) hσ5 => ?_)
      obtain rfl := Fr_nil cσ5
      replace H := f_b hσ5 H
      refine ⟨?_, ?_⟩
      · intro q_8
        replace H := f_t q_8 H
        have b_9 : r6.toInt = 0 := congrArg Int32.toInt q_8
        have z_10 : (-2 : Int32).toInt = -2 := rfl
        exact h9ret (-2 : Int32) σ0 m0 f0 (by unfold SEA; omega) (H0.trans H.symm)
      · intro q_8
        replace H := f_f q_8 H
        have b_11 : ¬ r6.toInt = 0 := fun h9 => q_8 (Int32.toInt_inj.mp h9)
        refine kF_X12_in m0  (fun r9 σ8 mσ8 cσ8 plσ8 phσ8 (pσ8_0 : (r9.toInt = 1 ∧ (0 : Int) ≤ a3.toInt ∧ a3.toInt ≤ (9999 : Int)) ∨ (r9.toInt = 0 ∧ (a3.toInt < (0 : Int) ∨ (9999 : Int) < a3.toInt))) hσ8 => ?_)
        obtain rfl := Fr_nil cσ8
        replace H := f_b hσ8 H
        refine ⟨?_, ?_⟩
        · intro q_12
          replace H := f_f q_12 H
          have b_13 : ¬ r9.toInt = 0 := fun h9 => q_12 (Int32.toInt_inj.mp h9)
          refine ⟨?_, ?_⟩
          · intro q_14
            replace H := f_f q_14 H
            have t_15 := MI_f41 m0
            have b_16 : ¬ (gi σ0 74 41).toInt = 6 := fun h9 => q_14 (Int32.toInt_inj.mp h9)
            have hv_17 : vp_in (gi σ0 74 41) 6 := vp_in_iff.mpr ⟨by omega, by omega⟩
            refine ⟨hv_17, ?_⟩
            intro σ13 eσ13
            replace H := f_l eσ13 H
            have mσ13 : MI σ13 := by rw [eσ13]; exact MIs_a142 m0 (by omega) (by omega)
            have fσ13 : Fr [74, 142, 143, 144] [41] σ0 σ13 := by rw [eσ13]; exact Fr_si f0 (by decide) (fun h9 => absurd h9 (by decide))
            have k_18 : (gi σ13 74 0).toInt = (gi σ0 74 0).toInt := by rw [eσ13]; exact congrArg Int32.toInt (gi_si_ne (Or.inl (by decide)))
            have k_19 : (gi σ13 74 41).toInt = (gi σ0 74 41).toInt := by rw [eσ13]; exact congrArg Int32.toInt (gi_si_ne (Or.inl (by decide)))
            have t_20 := MI_f41 mσ13
            have hv_21 : vp_in (gi σ13 74 41) 6 := vp_in_iff.mpr ⟨by omega, by omega⟩
            refine ⟨hv_21, ?_⟩
            intro σ15 eσ15
            replace H := f_l eσ15 H
            have w_22 := Int32.toInt_lt a2
            have w_23 := Int32.le_toInt a2
            have mσ15 : MI σ15 := by rw [eσ15]; exact MIs_a143 mσ13 (by omega) (by omega)
            have fσ15 : Fr [74, 142, 143, 144] [41] σ0 σ15 := by rw [eσ15]; exact Fr_si fσ13 (by decide) (fun h9 => absurd h9 (by decide))
            have k_24 : (gi σ15 74 0).toInt = (gi σ13 74 0).toInt := by rw [eσ15]; exact congrArg Int32.toInt (gi_si_ne (Or.inl (by decide)))
            have k_25 : (gi σ15 74 41).toInt = (gi σ13 74 41).toInt := by rw [eσ15]; exact congrArg Int32.toInt (gi_si_ne (Or.inl (by decide)))
            have t_26 := MI_f41 mσ15
            have hv_27 : vp_in (gi σ15 74 41) 6 := vp_in_iff.mpr ⟨by omega, by omega⟩
            refine ⟨hv_27, ?_⟩
            intro σ17 eσ17
            replace H := f_l eσ17 H
            have mσ17 : MI σ17 := by rw [eσ17]; exact MIs_au (a := 144) mσ15 rfl rfl
            have fσ17 : Fr [74, 142, 143, 144] [41] σ0 σ17 := by rw [eσ17]; exact Fr_si fσ15 (by decide) (fun h9 => absurd h9 (by decide))
            have k_28 : (gi σ17 74 0).toInt = (gi σ15 74 0).toInt := by rw [eσ17]; exact congrArg Int32.toInt (gi_si_ne (Or.inl (by decide)))
            have k_29 : (gi σ17 74 41).toInt = (gi σ15 74 41).toInt := by rw [eσ17]; exact congrArg Int32.toInt (gi_si_ne (Or.inl (by decide)))
            intro σ18 eσ18
            replace H := f_l eσ18 H
            have t_30 := MI_f41 mσ17
            have t_31 : ((gi σ17 74 41) + (1 : Int32)).toInt = (gi σ17 74 41).toInt + 1 := i_add (x := (gi σ17 74 41)) (y := (1 : Int32)) (by show (_ : Int) ≤ (gi σ17 74 41).toInt + 1; omega) (by show (gi σ17 74 41).toInt + 1 ≤ (_ : Int); omega)
            have mσ18 : MI σ18 := by rw [eσ18]; exact MIs_f41 mσ17 (by omega) (by omega)
            have fσ18 : Fr [74, 142, 143, 144] [41] σ0 σ18 := by rw [eσ18]; exact Fr_si fσ17 (by decide) (fun _ => by decide)
            have k_32 : (gi σ18 74 0).toInt = (gi σ17 74 0).toInt := by rw [eσ18]; exact congrArg Int32.toInt (gi_si_ne (Or.inr (by decide)))
            have k_33 : (gi σ18 74 41).toInt = ((gi σ17 74 41) + (1 : Int32)).toInt := by rw [eσ18]; exact congrArg Int32.toInt gi_si_eq
            have t_34 := MI_f41 mσ18
            exact h9ret (gi σ18 74 41) σ18 mσ18 fσ18 (by unfold SEA; omega) (H0.trans H.symm)
          · intro q_14
            replace H := f_t q_14 H
            have t_35 := MI_f41 m0
            have b_36 : (gi σ0 74 41).toInt = 6 := congrArg Int32.toInt q_14
            have z_37 : (-4 : Int32).toInt = -4 := rfl
            exact h9ret (-4 : Int32) σ0 m0 f0 (by unfold SEA; omega) (H0.trans H.symm)
        · intro q_12
          replace H := f_t q_12 H
          have b_38 : r9.toInt = 0 := congrArg Int32.toInt q_12
          have z_39 : (-2 : Int32).toInt = -2 := rfl
          exact h9ret (-2 : Int32) σ0 m0 f0 (by unfold SEA; omega) (H0.trans H.symm)
    · intro q_6
      replace H := f_t q_6 H
      have b_40 : r3.toInt = 0 := congrArg Int32.toInt q_6
      have z_41 : (-1 : Int32).toInt = -1 := rfl
      exact h9ret (-1 : Int32) σ0 m0 f0 (by unfold SEA; omega) (H0.trans H.symm)
  · intro q_1
    replace H := f_t q_1 H
    have w_42 := Int32.toInt_lt a1
    have w_43 := Int32.le_toInt a1
    have b_44 : a1.toInt = (-1) := congrArg Int32.toInt q_1
    intro σ19 eσ19
    replace H := f_l eσ19 H
    have z_45 : (0 : Int32).toInt = 0 := rfl
    have mσ19 : MI σ19 := by rw [eσ19]; exact MIs_f41 m0 (by omega) (by omega)
    have fσ19 : Fr [74, 142, 143, 144] [41] σ0 σ19 := by rw [eσ19]; exact Fr_si f0 (by decide) (fun _ => by decide)
    have k_46 : (gi σ19 74 0).toInt = (gi σ0 74 0).toInt := by rw [eσ19]; exact congrArg Int32.toInt (gi_si_ne (Or.inr (by decide)))
    have k_47 : (gi σ19 74 41).toInt = 0 := by rw [eσ19]; exact congrArg Int32.toInt gi_si_eq
    exact h9ret (0 : Int32) σ19 mσ19 fσ19 (by unfold SEA; omega) (H0.trans H.symm)
set_option maxRecDepth 100000 in
set_option maxHeartbeats 4000000 in
theorem kH_X11_plan {l : Launch} {V : Vx} {a1 : Int32} {σ0 : Sg} {Qk : Int32 → Sg → Prop} (m0 : XI V σ0) (h9ret : ∀ (r : Int32) (σ' : Sg), XI V σ' → FX (fun id => id = 12) (fun id k => (id = 11 ∧ k = 1)) σ0 σ' → (PBA r a1 (gi σ0 11 1) (gi σ' 11 1) (2) 10) → (F_X11_plan a1 σ0 = (r, σ')) → Qk r σ') : K_X11_plan l V a1 σ0 Qk := by
  refine e_X11_plan (fun M hl hV hN C => ?_)
  subst hl
  subst hV
  obtain ⟨R9, H0⟩ : ∃ R9, F_X11_plan a1 σ0 = R9 := ⟨_, rfl⟩
  have c9 : capI 11 = 10 := rfl
  have n9 : (nl 11 : Int) = 10 := by decide +kernel
  have f0 : FX (fun id => id = 12) (fun id k => (id = 11 ∧ k = 1)) σ0 σ0 := FX_rf
  have t_1 := XI_c1 m0 (id := 1) (k := 1) (lim_C0_1 (Or.inl rfl))
  have t_2 := XI_c1 m0 (id := 11) (k := 1) (lim_C10_1 (Or.inl rfl))
  have H := H0
  unfold F_X11_plan at H
  refine s_X11_plan_0 C hN  ?_
  refine ⟨?_, ?_⟩
  · intro q_3
    replace H := f_f q_3 H
    have w_4 := Int32.toInt_lt a1
    have w_5 := Int32.le_toInt a1
    have b_6 : ¬ a1.toInt = (-1) := fun h9 => q_3 (Int32.toInt_inj.mp h9)
    refine ⟨?_, ?_⟩
    · intro q_7
      replace H := f_t q_7 H
      have b_8 : a1.toInt < 0 := Int32.lt_iff_toInt_lt.mp q_7
      have z_9 : (-1 : Int32).toInt = -1 := rfl
      exact h9ret (-1 : Int32) σ0 m0 f0 (by first | assumption | exact PBA_0 (by omega) | exact PBA_1 (by omega) | exact PBA_2 (by omega) | exact PBA_3 (by omega)) (H0.trans H.symm)
    · intro q_7
      replace H := f_f q_7 H
      have b_10 : ¬ a1.toInt < 0 := fun h9 => q_7 (Int32.lt_iff_toInt_lt.mpr h9)
      refine ⟨?_, ?_⟩
      · intro q_11
        replace H := f_t q_11 H
        have b_12 : a1.toInt ≤ 2 := Int32.le_iff_toInt_le.mp q_11
        refine kF_X5_isFull (isN_C10 (Or.inl rfl)) m0   (fun r5 σ4 mσ4 cσ4 plσ4 phσ4 (pσ4_0 : (r5.toInt = 1 ∧ (nl 11 : Int) ≤ (gi σ0 11 1).toInt) ∨ (r5.toInt = 0 ∧ (gi σ0 11 1).toInt < (nl 11 : Int))) hσ4 => ?_)
        obtain rfl := FX_nil cσ4
        replace H := f_b hσ4 H
        refine ⟨?_, ?_⟩
        · intro q_13
          replace H := f_t q_13 H
          have b_14 : r5.toInt = 0 := congrArg Int32.toInt q_13
          refine kF_X5_comes (isN_C10 (Or.inl rfl)) m0  (by omega) (okNum_11) (fun σ7 mσ7 cσ7 (pσ7_0 : (gi σ7 11 1).toInt = (gi σ0 11 1).toInt + 1) hσ7 => ?_)
          replace H := f_v hσ7 H
          have fσ7 : FX (fun id => id = 12) (fun id k => (id = 11 ∧ k = 1)) σ0 σ7 := FX_tr f0 cσ7 (fun x (h9 : x = 12) => (show x = 12 from h9)) (fun x k (h9 : (x = 11 ∧ k = 1)) => (show (x = 12) ∨ ((x = 11 ∧ k = 1)) from Or.inr (show (x = 11 ∧ k = 1) from h9)))
          have k_15 : (gi σ7 1 1).toInt = (gi σ0 1 1).toInt := congrArg Int32.toInt (FX_i cσ7 (show ¬ (1 = 12) from by omega) (show ¬ ((1 = 11 ∧ 1 = 1)) from by omega))
          have t_16 := XI_c1 mσ7 (id := 11) (k := 1) (lim_C10_1 (Or.inl rfl))
          exact h9ret (gi σ7 11 1) σ7 mσ7 fσ7 (by first | assumption | exact PBA_0 (by omega) | exact PBA_1 (by omega) | exact PBA_2 (by omega) | exact PBA_3 (by omega)) (H0.trans H.symm)
        · intro q_13
          replace H := f_f q_13 H
          have b_17 : ¬ r5.toInt = 0 := fun h9 => q_13 (Int32.toInt_inj.mp h9)
          have z_18 : (-4 : Int32).toInt = -4 := rfl
          exact h9ret (-4 : Int32) σ0 m0 f0 (by first | assumption | exact PBA_0 (by omega) | exact PBA_1 (by omega) | exact PBA_2 (by omega) | exact PBA_3 (by omega)) (H0.trans H.symm)
      · intro q_11
        replace H := f_f q_11 H
        have b_19 : ¬ a1.toInt ≤ 2 := fun h9 => q_11 (Int32.le_iff_toInt_le.mpr h9)
        have z_20 : (-1 : Int32).toInt = -1 := rfl
        exact h9ret (-1 : Int32) σ0 m0 f0 (by first | assumption | exact PBA_0 (by omega) | exact PBA_1 (by omega) | exact PBA_2 (by omega) | exact PBA_3 (by omega)) (H0.trans H.symm)
  · intro q_3
    replace H := f_t q_3 H
    have w_21 := Int32.toInt_lt a1
    have w_22 := Int32.le_toInt a1
    have b_23 : a1.toInt = (-1) := congrArg Int32.toInt q_3
    intro σ8 eσ8
    replace H := f_l eσ8 H
    have z_24 : (0 : Int32).toInt = 0 := rfl
    have mσ8 : XI (mV M) σ8 := by rw [eσ8]; exact XIs_b m0 (lim_C10_1 (Or.inl rfl)) (by omega) (by omega)
    have fσ8 : FX (fun id => id = 12) (fun id k => (id = 11 ∧ k = 1)) σ0 σ8 := by rw [eσ8]; exact FX_si f0 (Or.inr (show (11 = 11 ∧ 1 = 1) from ⟨rfl, rfl⟩))
    have k_25 : (gi σ8 1 1).toInt = (gi σ0 1 1).toInt := by rw [eσ8]; exact congrArg Int32.toInt (gi_si_ne (Or.inl (by omega)))
    have k_26 : (gi σ8 11 1).toInt = 0 := by rw [eσ8]; exact congrArg Int32.toInt gi_si_eq
    exact h9ret (0 : Int32) σ8 mσ8 fσ8 (by first | assumption | exact PBA_0 (by omega) | exact PBA_1 (by omega) | exact PBA_2 (by omega) | exact PBA_3 (by omega)) (H0.trans H.symm)
set_option maxRecDepth 100000 in
set_option maxHeartbeats 4000000 in
theorem kH_X12_plan {l : Launch} {V : Vx} {a1 : Int32} {σ0 : Sg} {Qk : Int32 → Sg → Prop} (m0 : MI σ0) (h9ret : ∀ (r : Int32) (σ' : Sg), MI σ' → Fr [74, 147] [45] σ0 σ' → (PBA r a1 (gi σ0 74 45) (gi σ' 74 45) (2) 10) → (F_X12_plan a1 σ0 = (r, σ')) → Qk r σ') : K_X12_plan l V a1 σ0 Qk := by
  refine e_X12_plan (fun M hl hV hN C => ?_)
  subst hl
  subst hV
  obtain ⟨R9, H0⟩ : ∃ R9, F_X12_plan a1 σ0 = R9 := ⟨_, rfl⟩
  have f0 : Fr [74, 147] [45] σ0 σ0 := Fr_rf
  have H := H0
  unfold F_X12_plan at H
  refine s_X12_plan_0 C hN ?_
  refine ⟨?_, ?_⟩
  · intro q_1
    replace H := f_f q_1 H
    have w_2 := Int32.toInt_lt a1
    have w_3 := Int32.le_toInt a1
    have b_4 : ¬ a1.toInt = (-1) := fun h9 => q_1 (Int32.toInt_inj.mp h9)
    refine kF_X12_in m0  (fun r3 σ2 mσ2 cσ2 plσ2 phσ2 (pσ2_0 : (r3.toInt = 1 ∧ (0 : Int) ≤ a1.toInt ∧ a1.toInt ≤ (2 : Int)) ∨ (r3.toInt = 0 ∧ (a1.toInt < (0 : Int) ∨ (2 : Int) < a1.toInt))) hσ2 => ?_)
    obtain rfl := Fr_nil cσ2
    replace H := f_b hσ2 H
    refine ⟨?_, ?_⟩
    · intro q_5
      replace H := f_f q_5 H
      have b_6 : ¬ r3.toInt = 0 := fun h9 => q_5 (Int32.toInt_inj.mp h9)
      refine ⟨?_, ?_⟩
      · intro q_7
        replace H := f_f q_7 H
        have t_8 := MI_f45 m0
        have b_9 : ¬ (gi σ0 74 45).toInt = 10 := fun h9 => q_7 (Int32.toInt_inj.mp h9)
        have hv_10 : vp_in (gi σ0 74 45) 10 := vp_in_iff.mpr ⟨by omega, by omega⟩
        refine ⟨hv_10, ?_⟩
        intro σ7 eσ7
        replace H := f_l eσ7 H
        have mσ7 : MI σ7 := by rw [eσ7]; exact MIs_au (a := 147) m0 rfl rfl
        have fσ7 : Fr [74, 147] [45] σ0 σ7 := by rw [eσ7]; exact Fr_si f0 (by decide) (fun h9 => absurd h9 (by decide))
        have k_11 : (gi σ7 74 45).toInt = (gi σ0 74 45).toInt := by rw [eσ7]; exact congrArg Int32.toInt (gi_si_ne (Or.inl (by decide)))
        intro σ8 eσ8
        replace H := f_l eσ8 H
        have t_12 := MI_f45 mσ7
        have t_13 : ((gi σ7 74 45) + (1 : Int32)).toInt = (gi σ7 74 45).toInt + 1 := i_add (x := (gi σ7 74 45)) (y := (1 : Int32)) (by show (_ : Int) ≤ (gi σ7 74 45).toInt + 1; omega) (by show (gi σ7 74 45).toInt + 1 ≤ (_ : Int); omega)
        have mσ8 : MI σ8 := by rw [eσ8]; exact MIs_f45 mσ7 (by omega) (by omega)
        have fσ8 : Fr [74, 147] [45] σ0 σ8 := by rw [eσ8]; exact Fr_si fσ7 (by decide) (fun _ => by decide)
        have k_14 : (gi σ8 74 45).toInt = ((gi σ7 74 45) + (1 : Int32)).toInt := by rw [eσ8]; exact congrArg Int32.toInt gi_si_eq
        have t_15 := MI_f45 mσ8
        exact h9ret (gi σ8 74 45) σ8 mσ8 fσ8 (by first | assumption | exact PBA_0 (by omega) | exact PBA_1 (by omega) | exact PBA_2 (by omega) | exact PBA_3 (by omega)) (H0.trans H.symm)
      · intro q_7
        replace H := f_t q_7 H
        have t_16 := MI_f45 m0
        have b_17 : (gi σ0 74 45).toInt = 10 := congrArg Int32.toInt q_7
        have z_18 : (-4 : Int32).toInt = -4 := rfl
        exact h9ret (-4 : Int32) σ0 m0 f0 (by first | assumption | exact PBA_0 (by omega) | exact PBA_1 (by omega) | exact PBA_2 (by omega) | exact PBA_3 (by omega)) (H0.trans H.symm)
    · intro q_5
      replace H := f_t q_5 H
      have b_19 : r3.toInt = 0 := congrArg Int32.toInt q_5
      have z_20 : (-1 : Int32).toInt = -1 := rfl
      exact h9ret (-1 : Int32) σ0 m0 f0 (by first | assumption | exact PBA_0 (by omega) | exact PBA_1 (by omega) | exact PBA_2 (by omega) | exact PBA_3 (by omega)) (H0.trans H.symm)
  · intro q_1
    replace H := f_t q_1 H
    have w_21 := Int32.toInt_lt a1
    have w_22 := Int32.le_toInt a1
    have b_23 : a1.toInt = (-1) := congrArg Int32.toInt q_1
    intro σ9 eσ9
    replace H := f_l eσ9 H
    have z_24 : (0 : Int32).toInt = 0 := rfl
    have mσ9 : MI σ9 := by rw [eσ9]; exact MIs_f45 m0 (by omega) (by omega)
    have fσ9 : Fr [74, 147] [45] σ0 σ9 := by rw [eσ9]; exact Fr_si f0 (by decide) (fun _ => by decide)
    have k_25 : (gi σ9 74 45).toInt = 0 := by rw [eσ9]; exact congrArg Int32.toInt gi_si_eq
    exact h9ret (0 : Int32) σ9 mσ9 fσ9 (by first | assumption | exact PBA_0 (by omega) | exact PBA_1 (by omega) | exact PBA_2 (by omega) | exact PBA_3 (by omega)) (H0.trans H.symm)
set_option maxRecDepth 100000 in
set_option maxHeartbeats 4000000 in
theorem kH_X11_image {l : Launch} {V : Vx} {σ0 : Sg} {Qk : Int32 → Sg → Prop} (m0 : XI V σ0) (nn_1 : NN σ0 1) (h9ret : ∀ (r : Int32) (σ' : Sg), XI V σ' → FX (fun id => id = 18 ∨ id = 19 ∨ id = 20 ∨ id = 21 ∨ id = 22 ∨ id = 23 ∨ id = 24 ∨ id = 26 ∨ id = 28 ∨ id = 30) (fun id k => (id = 0 ∧ k = 3) ∨ (id = 17 ∧ k = 1) ∨ (id = 17 ∧ k = 3) ∨ (id = 17 ∧ k = 9) ∨ (id = 17 ∧ k = 10) ∨ (id = 17 ∧ k = 11) ∨ (id = 25 ∧ k = 1) ∨ (id = 27 ∧ k = 1) ∨ (id = 29 ∧ k = 1)) σ0 σ' → (NN σ' 1) → (NN σ' 17) → ((gi σ' 17 1).toInt = (gi σ0 1 1).toInt) → ((gi σ' 17 3).toInt = (gi σ0 1 3).toInt) → ((gi σ' 17 9).toInt = (gi σ0 1 9).toInt) → ((gi σ' 25 1).toInt = (gi σ0 9 1).toInt) → (CPY σ0 σ' 17 1) → ((gi σ' 27 1).toInt = (gi σ0 11 1).toInt) → ((gi σ' 29 1).toInt = (gi σ0 13 1).toInt) → ((gi σ' 0 3).toInt = 1) → (r.toInt = (gi σ0 1 1).toInt) → (F_X11_image σ0 = (r, σ')) → Qk r σ') : K_X11_image l V σ0 Qk := by
  refine e_X11_image (fun M hl hV hN C => ?_)
  subst hl
  subst hV
  obtain ⟨R9, H0⟩ : ∃ R9, F_X11_image σ0 = R9 := ⟨_, rfl⟩
  have f0 : FX (fun id => id = 18 ∨ id = 19 ∨ id = 20 ∨ id = 21 ∨ id = 22 ∨ id = 23 ∨ id = 24 ∨ id = 26 ∨ id = 28 ∨ id = 30) (fun id k => (id = 0 ∧ k = 3) ∨ (id = 17 ∧ k = 1) ∨ (id = 17 ∧ k = 3) ∨ (id = 17 ∧ k = 9) ∨ (id = 17 ∧ k = 10) ∨ (id = 17 ∧ k = 11) ∨ (id = 25 ∧ k = 1) ∨ (id = 27 ∧ k = 1) ∨ (id = 29 ∧ k = 1)) σ0 σ0 := FX_rf
  have t_1 := XI_c1 m0 (id := 0) (k := 3) (rfl)
  have t_2 := XI_c1 m0 (id := 1) (k := 1) (lim_C0_1 (Or.inl rfl))
  have t_3 := XI_c1 m0 (id := 1) (k := 3) (lim_C0_3 (Or.inl rfl))
  have t_4 := XI_c1 m0 (id := 1) (k := 9) (lim_C0_9 (Or.inl rfl))
  have t_5 := XI_c1 m0 (id := 11) (k := 1) (lim_C10_1 (Or.inl rfl))
  have t_6 := XI_c1 m0 (id := 13) (k := 1) (lim_C12_1 (Or.inl rfl))
  have t_7 := XI_c1 m0 (id := 17) (k := 1) (lim_C0_1 (Or.inr (Or.inl rfl)))
  have t_8 := XI_c1 m0 (id := 17) (k := 3) (lim_C0_3 (Or.inr (Or.inl rfl)))
  have t_9 := XI_c1 m0 (id := 17) (k := 9) (lim_C0_9 (Or.inr (Or.inl rfl)))
  have t_10 := XI_c1 m0 (id := 25) (k := 1) (lim_C8_1 (Or.inr (Or.inl rfl)))
  have t_11 := XI_c1 m0 (id := 27) (k := 1) (lim_C10_1 (Or.inr (Or.inl rfl)))
  have t_12 := XI_c1 m0 (id := 29) (k := 1) (lim_C12_1 (Or.inr (Or.inl rfl)))
  have t_13 := XI_c1 m0 (id := 9) (k := 1) (lim_C8_1 (Or.inl rfl))
  have H := H0
  unfold F_X11_image at H
  refine s_X11_image_0 C hN  ?_
  have z_14 : (1 : Int32).toInt = 1 := rfl
  refine kF_X1_becomes (Or.inr (Or.inl rfl)) (Or.inl rfl) m0 nn_1 (by first | omega | assumption | rfl) (fun σ1 mσ1 cσ1 nσ1_1 nσ1_17 (pσ1_0 : (gi σ1 17 1).toInt = (gi σ0 1 1).toInt) (pσ1_1 : (gi σ1 17 3).toInt = (gi σ0 1 3).toInt) (pσ1_2 : (gi σ1 17 9).toInt = (gi σ0 1 9).toInt) (pσ1_3 : CPY σ0 σ1 17 1) hσ1 => ?_)
  replace H := f_v hσ1 H
  have fσ1 : FX (fun id => id = 18 ∨ id = 19 ∨ id = 20 ∨ id = 21 ∨ id = 22 ∨ id = 23 ∨ id = 24 ∨ id = 26 ∨ id = 28 ∨ id = 30) (fun id k => (id = 0 ∧ k = 3) ∨ (id = 17 ∧ k = 1) ∨ (id = 17 ∧ k = 3) ∨ (id = 17 ∧ k = 9) ∨ (id = 17 ∧ k = 10) ∨ (id = 17 ∧ k = 11) ∨ (id = 25 ∧ k = 1) ∨ (id = 27 ∧ k = 1) ∨ (id = 29 ∧ k = 1)) σ0 σ1 := FX_tr f0 cσ1 (fun x (h9 : x = 18 ∨ x = 19 ∨ x = 20 ∨ x = 21 ∨ x = 22 ∨ x = 23 ∨ x = 24) => h9.elim (fun e9 => (show x = 18 ∨ x = 19 ∨ x = 20 ∨ x = 21 ∨ x = 22 ∨ x = 23 ∨ x = 24 ∨ x = 26 ∨ x = 28 ∨ x = 30 from Or.inl (e9))) (fun h9 => h9.elim (fun e9 => (show x = 18 ∨ x = 19 ∨ x = 20 ∨ x = 21 ∨ x = 22 ∨ x = 23 ∨ x = 24 ∨ x = 26 ∨ x = 28 ∨ x = 30 from Or.inr (Or.inl (e9)))) (fun h9 => h9.elim (fun e9 => (show x = 18 ∨ x = 19 ∨ x = 20 ∨ x = 21 ∨ x = 22 ∨ x = 23 ∨ x = 24 ∨ x = 26 ∨ x = 28 ∨ x = 30 from Or.inr (Or.inr (Or.inl (e9))))) (fun h9 => h9.elim (fun e9 => (show x = 18 ∨ x = 19 ∨ x = 20 ∨ x = 21 ∨ x = 22 ∨ x = 23 ∨ x = 24 ∨ x = 26 ∨ x = 28 ∨ x = 30 from Or.inr (Or.inr (Or.inr (Or.inl (e9)))))) (fun h9 => h9.elim (fun e9 => (show x = 18 ∨ x = 19 ∨ x = 20 ∨ x = 21 ∨ x = 22 ∨ x = 23 ∨ x = 24 ∨ x = 26 ∨ x = 28 ∨ x = 30 from Or.inr (Or.inr (Or.inr (Or.inr (Or.inl (e9))))))) (fun h9 => h9.elim (fun e9 => (show x = 18 ∨ x = 19 ∨ x = 20 ∨ x = 21 ∨ x = 22 ∨ x = 23 ∨ x = 24 ∨ x = 26 ∨ x = 28 ∨ x = 30 from Or.inr (Or.inr (Or.inr (Or.inr (Or.inr (Or.inl (e9)))))))) (fun h9 => (show x = 18 ∨ x = 19 ∨ x = 20 ∨ x = 21 ∨ x = 22 ∨ x = 23 ∨ x = 24 ∨ x = 26 ∨ x = 28 ∨ x = 30 from Or.inr (Or.inr (Or.inr (Or.inr (Or.inr (Or.inr (Or.inl (h9))))))))))))))) (fun x k (h9 : (x = 17 ∧ k = 1) ∨ (x = 17 ∧ k = 3) ∨ (x = 17 ∧ k = 9) ∨ (x = 17 ∧ k = 10) ∨ (x = 17 ∧ k = 11)) => (show (x = 18 ∨ x = 19 ∨ x = 20 ∨ x = 21 ∨ x = 22 ∨ x = 23 ∨ x = 24 ∨ x = 26 ∨ x = 28 ∨ x = 30) ∨ ((x = 0 ∧ k = 3) ∨ (x = 17 ∧ k = 1) ∨ (x = 17 ∧ k = 3) ∨ (x = 17 ∧ k = 9) ∨ (x = 17 ∧ k = 10) ∨ (x = 17 ∧ k = 11) ∨ (x = 25 ∧ k = 1) ∨ (x = 27 ∧ k = 1) ∨ (x = 29 ∧ k = 1)) from h9.elim (fun e9 => Or.inr (show (x = 0 ∧ k = 3) ∨ (x = 17 ∧ k = 1) ∨ (x = 17 ∧ k = 3) ∨ (x = 17 ∧ k = 9) ∨ (x = 17 ∧ k = 10) ∨ (x = 17 ∧ k = 11) ∨ (x = 25 ∧ k = 1) ∨ (x = 27 ∧ k = 1) ∨ (x = 29 ∧ k = 1) from Or.inr (Or.inl (e9)))) (fun h9 => h9.elim (fun e9 => Or.inr (show (x = 0 ∧ k = 3) ∨ (x = 17 ∧ k = 1) ∨ (x = 17 ∧ k = 3) ∨ (x = 17 ∧ k = 9) ∨ (x = 17 ∧ k = 10) ∨ (x = 17 ∧ k = 11) ∨ (x = 25 ∧ k = 1) ∨ (x = 27 ∧ k = 1) ∨ (x = 29 ∧ k = 1) from Or.inr (Or.inr (Or.inl (e9))))) (fun h9 => h9.elim (fun e9 => Or.inr (show (x = 0 ∧ k = 3) ∨ (x = 17 ∧ k = 1) ∨ (x = 17 ∧ k = 3) ∨ (x = 17 ∧ k = 9) ∨ (x = 17 ∧ k = 10) ∨ (x = 17 ∧ k = 11) ∨ (x = 25 ∧ k = 1) ∨ (x = 27 ∧ k = 1) ∨ (x = 29 ∧ k = 1) from Or.inr (Or.inr (Or.inr (Or.inl (e9)))))) (fun h9 => h9.elim (fun e9 => Or.inr (show (x = 0 ∧ k = 3) ∨ (x = 17 ∧ k = 1) ∨ (x = 17 ∧ k = 3) ∨ (x = 17 ∧ k = 9) ∨ (x = 17 ∧ k = 10) ∨ (x = 17 ∧ k = 11) ∨ (x = 25 ∧ k = 1) ∨ (x = 27 ∧ k = 1) ∨ (x = 29 ∧ k = 1) from Or.inr (Or.inr (Or.inr (Or.inr (Or.inl (e9))))))) (fun h9 => Or.inr (show (x = 0 ∧ k = 3) ∨ (x = 17 ∧ k = 1) ∨ (x = 17 ∧ k = 3) ∨ (x = 17 ∧ k = 9) ∨ (x = 17 ∧ k = 10) ∨ (x = 17 ∧ k = 11) ∨ (x = 25 ∧ k = 1) ∨ (x = 27 ∧ k = 1) ∨ (x = 29 ∧ k = 1) from Or.inr (Or.inr (Or.inr (Or.inr (Or.inr (Or.inl (h9)))))))))))))
  have k_15 : (gi σ1 0 3).toInt = (gi σ0 0 3).toInt := congrArg Int32.toInt (FX_i cσ1 (show ¬ (0 = 18 ∨ 0 = 19 ∨ 0 = 20 ∨ 0 = 21 ∨ 0 = 22 ∨ 0 = 23 ∨ 0 = 24) from by omega) (show ¬ ((0 = 17 ∧ 3 = 1) ∨ (0 = 17 ∧ 3 = 3) ∨ (0 = 17 ∧ 3 = 9) ∨ (0 = 17 ∧ 3 = 10) ∨ (0 = 17 ∧ 3 = 11)) from by omega))
  have k_16 : (gi σ1 1 1).toInt = (gi σ0 1 1).toInt := congrArg Int32.toInt (FX_i cσ1 (show ¬ (1 = 18 ∨ 1 = 19 ∨ 1 = 20 ∨ 1 = 21 ∨ 1 = 22 ∨ 1 = 23 ∨ 1 = 24) from by omega) (show ¬ ((1 = 17 ∧ 1 = 1) ∨ (1 = 17 ∧ 1 = 3) ∨ (1 = 17 ∧ 1 = 9) ∨ (1 = 17 ∧ 1 = 10) ∨ (1 = 17 ∧ 1 = 11)) from by omega))
  have k_17 : (gi σ1 1 3).toInt = (gi σ0 1 3).toInt := congrArg Int32.toInt (FX_i cσ1 (show ¬ (1 = 18 ∨ 1 = 19 ∨ 1 = 20 ∨ 1 = 21 ∨ 1 = 22 ∨ 1 = 23 ∨ 1 = 24) from by omega) (show ¬ ((1 = 17 ∧ 3 = 1) ∨ (1 = 17 ∧ 3 = 3) ∨ (1 = 17 ∧ 3 = 9) ∨ (1 = 17 ∧ 3 = 10) ∨ (1 = 17 ∧ 3 = 11)) from by omega))
  have k_18 : (gi σ1 1 9).toInt = (gi σ0 1 9).toInt := congrArg Int32.toInt (FX_i cσ1 (show ¬ (1 = 18 ∨ 1 = 19 ∨ 1 = 20 ∨ 1 = 21 ∨ 1 = 22 ∨ 1 = 23 ∨ 1 = 24) from by omega) (show ¬ ((1 = 17 ∧ 9 = 1) ∨ (1 = 17 ∧ 9 = 3) ∨ (1 = 17 ∧ 9 = 9) ∨ (1 = 17 ∧ 9 = 10) ∨ (1 = 17 ∧ 9 = 11)) from by omega))
  have k_19 : (gi σ1 11 1).toInt = (gi σ0 11 1).toInt := congrArg Int32.toInt (FX_i cσ1 (show ¬ (11 = 18 ∨ 11 = 19 ∨ 11 = 20 ∨ 11 = 21 ∨ 11 = 22 ∨ 11 = 23 ∨ 11 = 24) from by omega) (show ¬ ((11 = 17 ∧ 1 = 1) ∨ (11 = 17 ∧ 1 = 3) ∨ (11 = 17 ∧ 1 = 9) ∨ (11 = 17 ∧ 1 = 10) ∨ (11 = 17 ∧ 1 = 11)) from by omega))
  have k_20 : (gi σ1 13 1).toInt = (gi σ0 13 1).toInt := congrArg Int32.toInt (FX_i cσ1 (show ¬ (13 = 18 ∨ 13 = 19 ∨ 13 = 20 ∨ 13 = 21 ∨ 13 = 22 ∨ 13 = 23 ∨ 13 = 24) from by omega) (show ¬ ((13 = 17 ∧ 1 = 1) ∨ (13 = 17 ∧ 1 = 3) ∨ (13 = 17 ∧ 1 = 9) ∨ (13 = 17 ∧ 1 = 10) ∨ (13 = 17 ∧ 1 = 11)) from by omega))
  have t_21 := XI_c1 mσ1 (id := 17) (k := 1) (lim_C0_1 (Or.inr (Or.inl rfl)))
  have t_22 := XI_c1 mσ1 (id := 17) (k := 3) (lim_C0_3 (Or.inr (Or.inl rfl)))
  have t_23 := XI_c1 mσ1 (id := 17) (k := 9) (lim_C0_9 (Or.inr (Or.inl rfl)))
  have k_24 : (gi σ1 25 1).toInt = (gi σ0 25 1).toInt := congrArg Int32.toInt (FX_i cσ1 (show ¬ (25 = 18 ∨ 25 = 19 ∨ 25 = 20 ∨ 25 = 21 ∨ 25 = 22 ∨ 25 = 23 ∨ 25 = 24) from by omega) (show ¬ ((25 = 17 ∧ 1 = 1) ∨ (25 = 17 ∧ 1 = 3) ∨ (25 = 17 ∧ 1 = 9) ∨ (25 = 17 ∧ 1 = 10) ∨ (25 = 17 ∧ 1 = 11)) from by omega))
  have k_25 : (gi σ1 27 1).toInt = (gi σ0 27 1).toInt := congrArg Int32.toInt (FX_i cσ1 (show ¬ (27 = 18 ∨ 27 = 19 ∨ 27 = 20 ∨ 27 = 21 ∨ 27 = 22 ∨ 27 = 23 ∨ 27 = 24) from by omega) (show ¬ ((27 = 17 ∧ 1 = 1) ∨ (27 = 17 ∧ 1 = 3) ∨ (27 = 17 ∧ 1 = 9) ∨ (27 = 17 ∧ 1 = 10) ∨ (27 = 17 ∧ 1 = 11)) from by omega))
  have k_26 : (gi σ1 29 1).toInt = (gi σ0 29 1).toInt := congrArg Int32.toInt (FX_i cσ1 (show ¬ (29 = 18 ∨ 29 = 19 ∨ 29 = 20 ∨ 29 = 21 ∨ 29 = 22 ∨ 29 = 23 ∨ 29 = 24) from by omega) (show ¬ ((29 = 17 ∧ 1 = 1) ∨ (29 = 17 ∧ 1 = 3) ∨ (29 = 17 ∧ 1 = 9) ∨ (29 = 17 ∧ 1 = 10) ∨ (29 = 17 ∧ 1 = 11)) from by omega))
  have k_27 : (gi σ1 9 1).toInt = (gi σ0 9 1).toInt := congrArg Int32.toInt (FX_i cσ1 (show ¬ (9 = 18 ∨ 9 = 19 ∨ 9 = 20 ∨ 9 = 21 ∨ 9 = 22 ∨ 9 = 23 ∨ 9 = 24) from by omega) (show ¬ ((9 = 17 ∧ 1 = 1) ∨ (9 = 17 ∧ 1 = 3) ∨ (9 = 17 ∧ 1 = 9) ∨ (9 = 17 ∧ 1 = 10) ∨ (9 = 17 ∧ 1 = 11)) from by omega))
  have cy9 : CPY σ0 σ1 17 1 := by assumption
  refine kF_X1_becomesTold (Or.inr (Or.inl rfl)) (Or.inl rfl) mσ1  (by first | omega | assumption | rfl) (fun σ2 mσ2 cσ2 (pσ2_0 : (gi σ2 25 1).toInt = (gi σ1 9 1).toInt) (pσ2_1 : (gi σ2 27 1).toInt = (gi σ1 11 1).toInt) (pσ2_2 : (gi σ2 29 1).toInt = (gi σ1 13 1).toInt) hσ2 => ?_)
  replace H := f_v hσ2 H
  have fσ2 : FX (fun id => id = 18 ∨ id = 19 ∨ id = 20 ∨ id = 21 ∨ id = 22 ∨ id = 23 ∨ id = 24 ∨ id = 26 ∨ id = 28 ∨ id = 30) (fun id k => (id = 0 ∧ k = 3) ∨ (id = 17 ∧ k = 1) ∨ (id = 17 ∧ k = 3) ∨ (id = 17 ∧ k = 9) ∨ (id = 17 ∧ k = 10) ∨ (id = 17 ∧ k = 11) ∨ (id = 25 ∧ k = 1) ∨ (id = 27 ∧ k = 1) ∨ (id = 29 ∧ k = 1)) σ0 σ2 := FX_tr fσ1 cσ2 (fun x (h9 : x = 28 ∨ x = 30 ∨ x = 26) => h9.elim (fun e9 => (show x = 18 ∨ x = 19 ∨ x = 20 ∨ x = 21 ∨ x = 22 ∨ x = 23 ∨ x = 24 ∨ x = 26 ∨ x = 28 ∨ x = 30 from Or.inr (Or.inr (Or.inr (Or.inr (Or.inr (Or.inr (Or.inr (Or.inr (Or.inl (e9))))))))))) (fun h9 => h9.elim (fun e9 => (show x = 18 ∨ x = 19 ∨ x = 20 ∨ x = 21 ∨ x = 22 ∨ x = 23 ∨ x = 24 ∨ x = 26 ∨ x = 28 ∨ x = 30 from Or.inr (Or.inr (Or.inr (Or.inr (Or.inr (Or.inr (Or.inr (Or.inr (Or.inr (e9))))))))))) (fun h9 => (show x = 18 ∨ x = 19 ∨ x = 20 ∨ x = 21 ∨ x = 22 ∨ x = 23 ∨ x = 24 ∨ x = 26 ∨ x = 28 ∨ x = 30 from Or.inr (Or.inr (Or.inr (Or.inr (Or.inr (Or.inr (Or.inr (Or.inl (h9)))))))))))) (fun x k (h9 : (x = 27 ∧ k = 1) ∨ (x = 29 ∧ k = 1) ∨ (x = 25 ∧ k = 1)) => (show (x = 18 ∨ x = 19 ∨ x = 20 ∨ x = 21 ∨ x = 22 ∨ x = 23 ∨ x = 24 ∨ x = 26 ∨ x = 28 ∨ x = 30) ∨ ((x = 0 ∧ k = 3) ∨ (x = 17 ∧ k = 1) ∨ (x = 17 ∧ k = 3) ∨ (x = 17 ∧ k = 9) ∨ (x = 17 ∧ k = 10) ∨ (x = 17 ∧ k = 11) ∨ (x = 25 ∧ k = 1) ∨ (x = 27 ∧ k = 1) ∨ (x = 29 ∧ k = 1)) from h9.elim (fun e9 => Or.inr (show (x = 0 ∧ k = 3) ∨ (x = 17 ∧ k = 1) ∨ (x = 17 ∧ k = 3) ∨ (x = 17 ∧ k = 9) ∨ (x = 17 ∧ k = 10) ∨ (x = 17 ∧ k = 11) ∨ (x = 25 ∧ k = 1) ∨ (x = 27 ∧ k = 1) ∨ (x = 29 ∧ k = 1) from Or.inr (Or.inr (Or.inr (Or.inr (Or.inr (Or.inr (Or.inr (Or.inl (e9)))))))))) (fun h9 => h9.elim (fun e9 => Or.inr (show (x = 0 ∧ k = 3) ∨ (x = 17 ∧ k = 1) ∨ (x = 17 ∧ k = 3) ∨ (x = 17 ∧ k = 9) ∨ (x = 17 ∧ k = 10) ∨ (x = 17 ∧ k = 11) ∨ (x = 25 ∧ k = 1) ∨ (x = 27 ∧ k = 1) ∨ (x = 29 ∧ k = 1) from Or.inr (Or.inr (Or.inr (Or.inr (Or.inr (Or.inr (Or.inr (Or.inr (e9)))))))))) (fun h9 => Or.inr (show (x = 0 ∧ k = 3) ∨ (x = 17 ∧ k = 1) ∨ (x = 17 ∧ k = 3) ∨ (x = 17 ∧ k = 9) ∨ (x = 17 ∧ k = 10) ∨ (x = 17 ∧ k = 11) ∨ (x = 25 ∧ k = 1) ∨ (x = 27 ∧ k = 1) ∨ (x = 29 ∧ k = 1) from Or.inr (Or.inr (Or.inr (Or.inr (Or.inr (Or.inr (Or.inl (h9))))))))))))
  have k_28 : (gi σ2 0 3).toInt = (gi σ1 0 3).toInt := congrArg Int32.toInt (FX_i cσ2 (show ¬ (0 = 28 ∨ 0 = 30 ∨ 0 = 26) from by omega) (show ¬ ((0 = 27 ∧ 3 = 1) ∨ (0 = 29 ∧ 3 = 1) ∨ (0 = 25 ∧ 3 = 1)) from by omega))
  have k_29 : (gi σ2 1 1).toInt = (gi σ1 1 1).toInt := congrArg Int32.toInt (FX_i cσ2 (show ¬ (1 = 28 ∨ 1 = 30 ∨ 1 = 26) from by omega) (show ¬ ((1 = 27 ∧ 1 = 1) ∨ (1 = 29 ∧ 1 = 1) ∨ (1 = 25 ∧ 1 = 1)) from by omega))
  have k_30 : (gi σ2 1 3).toInt = (gi σ1 1 3).toInt := congrArg Int32.toInt (FX_i cσ2 (show ¬ (1 = 28 ∨ 1 = 30 ∨ 1 = 26) from by omega) (show ¬ ((1 = 27 ∧ 3 = 1) ∨ (1 = 29 ∧ 3 = 1) ∨ (1 = 25 ∧ 3 = 1)) from by omega))
  have k_31 : (gi σ2 1 9).toInt = (gi σ1 1 9).toInt := congrArg Int32.toInt (FX_i cσ2 (show ¬ (1 = 28 ∨ 1 = 30 ∨ 1 = 26) from by omega) (show ¬ ((1 = 27 ∧ 9 = 1) ∨ (1 = 29 ∧ 9 = 1) ∨ (1 = 25 ∧ 9 = 1)) from by omega))
  have k_32 : (gi σ2 11 1).toInt = (gi σ1 11 1).toInt := congrArg Int32.toInt (FX_i cσ2 (show ¬ (11 = 28 ∨ 11 = 30 ∨ 11 = 26) from by omega) (show ¬ ((11 = 27 ∧ 1 = 1) ∨ (11 = 29 ∧ 1 = 1) ∨ (11 = 25 ∧ 1 = 1)) from by omega))
  have k_33 : (gi σ2 13 1).toInt = (gi σ1 13 1).toInt := congrArg Int32.toInt (FX_i cσ2 (show ¬ (13 = 28 ∨ 13 = 30 ∨ 13 = 26) from by omega) (show ¬ ((13 = 27 ∧ 1 = 1) ∨ (13 = 29 ∧ 1 = 1) ∨ (13 = 25 ∧ 1 = 1)) from by omega))
  have k_34 : (gi σ2 17 1).toInt = (gi σ1 17 1).toInt := congrArg Int32.toInt (FX_i cσ2 (show ¬ (17 = 28 ∨ 17 = 30 ∨ 17 = 26) from by omega) (show ¬ ((17 = 27 ∧ 1 = 1) ∨ (17 = 29 ∧ 1 = 1) ∨ (17 = 25 ∧ 1 = 1)) from by omega))
  have k_35 : (gi σ2 17 3).toInt = (gi σ1 17 3).toInt := congrArg Int32.toInt (FX_i cσ2 (show ¬ (17 = 28 ∨ 17 = 30 ∨ 17 = 26) from by omega) (show ¬ ((17 = 27 ∧ 3 = 1) ∨ (17 = 29 ∧ 3 = 1) ∨ (17 = 25 ∧ 3 = 1)) from by omega))
  have k_36 : (gi σ2 17 9).toInt = (gi σ1 17 9).toInt := congrArg Int32.toInt (FX_i cσ2 (show ¬ (17 = 28 ∨ 17 = 30 ∨ 17 = 26) from by omega) (show ¬ ((17 = 27 ∧ 9 = 1) ∨ (17 = 29 ∧ 9 = 1) ∨ (17 = 25 ∧ 9 = 1)) from by omega))
  have t_37 := XI_c1 mσ2 (id := 25) (k := 1) (lim_C8_1 (Or.inr (Or.inl rfl)))
  have t_38 := XI_c1 mσ2 (id := 27) (k := 1) (lim_C10_1 (Or.inr (Or.inl rfl)))
  have t_39 := XI_c1 mσ2 (id := 29) (k := 1) (lim_C12_1 (Or.inr (Or.inl rfl)))
  have k_40 : (gi σ2 9 1).toInt = (gi σ1 9 1).toInt := congrArg Int32.toInt (FX_i cσ2 (show ¬ (9 = 28 ∨ 9 = 30 ∨ 9 = 26) from by omega) (show ¬ ((9 = 27 ∧ 1 = 1) ∨ (9 = 29 ∧ 1 = 1) ∨ (9 = 25 ∧ 1 = 1)) from by omega))
  have nσ2_1 : NN σ2 1 := NN_fx nσ1_1 cσ2 (show ¬ (1 = 28 ∨ 1 = 30 ∨ 1 = 26) from by omega) (show ¬ (2 = 28 ∨ 2 = 30 ∨ 2 = 26) from by omega) (show ¬ (3 = 28 ∨ 3 = 30 ∨ 3 = 26) from by omega) (show ¬ ((1 = 27 ∧ 1 = 1) ∨ (1 = 29 ∧ 1 = 1) ∨ (1 = 25 ∧ 1 = 1)) from by omega) (show ¬ ((1 = 27 ∧ 3 = 1) ∨ (1 = 29 ∧ 3 = 1) ∨ (1 = 25 ∧ 3 = 1)) from by omega) (fun k (h9 : (2 = 27 ∧ k = 1) ∨ (2 = 29 ∧ k = 1) ∨ (2 = 25 ∧ k = 1)) => by omega) (fun k (h9 : (3 = 27 ∧ k = 1) ∨ (3 = 29 ∧ k = 1) ∨ (3 = 25 ∧ k = 1)) => by omega)
  have nσ2_17 : NN σ2 17 := NN_fx nσ1_17 cσ2 (show ¬ (17 = 28 ∨ 17 = 30 ∨ 17 = 26) from by omega) (show ¬ (18 = 28 ∨ 18 = 30 ∨ 18 = 26) from by omega) (show ¬ (19 = 28 ∨ 19 = 30 ∨ 19 = 26) from by omega) (show ¬ ((17 = 27 ∧ 1 = 1) ∨ (17 = 29 ∧ 1 = 1) ∨ (17 = 25 ∧ 1 = 1)) from by omega) (show ¬ ((17 = 27 ∧ 3 = 1) ∨ (17 = 29 ∧ 3 = 1) ∨ (17 = 25 ∧ 3 = 1)) from by omega) (fun k (h9 : (18 = 27 ∧ k = 1) ∨ (18 = 29 ∧ k = 1) ∨ (18 = 25 ∧ k = 1)) => by omega) (fun k (h9 : (19 = 27 ∧ k = 1) ∨ (19 = 29 ∧ k = 1) ∨ (19 = 25 ∧ k = 1)) => by omega)
  have cy8 : CPY σ0 σ2 17 1 := CPY_fx cy9 cσ2 (by intro id h8 h9; first | omega | exact h9.elim) (by intro id k h8 h9; first | omega | exact h9.elim)
  intro σ3 eσ3
  replace H := f_l eσ3 H
  have mσ3 : XI (mV M) σ3 := by rw [eσ3]; exact XIs_b mσ2 (rfl) (by omega) (by omega)
  have fσ3 : FX (fun id => id = 18 ∨ id = 19 ∨ id = 20 ∨ id = 21 ∨ id = 22 ∨ id = 23 ∨ id = 24 ∨ id = 26 ∨ id = 28 ∨ id = 30) (fun id k => (id = 0 ∧ k = 3) ∨ (id = 17 ∧ k = 1) ∨ (id = 17 ∧ k = 3) ∨ (id = 17 ∧ k = 9) ∨ (id = 17 ∧ k = 10) ∨ (id = 17 ∧ k = 11) ∨ (id = 25 ∧ k = 1) ∨ (id = 27 ∧ k = 1) ∨ (id = 29 ∧ k = 1)) σ0 σ3 := by rw [eσ3]; exact FX_si fσ2 (Or.inr (show (0 = 0 ∧ 3 = 3) ∨ (0 = 17 ∧ 3 = 1) ∨ (0 = 17 ∧ 3 = 3) ∨ (0 = 17 ∧ 3 = 9) ∨ (0 = 17 ∧ 3 = 10) ∨ (0 = 17 ∧ 3 = 11) ∨ (0 = 25 ∧ 3 = 1) ∨ (0 = 27 ∧ 3 = 1) ∨ (0 = 29 ∧ 3 = 1) from Or.inl (⟨rfl, rfl⟩)))
  have k_41 : (gi σ3 0 3).toInt = 1 := by rw [eσ3]; exact congrArg Int32.toInt gi_si_eq
  have k_42 : (gi σ3 1 1).toInt = (gi σ2 1 1).toInt := by rw [eσ3]; exact congrArg Int32.toInt (gi_si_ne (Or.inl (by omega)))
  have k_43 : (gi σ3 1 3).toInt = (gi σ2 1 3).toInt := by rw [eσ3]; exact congrArg Int32.toInt (gi_si_ne (Or.inl (by omega)))
  have k_44 : (gi σ3 1 9).toInt = (gi σ2 1 9).toInt := by rw [eσ3]; exact congrArg Int32.toInt (gi_si_ne (Or.inl (by omega)))
  have k_45 : (gi σ3 11 1).toInt = (gi σ2 11 1).toInt := by rw [eσ3]; exact congrArg Int32.toInt (gi_si_ne (Or.inl (by omega)))
  have k_46 : (gi σ3 13 1).toInt = (gi σ2 13 1).toInt := by rw [eσ3]; exact congrArg Int32.toInt (gi_si_ne (Or.inl (by omega)))
  have k_47 : (gi σ3 17 1).toInt = (gi σ2 17 1).toInt := by rw [eσ3]; exact congrArg Int32.toInt (gi_si_ne (Or.inl (by omega)))
  have k_48 : (gi σ3 17 3).toInt = (gi σ2 17 3).toInt := by rw [eσ3]; exact congrArg Int32.toInt (gi_si_ne (Or.inl (by omega)))
  have k_49 : (gi σ3 17 9).toInt = (gi σ2 17 9).toInt := by rw [eσ3]; exact congrArg Int32.toInt (gi_si_ne (Or.inl (by omega)))
  have k_50 : (gi σ3 25 1).toInt = (gi σ2 25 1).toInt := by rw [eσ3]; exact congrArg Int32.toInt (gi_si_ne (Or.inl (by omega)))
  have k_51 : (gi σ3 27 1).toInt = (gi σ2 27 1).toInt := by rw [eσ3]; exact congrArg Int32.toInt (gi_si_ne (Or.inl (by omega)))
  have k_52 : (gi σ3 29 1).toInt = (gi σ2 29 1).toInt := by rw [eσ3]; exact congrArg Int32.toInt (gi_si_ne (Or.inl (by omega)))
  have k_53 : (gi σ3 9 1).toInt = (gi σ2 9 1).toInt := by rw [eσ3]; exact congrArg Int32.toInt (gi_si_ne (Or.inl (by omega)))
  have nσ3_1 : NN σ3 1 := by rw [eσ3]; exact NN_si nσ2_1 (by omega) (fun h9 => absurd h9 (by omega))
  have nσ3_17 : NN σ3 17 := by rw [eσ3]; exact NN_si nσ2_17 (by omega) (fun h9 => absurd h9 (by omega))
  have cy8 : CPY σ0 σ3 17 1 := by rw [eσ3]; exact CPY_si cy8 (by decide)
  have t_54 := XI_c1 mσ3 (id := 1) (k := 1) (lim_C0_1 (Or.inl rfl))
  exact h9ret (gi σ3 1 1) σ3 mσ3 fσ3 nσ3_1 nσ3_17 (by first | omega | assumption | rfl) (by first | omega | assumption | rfl) (by first | omega | assumption | rfl) (by first | omega | assumption | rfl) (by first | assumption | exact fun _ => by assumption | exact fun h9 => absurd (by assumption) h9) (by first | omega | assumption | rfl) (by first | omega | assumption | rfl) (by first | omega | assumption | rfl) (by first | omega | assumption | rfl) (H0.trans H.symm)
set_option maxRecDepth 100000 in
set_option maxHeartbeats 4000000 in
theorem kH_X11_undo {l : Launch} {V : Vx} {σ0 : Sg} {Qk : Int32 → Sg → Prop} (m0 : XI V σ0) (nn_1 : NN σ0 1) (nn_17 : NN σ0 17) (pre0 : (gi σ0 1 9).toInt ≤ 9999) (pre1 : (gi σ0 17 9).toInt ≤ 9999) (pre2 : (gi σ0 1 3).toInt = (gi σ0 1 1).toInt) (pre3 : (gi σ0 17 3).toInt = (gi σ0 17 1).toInt) (pre4 : (gi σ0 9 1).toInt % 3 = 0) (pre5 : (gi σ0 25 1).toInt % 3 = 0) (h9ret : ∀ (r : Int32) (σ' : Sg), XI V σ' → FX (fun id => id = 10 ∨ id = 12 ∨ id = 14 ∨ id = 2 ∨ id = 3 ∨ id = 4 ∨ id = 5 ∨ id = 6 ∨ id = 7 ∨ id = 8) (fun id k => (id = 1 ∧ k = 1) ∨ (id = 1 ∧ k = 3) ∨ (id = 1 ∧ k = 9) ∨ (id = 1 ∧ k = 10) ∨ (id = 1 ∧ k = 11) ∨ (id = 11 ∧ k = 1) ∨ (id = 13 ∧ k = 1) ∨ (id = 9 ∧ k = 1)) σ0 σ' → (NN σ' 1) → (NN σ' 17) → ((gi σ' 1 9).toInt ≤ 9999) → ((gi σ' 1 3).toInt = (gi σ' 1 1).toInt) → ((gi σ' 9 1).toInt % 3 = 0) → ((gi σ0 0 3).toInt ≠ 0 → CPY σ0 σ' 1 17) → ((gi σ0 0 3).toInt = 0 → σ' = σ0) → (((gi σ0 0 3).toInt = 0 → r.toInt = -3 ∧ (gi σ' 1 1).toInt = (gi σ0 1 1).toInt ∧ (gi σ' 11 1).toInt = (gi σ0 11 1).toInt ∧ (gi σ' 13 1).toInt = (gi σ0 13 1).toInt ∧ (gi σ' 1 9).toInt = (gi σ0 1 9).toInt ∧ (gi σ' 9 1).toInt = (gi σ0 9 1).toInt) ∧ ((gi σ0 0 3).toInt ≠ 0 → r.toInt = (gi σ0 17 1).toInt ∧ (gi σ' 1 1).toInt = (gi σ0 17 1).toInt ∧ (gi σ' 11 1).toInt = (gi σ0 27 1).toInt ∧ (gi σ' 13 1).toInt = (gi σ0 29 1).toInt ∧ (gi σ' 1 9).toInt = (gi σ0 17 9).toInt ∧ (gi σ' 9 1).toInt = (gi σ0 25 1).toInt)) → (F_X11_undo σ0 = (r, σ')) → Qk r σ') : K_X11_undo l V σ0 Qk := by
  refine e_X11_undo (fun M hl hV hN C => ?_)
  subst hl
  subst hV
  obtain ⟨R9, H0⟩ : ∃ R9, F_X11_undo σ0 = R9 := ⟨_, rfl⟩
  have f0 : FX (fun id => id = 10 ∨ id = 12 ∨ id = 14 ∨ id = 2 ∨ id = 3 ∨ id = 4 ∨ id = 5 ∨ id = 6 ∨ id = 7 ∨ id = 8) (fun id k => (id = 1 ∧ k = 1) ∨ (id = 1 ∧ k = 3) ∨ (id = 1 ∧ k = 9) ∨ (id = 1 ∧ k = 10) ∨ (id = 1 ∧ k = 11) ∨ (id = 11 ∧ k = 1) ∨ (id = 13 ∧ k = 1) ∨ (id = 9 ∧ k = 1)) σ0 σ0 := FX_rf
  have t_1 := XI_c1 m0 (id := 0) (k := 3) (rfl)
  have t_2 := XI_c1 m0 (id := 1) (k := 1) (lim_C0_1 (Or.inl rfl))
  have t_3 := XI_c1 m0 (id := 1) (k := 3) (lim_C0_3 (Or.inl rfl))
  have t_4 := XI_c1 m0 (id := 1) (k := 9) (lim_C0_9 (Or.inl rfl))
  have t_5 := XI_c1 m0 (id := 11) (k := 1) (lim_C10_1 (Or.inl rfl))
  have t_6 := XI_c1 m0 (id := 13) (k := 1) (lim_C12_1 (Or.inl rfl))
  have t_7 := XI_c1 m0 (id := 17) (k := 1) (lim_C0_1 (Or.inr (Or.inl rfl)))
  have t_8 := XI_c1 m0 (id := 17) (k := 3) (lim_C0_3 (Or.inr (Or.inl rfl)))
  have t_9 := XI_c1 m0 (id := 17) (k := 9) (lim_C0_9 (Or.inr (Or.inl rfl)))
  have t_10 := XI_c1 m0 (id := 25) (k := 1) (lim_C8_1 (Or.inr (Or.inl rfl)))
  have t_11 := XI_c1 m0 (id := 27) (k := 1) (lim_C10_1 (Or.inr (Or.inl rfl)))
  have t_12 := XI_c1 m0 (id := 29) (k := 1) (lim_C12_1 (Or.inr (Or.inl rfl)))
  have t_13 := XI_c1 m0 (id := 9) (k := 1) (lim_C8_1 (Or.inl rfl))
  have H := H0
  unfold F_X11_undo at H
  refine s_X11_undo_0 C hN  ?_
  refine ⟨?_, ?_⟩
  · intro q_14
    replace H := f_f q_14 H
    have b_15 : ¬ (gi σ0 0 3).toInt = 0 := fun h9 => q_14 (Int32.toInt_inj.mp h9)
    have z_16 : (17 : Int32).toInt = 17 := rfl
    refine kF_X1_becomes (Or.inl rfl) (Or.inr (Or.inl rfl)) m0 nn_17 (by first | omega | assumption | rfl) (fun σ2 mσ2 cσ2 nσ2_17 nσ2_1 (pσ2_0 : (gi σ2 1 1).toInt = (gi σ0 17 1).toInt) (pσ2_1 : (gi σ2 1 3).toInt = (gi σ0 17 3).toInt) (pσ2_2 : (gi σ2 1 9).toInt = (gi σ0 17 9).toInt) (pσ2_3 : CPY σ0 σ2 1 17) hσ2 => ?_)
    replace H := f_v hσ2 H
    have fσ2 : FX (fun id => id = 10 ∨ id = 12 ∨ id = 14 ∨ id = 2 ∨ id = 3 ∨ id = 4 ∨ id = 5 ∨ id = 6 ∨ id = 7 ∨ id = 8) (fun id k => (id = 1 ∧ k = 1) ∨ (id = 1 ∧ k = 3) ∨ (id = 1 ∧ k = 9) ∨ (id = 1 ∧ k = 10) ∨ (id = 1 ∧ k = 11) ∨ (id = 11 ∧ k = 1) ∨ (id = 13 ∧ k = 1) ∨ (id = 9 ∧ k = 1)) σ0 σ2 := FX_tr f0 cσ2 (fun x (h9 : x = 2 ∨ x = 3 ∨ x = 4 ∨ x = 5 ∨ x = 6 ∨ x = 7 ∨ x = 8) => h9.elim (fun e9 => (show x = 10 ∨ x = 12 ∨ x = 14 ∨ x = 2 ∨ x = 3 ∨ x = 4 ∨ x = 5 ∨ x = 6 ∨ x = 7 ∨ x = 8 from Or.inr (Or.inr (Or.inr (Or.inl (e9)))))) (fun h9 => h9.elim (fun e9 => (show x = 10 ∨ x = 12 ∨ x = 14 ∨ x = 2 ∨ x = 3 ∨ x = 4 ∨ x = 5 ∨ x = 6 ∨ x = 7 ∨ x = 8 from Or.inr (Or.inr (Or.inr (Or.inr (Or.inl (e9))))))) (fun h9 => h9.elim (fun e9 => (show x = 10 ∨ x = 12 ∨ x = 14 ∨ x = 2 ∨ x = 3 ∨ x = 4 ∨ x = 5 ∨ x = 6 ∨ x = 7 ∨ x = 8 from Or.inr (Or.inr (Or.inr (Or.inr (Or.inr (Or.inl (e9)))))))) (fun h9 => h9.elim (fun e9 => (show x = 10 ∨ x = 12 ∨ x = 14 ∨ x = 2 ∨ x = 3 ∨ x = 4 ∨ x = 5 ∨ x = 6 ∨ x = 7 ∨ x = 8 from Or.inr (Or.inr (Or.inr (Or.inr (Or.inr (Or.inr (Or.inl (e9))))))))) (fun h9 => h9.elim (fun e9 => (show x = 10 ∨ x = 12 ∨ x = 14 ∨ x = 2 ∨ x = 3 ∨ x = 4 ∨ x = 5 ∨ x = 6 ∨ x = 7 ∨ x = 8 from Or.inr (Or.inr (Or.inr (Or.inr (Or.inr (Or.inr (Or.inr (Or.inl (e9)))))))))) (fun h9 => h9.elim (fun e9 => (show x = 10 ∨ x = 12 ∨ x = 14 ∨ x = 2 ∨ x = 3 ∨ x = 4 ∨ x = 5 ∨ x = 6 ∨ x = 7 ∨ x = 8 from Or.inr (Or.inr (Or.inr (Or.inr (Or.inr (Or.inr (Or.inr (Or.inr (Or.inl (e9))))))))))) (fun h9 => (show x = 10 ∨ x = 12 ∨ x = 14 ∨ x = 2 ∨ x = 3 ∨ x = 4 ∨ x = 5 ∨ x = 6 ∨ x = 7 ∨ x = 8 from Or.inr (Or.inr (Or.inr (Or.inr (Or.inr (Or.inr (Or.inr (Or.inr (Or.inr (h9))))))))))))))))) (fun x k (h9 : (x = 1 ∧ k = 1) ∨ (x = 1 ∧ k = 3) ∨ (x = 1 ∧ k = 9) ∨ (x = 1 ∧ k = 10) ∨ (x = 1 ∧ k = 11)) => (show (x = 10 ∨ x = 12 ∨ x = 14 ∨ x = 2 ∨ x = 3 ∨ x = 4 ∨ x = 5 ∨ x = 6 ∨ x = 7 ∨ x = 8) ∨ ((x = 1 ∧ k = 1) ∨ (x = 1 ∧ k = 3) ∨ (x = 1 ∧ k = 9) ∨ (x = 1 ∧ k = 10) ∨ (x = 1 ∧ k = 11) ∨ (x = 11 ∧ k = 1) ∨ (x = 13 ∧ k = 1) ∨ (x = 9 ∧ k = 1)) from h9.elim (fun e9 => Or.inr (show (x = 1 ∧ k = 1) ∨ (x = 1 ∧ k = 3) ∨ (x = 1 ∧ k = 9) ∨ (x = 1 ∧ k = 10) ∨ (x = 1 ∧ k = 11) ∨ (x = 11 ∧ k = 1) ∨ (x = 13 ∧ k = 1) ∨ (x = 9 ∧ k = 1) from Or.inl (e9))) (fun h9 => h9.elim (fun e9 => Or.inr (show (x = 1 ∧ k = 1) ∨ (x = 1 ∧ k = 3) ∨ (x = 1 ∧ k = 9) ∨ (x = 1 ∧ k = 10) ∨ (x = 1 ∧ k = 11) ∨ (x = 11 ∧ k = 1) ∨ (x = 13 ∧ k = 1) ∨ (x = 9 ∧ k = 1) from Or.inr (Or.inl (e9)))) (fun h9 => h9.elim (fun e9 => Or.inr (show (x = 1 ∧ k = 1) ∨ (x = 1 ∧ k = 3) ∨ (x = 1 ∧ k = 9) ∨ (x = 1 ∧ k = 10) ∨ (x = 1 ∧ k = 11) ∨ (x = 11 ∧ k = 1) ∨ (x = 13 ∧ k = 1) ∨ (x = 9 ∧ k = 1) from Or.inr (Or.inr (Or.inl (e9))))) (fun h9 => h9.elim (fun e9 => Or.inr (show (x = 1 ∧ k = 1) ∨ (x = 1 ∧ k = 3) ∨ (x = 1 ∧ k = 9) ∨ (x = 1 ∧ k = 10) ∨ (x = 1 ∧ k = 11) ∨ (x = 11 ∧ k = 1) ∨ (x = 13 ∧ k = 1) ∨ (x = 9 ∧ k = 1) from Or.inr (Or.inr (Or.inr (Or.inl (e9)))))) (fun h9 => Or.inr (show (x = 1 ∧ k = 1) ∨ (x = 1 ∧ k = 3) ∨ (x = 1 ∧ k = 9) ∨ (x = 1 ∧ k = 10) ∨ (x = 1 ∧ k = 11) ∨ (x = 11 ∧ k = 1) ∨ (x = 13 ∧ k = 1) ∨ (x = 9 ∧ k = 1) from Or.inr (Or.inr (Or.inr (Or.inr (Or.inl (h9))))))))))))
    have k_17 : (gi σ2 0 3).toInt = (gi σ0 0 3).toInt := congrArg Int32.toInt (FX_i cσ2 (show ¬ (0 = 2 ∨ 0 = 3 ∨ 0 = 4 ∨ 0 = 5 ∨ 0 = 6 ∨ 0 = 7 ∨ 0 = 8) from by omega) (show ¬ ((0 = 1 ∧ 3 = 1) ∨ (0 = 1 ∧ 3 = 3) ∨ (0 = 1 ∧ 3 = 9) ∨ (0 = 1 ∧ 3 = 10) ∨ (0 = 1 ∧ 3 = 11)) from by omega))
    have t_18 := XI_c1 mσ2 (id := 1) (k := 1) (lim_C0_1 (Or.inl rfl))
    have t_19 := XI_c1 mσ2 (id := 1) (k := 3) (lim_C0_3 (Or.inl rfl))
    have t_20 := XI_c1 mσ2 (id := 1) (k := 9) (lim_C0_9 (Or.inl rfl))
    have k_21 : (gi σ2 11 1).toInt = (gi σ0 11 1).toInt := congrArg Int32.toInt (FX_i cσ2 (show ¬ (11 = 2 ∨ 11 = 3 ∨ 11 = 4 ∨ 11 = 5 ∨ 11 = 6 ∨ 11 = 7 ∨ 11 = 8) from by omega) (show ¬ ((11 = 1 ∧ 1 = 1) ∨ (11 = 1 ∧ 1 = 3) ∨ (11 = 1 ∧ 1 = 9) ∨ (11 = 1 ∧ 1 = 10) ∨ (11 = 1 ∧ 1 = 11)) from by omega))
    have k_22 : (gi σ2 13 1).toInt = (gi σ0 13 1).toInt := congrArg Int32.toInt (FX_i cσ2 (show ¬ (13 = 2 ∨ 13 = 3 ∨ 13 = 4 ∨ 13 = 5 ∨ 13 = 6 ∨ 13 = 7 ∨ 13 = 8) from by omega) (show ¬ ((13 = 1 ∧ 1 = 1) ∨ (13 = 1 ∧ 1 = 3) ∨ (13 = 1 ∧ 1 = 9) ∨ (13 = 1 ∧ 1 = 10) ∨ (13 = 1 ∧ 1 = 11)) from by omega))
    have k_23 : (gi σ2 17 1).toInt = (gi σ0 17 1).toInt := congrArg Int32.toInt (FX_i cσ2 (show ¬ (17 = 2 ∨ 17 = 3 ∨ 17 = 4 ∨ 17 = 5 ∨ 17 = 6 ∨ 17 = 7 ∨ 17 = 8) from by omega) (show ¬ ((17 = 1 ∧ 1 = 1) ∨ (17 = 1 ∧ 1 = 3) ∨ (17 = 1 ∧ 1 = 9) ∨ (17 = 1 ∧ 1 = 10) ∨ (17 = 1 ∧ 1 = 11)) from by omega))
    have k_24 : (gi σ2 17 3).toInt = (gi σ0 17 3).toInt := congrArg Int32.toInt (FX_i cσ2 (show ¬ (17 = 2 ∨ 17 = 3 ∨ 17 = 4 ∨ 17 = 5 ∨ 17 = 6 ∨ 17 = 7 ∨ 17 = 8) from by omega) (show ¬ ((17 = 1 ∧ 3 = 1) ∨ (17 = 1 ∧ 3 = 3) ∨ (17 = 1 ∧ 3 = 9) ∨ (17 = 1 ∧ 3 = 10) ∨ (17 = 1 ∧ 3 = 11)) from by omega))
    have k_25 : (gi σ2 17 9).toInt = (gi σ0 17 9).toInt := congrArg Int32.toInt (FX_i cσ2 (show ¬ (17 = 2 ∨ 17 = 3 ∨ 17 = 4 ∨ 17 = 5 ∨ 17 = 6 ∨ 17 = 7 ∨ 17 = 8) from by omega) (show ¬ ((17 = 1 ∧ 9 = 1) ∨ (17 = 1 ∧ 9 = 3) ∨ (17 = 1 ∧ 9 = 9) ∨ (17 = 1 ∧ 9 = 10) ∨ (17 = 1 ∧ 9 = 11)) from by omega))
    have k_26 : (gi σ2 25 1).toInt = (gi σ0 25 1).toInt := congrArg Int32.toInt (FX_i cσ2 (show ¬ (25 = 2 ∨ 25 = 3 ∨ 25 = 4 ∨ 25 = 5 ∨ 25 = 6 ∨ 25 = 7 ∨ 25 = 8) from by omega) (show ¬ ((25 = 1 ∧ 1 = 1) ∨ (25 = 1 ∧ 1 = 3) ∨ (25 = 1 ∧ 1 = 9) ∨ (25 = 1 ∧ 1 = 10) ∨ (25 = 1 ∧ 1 = 11)) from by omega))
    have k_27 : (gi σ2 27 1).toInt = (gi σ0 27 1).toInt := congrArg Int32.toInt (FX_i cσ2 (show ¬ (27 = 2 ∨ 27 = 3 ∨ 27 = 4 ∨ 27 = 5 ∨ 27 = 6 ∨ 27 = 7 ∨ 27 = 8) from by omega) (show ¬ ((27 = 1 ∧ 1 = 1) ∨ (27 = 1 ∧ 1 = 3) ∨ (27 = 1 ∧ 1 = 9) ∨ (27 = 1 ∧ 1 = 10) ∨ (27 = 1 ∧ 1 = 11)) from by omega))
    have k_28 : (gi σ2 29 1).toInt = (gi σ0 29 1).toInt := congrArg Int32.toInt (FX_i cσ2 (show ¬ (29 = 2 ∨ 29 = 3 ∨ 29 = 4 ∨ 29 = 5 ∨ 29 = 6 ∨ 29 = 7 ∨ 29 = 8) from by omega) (show ¬ ((29 = 1 ∧ 1 = 1) ∨ (29 = 1 ∧ 1 = 3) ∨ (29 = 1 ∧ 1 = 9) ∨ (29 = 1 ∧ 1 = 10) ∨ (29 = 1 ∧ 1 = 11)) from by omega))
    have k_29 : (gi σ2 9 1).toInt = (gi σ0 9 1).toInt := congrArg Int32.toInt (FX_i cσ2 (show ¬ (9 = 2 ∨ 9 = 3 ∨ 9 = 4 ∨ 9 = 5 ∨ 9 = 6 ∨ 9 = 7 ∨ 9 = 8) from by omega) (show ¬ ((9 = 1 ∧ 1 = 1) ∨ (9 = 1 ∧ 1 = 3) ∨ (9 = 1 ∧ 1 = 9) ∨ (9 = 1 ∧ 1 = 10) ∨ (9 = 1 ∧ 1 = 11)) from by omega))
    have cy9 : CPY σ0 σ2 1 17 := by assumption
    refine kF_X1_becomesTold (Or.inl rfl) (Or.inr (Or.inl rfl)) mσ2  (by first | omega | assumption | rfl) (fun σ3 mσ3 cσ3 (pσ3_0 : (gi σ3 9 1).toInt = (gi σ2 25 1).toInt) (pσ3_1 : (gi σ3 11 1).toInt = (gi σ2 27 1).toInt) (pσ3_2 : (gi σ3 13 1).toInt = (gi σ2 29 1).toInt) hσ3 => ?_)
    replace H := f_v hσ3 H
    have fσ3 : FX (fun id => id = 10 ∨ id = 12 ∨ id = 14 ∨ id = 2 ∨ id = 3 ∨ id = 4 ∨ id = 5 ∨ id = 6 ∨ id = 7 ∨ id = 8) (fun id k => (id = 1 ∧ k = 1) ∨ (id = 1 ∧ k = 3) ∨ (id = 1 ∧ k = 9) ∨ (id = 1 ∧ k = 10) ∨ (id = 1 ∧ k = 11) ∨ (id = 11 ∧ k = 1) ∨ (id = 13 ∧ k = 1) ∨ (id = 9 ∧ k = 1)) σ0 σ3 := FX_tr fσ2 cσ3 (fun x (h9 : x = 12 ∨ x = 14 ∨ x = 10) => h9.elim (fun e9 => (show x = 10 ∨ x = 12 ∨ x = 14 ∨ x = 2 ∨ x = 3 ∨ x = 4 ∨ x = 5 ∨ x = 6 ∨ x = 7 ∨ x = 8 from Or.inr (Or.inl (e9)))) (fun h9 => h9.elim (fun e9 => (show x = 10 ∨ x = 12 ∨ x = 14 ∨ x = 2 ∨ x = 3 ∨ x = 4 ∨ x = 5 ∨ x = 6 ∨ x = 7 ∨ x = 8 from Or.inr (Or.inr (Or.inl (e9))))) (fun h9 => (show x = 10 ∨ x = 12 ∨ x = 14 ∨ x = 2 ∨ x = 3 ∨ x = 4 ∨ x = 5 ∨ x = 6 ∨ x = 7 ∨ x = 8 from Or.inl (h9))))) (fun x k (h9 : (x = 11 ∧ k = 1) ∨ (x = 13 ∧ k = 1) ∨ (x = 9 ∧ k = 1)) => (show (x = 10 ∨ x = 12 ∨ x = 14 ∨ x = 2 ∨ x = 3 ∨ x = 4 ∨ x = 5 ∨ x = 6 ∨ x = 7 ∨ x = 8) ∨ ((x = 1 ∧ k = 1) ∨ (x = 1 ∧ k = 3) ∨ (x = 1 ∧ k = 9) ∨ (x = 1 ∧ k = 10) ∨ (x = 1 ∧ k = 11) ∨ (x = 11 ∧ k = 1) ∨ (x = 13 ∧ k = 1) ∨ (x = 9 ∧ k = 1)) from h9.elim (fun e9 => Or.inr (show (x = 1 ∧ k = 1) ∨ (x = 1 ∧ k = 3) ∨ (x = 1 ∧ k = 9) ∨ (x = 1 ∧ k = 10) ∨ (x = 1 ∧ k = 11) ∨ (x = 11 ∧ k = 1) ∨ (x = 13 ∧ k = 1) ∨ (x = 9 ∧ k = 1) from Or.inr (Or.inr (Or.inr (Or.inr (Or.inr (Or.inl (e9)))))))) (fun h9 => h9.elim (fun e9 => Or.inr (show (x = 1 ∧ k = 1) ∨ (x = 1 ∧ k = 3) ∨ (x = 1 ∧ k = 9) ∨ (x = 1 ∧ k = 10) ∨ (x = 1 ∧ k = 11) ∨ (x = 11 ∧ k = 1) ∨ (x = 13 ∧ k = 1) ∨ (x = 9 ∧ k = 1) from Or.inr (Or.inr (Or.inr (Or.inr (Or.inr (Or.inr (Or.inl (e9))))))))) (fun h9 => Or.inr (show (x = 1 ∧ k = 1) ∨ (x = 1 ∧ k = 3) ∨ (x = 1 ∧ k = 9) ∨ (x = 1 ∧ k = 10) ∨ (x = 1 ∧ k = 11) ∨ (x = 11 ∧ k = 1) ∨ (x = 13 ∧ k = 1) ∨ (x = 9 ∧ k = 1) from Or.inr (Or.inr (Or.inr (Or.inr (Or.inr (Or.inr (Or.inr (h9))))))))))))
    have k_30 : (gi σ3 0 3).toInt = (gi σ2 0 3).toInt := congrArg Int32.toInt (FX_i cσ3 (show ¬ (0 = 12 ∨ 0 = 14 ∨ 0 = 10) from by omega) (show ¬ ((0 = 11 ∧ 3 = 1) ∨ (0 = 13 ∧ 3 = 1) ∨ (0 = 9 ∧ 3 = 1)) from by omega))
    have k_31 : (gi σ3 1 1).toInt = (gi σ2 1 1).toInt := congrArg Int32.toInt (FX_i cσ3 (show ¬ (1 = 12 ∨ 1 = 14 ∨ 1 = 10) from by omega) (show ¬ ((1 = 11 ∧ 1 = 1) ∨ (1 = 13 ∧ 1 = 1) ∨ (1 = 9 ∧ 1 = 1)) from by omega))
    have k_32 : (gi σ3 1 3).toInt = (gi σ2 1 3).toInt := congrArg Int32.toInt (FX_i cσ3 (show ¬ (1 = 12 ∨ 1 = 14 ∨ 1 = 10) from by omega) (show ¬ ((1 = 11 ∧ 3 = 1) ∨ (1 = 13 ∧ 3 = 1) ∨ (1 = 9 ∧ 3 = 1)) from by omega))
    have k_33 : (gi σ3 1 9).toInt = (gi σ2 1 9).toInt := congrArg Int32.toInt (FX_i cσ3 (show ¬ (1 = 12 ∨ 1 = 14 ∨ 1 = 10) from by omega) (show ¬ ((1 = 11 ∧ 9 = 1) ∨ (1 = 13 ∧ 9 = 1) ∨ (1 = 9 ∧ 9 = 1)) from by omega))
    have t_34 := XI_c1 mσ3 (id := 11) (k := 1) (lim_C10_1 (Or.inl rfl))
    have t_35 := XI_c1 mσ3 (id := 13) (k := 1) (lim_C12_1 (Or.inl rfl))
    have k_36 : (gi σ3 17 1).toInt = (gi σ2 17 1).toInt := congrArg Int32.toInt (FX_i cσ3 (show ¬ (17 = 12 ∨ 17 = 14 ∨ 17 = 10) from by omega) (show ¬ ((17 = 11 ∧ 1 = 1) ∨ (17 = 13 ∧ 1 = 1) ∨ (17 = 9 ∧ 1 = 1)) from by omega))
    have k_37 : (gi σ3 17 3).toInt = (gi σ2 17 3).toInt := congrArg Int32.toInt (FX_i cσ3 (show ¬ (17 = 12 ∨ 17 = 14 ∨ 17 = 10) from by omega) (show ¬ ((17 = 11 ∧ 3 = 1) ∨ (17 = 13 ∧ 3 = 1) ∨ (17 = 9 ∧ 3 = 1)) from by omega))
    have k_38 : (gi σ3 17 9).toInt = (gi σ2 17 9).toInt := congrArg Int32.toInt (FX_i cσ3 (show ¬ (17 = 12 ∨ 17 = 14 ∨ 17 = 10) from by omega) (show ¬ ((17 = 11 ∧ 9 = 1) ∨ (17 = 13 ∧ 9 = 1) ∨ (17 = 9 ∧ 9 = 1)) from by omega))
    have k_39 : (gi σ3 25 1).toInt = (gi σ2 25 1).toInt := congrArg Int32.toInt (FX_i cσ3 (show ¬ (25 = 12 ∨ 25 = 14 ∨ 25 = 10) from by omega) (show ¬ ((25 = 11 ∧ 1 = 1) ∨ (25 = 13 ∧ 1 = 1) ∨ (25 = 9 ∧ 1 = 1)) from by omega))
    have k_40 : (gi σ3 27 1).toInt = (gi σ2 27 1).toInt := congrArg Int32.toInt (FX_i cσ3 (show ¬ (27 = 12 ∨ 27 = 14 ∨ 27 = 10) from by omega) (show ¬ ((27 = 11 ∧ 1 = 1) ∨ (27 = 13 ∧ 1 = 1) ∨ (27 = 9 ∧ 1 = 1)) from by omega))
    have k_41 : (gi σ3 29 1).toInt = (gi σ2 29 1).toInt := congrArg Int32.toInt (FX_i cσ3 (show ¬ (29 = 12 ∨ 29 = 14 ∨ 29 = 10) from by omega) (show ¬ ((29 = 11 ∧ 1 = 1) ∨ (29 = 13 ∧ 1 = 1) ∨ (29 = 9 ∧ 1 = 1)) from by omega))
    have t_42 := XI_c1 mσ3 (id := 9) (k := 1) (lim_C8_1 (Or.inl rfl))
    have nσ3_17 : NN σ3 17 := NN_fx nσ2_17 cσ3 (show ¬ (17 = 12 ∨ 17 = 14 ∨ 17 = 10) from by omega) (show ¬ (18 = 12 ∨ 18 = 14 ∨ 18 = 10) from by omega) (show ¬ (19 = 12 ∨ 19 = 14 ∨ 19 = 10) from by omega) (show ¬ ((17 = 11 ∧ 1 = 1) ∨ (17 = 13 ∧ 1 = 1) ∨ (17 = 9 ∧ 1 = 1)) from by omega) (show ¬ ((17 = 11 ∧ 3 = 1) ∨ (17 = 13 ∧ 3 = 1) ∨ (17 = 9 ∧ 3 = 1)) from by omega) (fun k (h9 : (18 = 11 ∧ k = 1) ∨ (18 = 13 ∧ k = 1) ∨ (18 = 9 ∧ k = 1)) => by omega) (fun k (h9 : (19 = 11 ∧ k = 1) ∨ (19 = 13 ∧ k = 1) ∨ (19 = 9 ∧ k = 1)) => by omega)
    have nσ3_1 : NN σ3 1 := NN_fx nσ2_1 cσ3 (show ¬ (1 = 12 ∨ 1 = 14 ∨ 1 = 10) from by omega) (show ¬ (2 = 12 ∨ 2 = 14 ∨ 2 = 10) from by omega) (show ¬ (3 = 12 ∨ 3 = 14 ∨ 3 = 10) from by omega) (show ¬ ((1 = 11 ∧ 1 = 1) ∨ (1 = 13 ∧ 1 = 1) ∨ (1 = 9 ∧ 1 = 1)) from by omega) (show ¬ ((1 = 11 ∧ 3 = 1) ∨ (1 = 13 ∧ 3 = 1) ∨ (1 = 9 ∧ 3 = 1)) from by omega) (fun k (h9 : (2 = 11 ∧ k = 1) ∨ (2 = 13 ∧ k = 1) ∨ (2 = 9 ∧ k = 1)) => by omega) (fun k (h9 : (3 = 11 ∧ k = 1) ∨ (3 = 13 ∧ k = 1) ∨ (3 = 9 ∧ k = 1)) => by omega)
    have cy8 : CPY σ0 σ3 1 17 := CPY_fx cy9 cσ3 (by intro id h8 h9; first | omega | exact h9.elim) (by intro id k h8 h9; first | omega | exact h9.elim)
    have t_43 := XI_c1 mσ3 (id := 1) (k := 1) (lim_C0_1 (Or.inl rfl))
    exact h9ret (gi σ3 1 1) σ3 mσ3 fσ3 nσ3_1 nσ3_17 (by first | omega | assumption | rfl) (by first | omega | assumption | rfl) (by first | omega | assumption | rfl) (by first | assumption | exact fun _ => by assumption | exact fun h9 => absurd (by assumption) h9) (by first | exact fun _ => rfl | exact fun h9 => absurd h9 (by assumption)) (by first | omega | assumption | rfl) (H0.trans H.symm)
  · intro q_14
    replace H := f_t q_14 H
    have b_44 : (gi σ0 0 3).toInt = 0 := congrArg Int32.toInt q_14
    have z_45 : (-3 : Int32).toInt = -3 := rfl
    exact h9ret (-3 : Int32) σ0 m0 f0 nn_1 nn_17 (by first | omega | assumption | rfl) (by first | omega | assumption | rfl) (by first | omega | assumption | rfl) (by first | assumption | exact fun _ => by assumption | exact fun h9 => absurd (by assumption) h9) (by first | exact fun _ => rfl | exact fun h9 => absurd h9 (by assumption)) (by first | omega | assumption | rfl) (H0.trans H.symm)
