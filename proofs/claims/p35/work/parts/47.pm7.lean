set_option maxRecDepth 100000 in
set_option maxHeartbeats 4000000 in
theorem k_X12_stop {l : Launch} {V : Vx} {a1 : Int32} {a2 : Int32} {a3 : Int32} {a4 : Int32} {σ0 : Sg} {Qk : Int32 → Sg → Prop} (m0 : MI σ0) (pre0 : (gi σ0 74 1).toInt ≤ 9999) (h9ret : ∀ (r : Int32) (σ' : Sg), MI σ' → Fr [74, 105, 106, 107, 108, 129, 131, 132, 134, 135, 136, 137, 140] [1, 30, 33] σ0 σ' → ((gi σ' 74 1).toInt = (gi σ0 74 1).toInt) → Qk r σ') : K_X12_stop l V a1 a2 a3 a4 σ0 Qk := by
  refine e_X12_stop (fun M hl hV hN C => ?_)
  subst hl
  subst hV
  have T : ∀ n : Nat, (∀ (x1 : Int32) (x2 : Int32) (x3 : Int32) (x4 : Int32) (x5 : Int32) (σ : Sg), MI σ → Fr [74, 105, 106, 107, 108, 129, 131, 132, 134, 135, 136, 137, 140] [1, 30, 33] σ0 σ → (0 ≤ x1.toInt) → (x1.toInt ≤ 5) → (1 ≤ x3.toInt) → (x3.toInt ≤ 60) → (0 ≤ x5.toInt) → (x5.toInt ≤ 6) → ((gi σ 74 33).toInt = (gi σ0 74 1).toInt) → (7 - x5.toInt).toNat + 20 < n → PS M 61 [(0, .ref 74), (1, .int x1), (2, .int x2), (3, .int x3), (4, .int x4), (5, .int x5)] [] σ (0, 0)) ∧ (∀ (x1 : Int32) (x4 : Int32) (x5 : Int32) (x6 : Int32) (x7 : Int32) (σ : Sg), MI σ → Fr [74, 105, 106, 107, 108, 129, 131, 132, 134, 135, 136, 137, 140] [1, 30, 33] σ0 σ → (0 ≤ x1.toInt) → (x1.toInt ≤ 5) → (0 ≤ x7.toInt) → (x7.toInt ≤ 6) → ((gi σ 74 33).toInt = (gi σ0 74 1).toInt) → (7 - x7.toInt).toNat < n → PS M 123 [(0, .ref 74), (1, .int x1), (4, .int x4), (5, .int x5), (6, .int x6), (7, .int x7)] [] σ (0, 0)) := by
    intro n
    induction n with
    | zero => exact ⟨fun _ _ _ _ _ _ _ _ _ _ _ _ _ _ _ h8 => absurd h8 (Nat.not_lt_zero _), fun _ _ _ _ _ _ _ _ _ _ _ _ _ h8 => absurd h8 (Nat.not_lt_zero _)⟩
    | succ n ih =>
      obtain ⟨ih61, ih123⟩ := ih
      refine ⟨?_, ?_⟩
      · intro x1 x2 x3 x4 x5 σ mσ fσ lx1 ux1 lx3 ux3 lx5 ux5 i0 hmu
        refine s_X12_stop_61 C hN ?_
        refine ⟨?_, ?_⟩
        · intro q_1
          have b_2 : (6 : Int) ≤ x5.toInt := Int32.le_iff_toInt_le.mp q_1
          refine k_X12_all mσ  (fun r3 σ2 mσ2 cσ2 plσ2 phσ2 => ?_)
          obtain rfl := Fr_nil cσ2
          refine k_X12_putBack mσ  (fun σ4 mσ4 cσ4 (pσ4_0 : (gi σ4 74 1).toInt = (gi σ 74 33).toInt) => ?_)
          have fσ4 : Fr [74, 105, 106, 107, 108, 129, 131, 132, 134, 135, 136, 137, 140] [1, 30, 33] σ0 σ4 := Fr_tr fσ cσ4 (by decide) (by decide)
          have k_3 : (gi σ4 74 33).toInt = (gi σ 74 33).toInt := congrArg Int32.toInt (cσ4.2.1 33 (by decide))
          refine k_X12_save mσ4  (fun σ5 mσ5 cσ5 (pσ5_0 : (gi σ5 74 33).toInt = (gi σ4 74 1).toInt) => ?_)
          have fσ5 : Fr [74, 105, 106, 107, 108, 129, 131, 132, 134, 135, 136, 137, 140] [1, 30, 33] σ0 σ5 := Fr_tr fσ4 cσ5 (by decide) (by decide)
          have k_4 : (gi σ5 74 1).toInt = (gi σ4 74 1).toInt := congrArg Int32.toInt (cσ5.2.1 1 (by decide))
          have hv_5 : vp_in x1 6 := vp_in_iff.mpr ⟨by omega, by omega⟩
          refine ⟨hv_5, ?_⟩
          refine ⟨hv_5, ?_⟩
          intro σ8 eσ8
          have mσ8 : MI σ8 := by rw [eσ8]; exact MIs_au (a := 108) mσ5 rfl rfl
          have fσ8 : Fr [74, 105, 106, 107, 108, 129, 131, 132, 134, 135, 136, 137, 140] [1, 30, 33] σ0 σ8 := by rw [eσ8]; exact Fr_si fσ5 (by decide) (fun h9 => absurd h9 (by decide))
          have k_6 : (gi σ8 74 1).toInt = (gi σ5 74 1).toInt := by rw [eσ8]; exact congrArg Int32.toInt (gi_si_ne (Or.inl (by decide)))
          have k_7 : (gi σ8 74 33).toInt = (gi σ5 74 33).toInt := by rw [eσ8]; exact congrArg Int32.toInt (gi_si_ne (Or.inl (by decide)))
          refine k_X12_goMinutes mσ8 (by omega) (by omega) (by first | omega | assumption | rfl) (fun σ9 mσ9 cσ9 (pσ9_0 : (x3.toInt ≤ 0 ∧ (gi σ9 74 1).toInt = (gi σ8 74 1).toInt) ∨ (0 ≤ x3.toInt ∧ (gi σ9 74 1).toInt = (gi σ8 74 1).toInt + x3.toInt)) => ?_)
          have fσ9 : Fr [74, 105, 106, 107, 108, 129, 131, 132, 134, 135, 136, 137, 140] [1, 30, 33] σ0 σ9 := Fr_tr fσ8 cσ9 (by decide) (by decide)
          have k_8 : (gi σ9 74 33).toInt = (gi σ8 74 33).toInt := congrArg Int32.toInt (cσ9.2.1 33 (by decide))
          have z_9 : (0 : Int32).toInt = 0 := rfl
          exact ih123 x1 x4 r3 (0 : Int32) (0 : Int32) σ9 mσ9 fσ9 (by omega) (by omega) (by omega) (by omega) (by first | omega | assumption | rfl) (by omega)
        · intro q_1
          have b_10 : ¬ (6 : Int) ≤ x5.toInt := fun h9 => q_1 (Int32.le_iff_toInt_le.mpr h9)
          have hv_11 : vp_in x5 6 := vp_in_iff.mpr ⟨by omega, by omega⟩
          refine ⟨hv_11, ?_⟩
          refine ⟨hv_11, ?_⟩
          intro σ12 eσ12
          have mσ12 : MI σ12 := by rw [eσ12]; exact MIs_au (a := 140) mσ rfl rfl
          have fσ12 : Fr [74, 105, 106, 107, 108, 129, 131, 132, 134, 135, 136, 137, 140] [1, 30, 33] σ0 σ12 := by rw [eσ12]; exact Fr_si fσ (by decide) (fun h9 => absurd h9 (by decide))
          have k_12 : (gi σ12 74 1).toInt = (gi σ 74 1).toInt := by rw [eσ12]; exact congrArg Int32.toInt (gi_si_ne (Or.inl (by decide)))
          have k_13 : (gi σ12 74 33).toInt = (gi σ 74 33).toInt := by rw [eσ12]; exact congrArg Int32.toInt (gi_si_ne (Or.inl (by decide)))
          intro v13 ev13
          have t_14 : (x5 + (1 : Int32)).toInt = x5.toInt + 1 := i_add (x := x5) (y := (1 : Int32)) (by show (_ : Int) ≤ x5.toInt + 1; omega) (by show x5.toInt + 1 ≤ (_ : Int); omega)
          have t_15 : v13.toInt = (x5 + (1 : Int32)).toInt := congrArg Int32.toInt ev13
          exact ih61 x1 x2 x3 x4 v13 σ12 mσ12 fσ12 (by omega) (by omega) (by omega) (by omega) (by omega) (by omega) (by first | omega | assumption | rfl) (by omega)
      · intro x1 x4 x5 x6 x7 σ mσ fσ lx1 ux1 lx7 ux7 i0 hmu
        refine s_X12_stop_123 C hN ?_
        refine ⟨?_, ?_⟩
        · intro q_16
          have t_17 := MI_f0 mσ
          have b_18 : (gi σ 74 0).toInt ≤ x7.toInt := Int32.le_iff_toInt_le.mp q_16
          refine k_X12_all mσ  (fun r3 σ2 mσ2 cσ2 plσ2 phσ2 => ?_)
          obtain rfl := Fr_nil cσ2
          refine k_X12_putBack mσ  (fun σ4 mσ4 cσ4 (pσ4_0 : (gi σ4 74 1).toInt = (gi σ 74 33).toInt) => ?_)
          have fσ4 : Fr [74, 105, 106, 107, 108, 129, 131, 132, 134, 135, 136, 137, 140] [1, 30, 33] σ0 σ4 := Fr_tr fσ cσ4 (by decide) (by decide)
          have k_19 : (gi σ4 74 0).toInt = (gi σ 74 0).toInt := congrArg Int32.toInt (cσ4.2.1 0 (by decide))
          have k_20 : (gi σ4 74 33).toInt = (gi σ 74 33).toInt := congrArg Int32.toInt (cσ4.2.1 33 (by decide))
          refine ⟨?_, ?_⟩
          · intro q_21
            have w_22 := Int32.toInt_lt x4
            have w_23 := Int32.le_toInt x4
            have b_24 : ¬ x4.toInt = 0 := fun h9 => q_21 (Int32.toInt_inj.mp h9)
            exact h9ret x6 σ4 mσ4 fσ4 (by first | omega | assumption | rfl)
          · intro q_21
            have w_25 := Int32.toInt_lt x4
            have w_26 := Int32.le_toInt x4
            have b_27 : x4.toInt = 0 := congrArg Int32.toInt q_21
            exact h9ret (x5 - r3) σ4 mσ4 fσ4 (by first | omega | assumption | rfl)
        · intro q_16
          have t_28 := MI_f0 mσ
          have b_29 : ¬ (gi σ 74 0).toInt ≤ x7.toInt := fun h9 => q_16 (Int32.le_iff_toInt_le.mpr h9)
          refine ⟨?_, ?_⟩
          · intro q_30
            have b_31 : x7.toInt = x1.toInt := congrArg Int32.toInt q_30
            intro v7 ev7
            intro v8 ev8
            have t_32 : (x7 + (1 : Int32)).toInt = x7.toInt + 1 := i_add (x := x7) (y := (1 : Int32)) (by show (_ : Int) ≤ x7.toInt + 1; omega) (by show x7.toInt + 1 ≤ (_ : Int); omega)
            have t_33 : v8.toInt = (x7 + (1 : Int32)).toInt := congrArg Int32.toInt ev8
            exact ih123 x1 x4 x5 v7 v8 σ mσ fσ (by omega) (by omega) (by omega) (by omega) (by first | omega | assumption | rfl) (by omega)
          · intro q_30
            have b_34 : ¬ x7.toInt = x1.toInt := fun h9 => q_30 (Int32.toInt_inj.mp h9)
            have hv_35 : vp_in x7 6 := vp_in_iff.mpr ⟨by omega, by omega⟩
            refine ⟨hv_35, ?_⟩
            refine ⟨hv_35, ?_⟩
            refine ⟨?_, ?_⟩
            · intro q_36
              have t_37 := MI_a105 mσ hv_35
              have b_38 : (gi σ 140 x7.toNatClampNeg).toInt ≤ (gi σ 105 x7.toNatClampNeg).toInt := Int32.le_iff_toInt_le.mp q_36
              intro v12 ev12
              intro v13 ev13
              have t_39 : (x7 + (1 : Int32)).toInt = x7.toInt + 1 := i_add (x := x7) (y := (1 : Int32)) (by show (_ : Int) ≤ x7.toInt + 1; omega) (by show x7.toInt + 1 ≤ (_ : Int); omega)
              have t_40 : v13.toInt = (x7 + (1 : Int32)).toInt := congrArg Int32.toInt ev13
              exact ih123 x1 x4 x5 v12 v13 σ mσ fσ (by omega) (by omega) (by omega) (by omega) (by first | omega | assumption | rfl) (by omega)
            · intro q_36
              have t_41 := MI_a105 mσ hv_35
              have b_42 : ¬ (gi σ 140 x7.toNatClampNeg).toInt ≤ (gi σ 105 x7.toNatClampNeg).toInt := fun h9 => q_36 (Int32.le_iff_toInt_le.mpr h9)
              intro v14 ev14
              intro v15 ev15
              have t_43 : (x7 + (1 : Int32)).toInt = x7.toInt + 1 := i_add (x := x7) (y := (1 : Int32)) (by show (_ : Int) ≤ x7.toInt + 1; omega) (by show x7.toInt + 1 ≤ (_ : Int); omega)
              have t_44 : v15.toInt = (x7 + (1 : Int32)).toInt := congrArg Int32.toInt ev15
              exact ih123 x1 x4 x5 v14 v15 σ mσ fσ (by omega) (by omega) (by omega) (by omega) (by first | omega | assumption | rfl) (by omega)
  obtain ⟨U61, U123⟩ := T 60
  have f0 : Fr [74, 105, 106, 107, 108, 129, 131, 132, 134, 135, 136, 137, 140] [1, 30, 33] σ0 σ0 := Fr_rf
  refine s_X12_stop_0 C hN ?_
  refine k_X12_isMower m0  (fun r2 σ1 mσ1 cσ1 plσ1 phσ1 (pσ1_0 : (r2.toInt = 1 ∧ 0 ≤ a1.toInt ∧ a1.toInt < (gi σ0 74 0).toInt) ∨ (r2.toInt = 0 ∧ (a1.toInt < 0 ∨ (gi σ0 74 0).toInt ≤ a1.toInt))) => ?_)
  obtain rfl := Fr_nil cσ1
  have t_45 := MI_f0 m0
  refine ⟨?_, ?_⟩
  · intro q_46
    have b_47 : r2.toInt = 0 := congrArg Int32.toInt q_46
    have z_48 : (-100001 : Int32).toInt = -100001 := rfl
    exact h9ret (-100001 : Int32) σ0 m0 f0 (by first | omega | assumption | rfl)
  · intro q_46
    have b_49 : ¬ r2.toInt = 0 := fun h9 => q_46 (Int32.toInt_inj.mp h9)
    refine k_X12_in m0  (fun r5 σ4 mσ4 cσ4 plσ4 phσ4 (pσ4_0 : (r5.toInt = 1 ∧ (0 : Int) ≤ a4.toInt ∧ a4.toInt ≤ (1 : Int)) ∨ (r5.toInt = 0 ∧ (a4.toInt < (0 : Int) ∨ (1 : Int) < a4.toInt))) => ?_)
    obtain rfl := Fr_nil cσ4
    refine ⟨?_, ?_⟩
    · intro q_50
      have b_51 : ¬ r5.toInt = 0 := fun h9 => q_50 (Int32.toInt_inj.mp h9)
      refine k_X12_in m0  (fun r8 σ7 mσ7 cσ7 plσ7 phσ7 (pσ7_0 : (r8.toInt = 1 ∧ (1 : Int) ≤ a2.toInt ∧ a2.toInt ≤ (20 : Int)) ∨ (r8.toInt = 0 ∧ (a2.toInt < (1 : Int) ∨ (20 : Int) < a2.toInt))) => ?_)
      obtain rfl := Fr_nil cσ7
      refine ⟨?_, ?_⟩
      · intro q_52
        have b_53 : r8.toInt = 0 := congrArg Int32.toInt q_52
        have z_54 : (-100002 : Int32).toInt = -100002 := rfl
        exact h9ret (-100002 : Int32) σ0 m0 f0 (by first | omega | assumption | rfl)
      · intro q_52
        have b_55 : ¬ r8.toInt = 0 := fun h9 => q_52 (Int32.toInt_inj.mp h9)
        refine k_X12_in m0  (fun r11 σ10 mσ10 cσ10 plσ10 phσ10 (pσ10_0 : (r11.toInt = 1 ∧ (1 : Int) ≤ a3.toInt ∧ a3.toInt ≤ (60 : Int)) ∨ (r11.toInt = 0 ∧ (a3.toInt < (1 : Int) ∨ (60 : Int) < a3.toInt))) => ?_)
        obtain rfl := Fr_nil cσ10
        refine ⟨?_, ?_⟩
        · intro q_56
          have b_57 : ¬ r11.toInt = 0 := fun h9 => q_56 (Int32.toInt_inj.mp h9)
          refine k_X12_save m0  (fun σ13 mσ13 cσ13 (pσ13_0 : (gi σ13 74 33).toInt = (gi σ0 74 1).toInt) => ?_)
          have fσ13 : Fr [74, 105, 106, 107, 108, 129, 131, 132, 134, 135, 136, 137, 140] [1, 30, 33] σ0 σ13 := Fr_tr f0 cσ13 (by decide) (by decide)
          have k_58 : (gi σ13 74 0).toInt = (gi σ0 74 0).toInt := congrArg Int32.toInt (cσ13.2.1 0 (by decide))
          have k_59 : (gi σ13 74 1).toInt = (gi σ0 74 1).toInt := congrArg Int32.toInt (cσ13.2.1 1 (by decide))
          refine k_X12_goMinutes mσ13 (by omega) (by omega) (by first | omega | assumption | rfl) (fun σ14 mσ14 cσ14 (pσ14_0 : (a3.toInt ≤ 0 ∧ (gi σ14 74 1).toInt = (gi σ13 74 1).toInt) ∨ (0 ≤ a3.toInt ∧ (gi σ14 74 1).toInt = (gi σ13 74 1).toInt + a3.toInt)) => ?_)
          have fσ14 : Fr [74, 105, 106, 107, 108, 129, 131, 132, 134, 135, 136, 137, 140] [1, 30, 33] σ0 σ14 := Fr_tr fσ13 cσ14 (by decide) (by decide)
          have k_60 : (gi σ14 74 0).toInt = (gi σ13 74 0).toInt := congrArg Int32.toInt (cσ14.2.1 0 (by decide))
          have k_61 : (gi σ14 74 33).toInt = (gi σ13 74 33).toInt := congrArg Int32.toInt (cσ14.2.1 33 (by decide))
          have z_62 : (0 : Int32).toInt = 0 := rfl
          exact U61 a1 a2 a3 a4 (0 : Int32) σ14 mσ14 fσ14 (by omega) (by omega) (by omega) (by omega) (by omega) (by omega) (by first | omega | assumption | rfl) (by omega)
        · intro q_56
          have b_63 : r11.toInt = 0 := congrArg Int32.toInt q_56
          have z_64 : (-100002 : Int32).toInt = -100002 := rfl
          exact h9ret (-100002 : Int32) σ0 m0 f0 (by first | omega | assumption | rfl)
    · intro q_50
      have b_65 : r5.toInt = 0 := congrArg Int32.toInt q_50
      have z_66 : (-100001 : Int32).toInt = -100001 := rfl
      exact h9ret (-100001 : Int32) σ0 m0 f0 (by first | omega | assumption | rfl)
set_option maxRecDepth 100000 in
set_option maxHeartbeats 4000000 in
theorem k_X12_paused {l : Launch} {V : Vx} {a1 : Int32} {a2 : Int32} {σ0 : Sg} {Qk : Int32 → Sg → Prop} (m0 : MI σ0) (pre0 : (gi σ0 74 1).toInt ≤ 9999) (h9ret : ∀ (r : Int32) (σ' : Sg), MI σ' → Fr [74, 105, 106, 107, 108, 129, 131, 132, 134, 135, 136, 137] [1, 30, 33] σ0 σ' → ((gi σ' 74 1).toInt = (gi σ0 74 1).toInt) → Qk r σ') : K_X12_paused l V a1 a2 σ0 Qk := by
  refine e_X12_paused (fun M hl hV hN C => ?_)
  subst hl
  subst hV
  have T : ∀ n : Nat, (∀ (x1 : Int32) (x2 : Int32) (x3 : Int32) (x4 : Int32) (x5 : Int32) (σ : Sg), MI σ → Fr [74, 105, 106, 107, 108, 129, 131, 132, 134, 135, 136, 137] [1, 30, 33] σ0 σ → (1 ≤ x1.toInt) → (x1.toInt ≤ 30) → (0 ≤ x5.toInt) → (x5.toInt ≤ 31) → ((gi σ 74 1).toInt = (gi σ0 74 1).toInt) → (x5.toInt ≤ x1.toInt + 1) → (32 - x5.toInt).toNat < n → PS M 34 [(0, .ref 74), (1, .int x1), (2, .int x2), (3, .int x3), (4, .int x4), (5, .int x5)] [] σ (0, 0)) := by
    intro n
    induction n with
    | zero => exact fun _ _ _ _ _ _ _ _ _ _ _ _ _ _ h8 => absurd h8 (Nat.not_lt_zero _)
    | succ n ih =>
      have ih34 := ih
      · intro x1 x2 x3 x4 x5 σ mσ fσ lx1 ux1 lx5 ux5 i0 i1 hmu
        refine s_X12_paused_34 C hN ?_
        refine ⟨?_, ?_⟩
        · intro q_1
          have b_2 : x1.toInt < x5.toInt := Int32.lt_iff_toInt_lt.mp q_1
          refine ⟨?_, ?_⟩
          · intro q_3
            have w_4 := Int32.toInt_lt x2
            have w_5 := Int32.le_toInt x2
            have b_6 : ¬ x2.toInt = 0 := fun h9 => q_3 (Int32.toInt_inj.mp h9)
            exact h9ret x4 σ mσ fσ (by first | omega | assumption | rfl)
          · intro q_3
            have w_7 := Int32.toInt_lt x2
            have w_8 := Int32.le_toInt x2
            have b_9 : x2.toInt = 0 := congrArg Int32.toInt q_3
            exact h9ret x3 σ mσ fσ (by first | omega | assumption | rfl)
        · intro q_1
          have b_10 : ¬ x1.toInt < x5.toInt := fun h9 => q_1 (Int32.lt_iff_toInt_lt.mpr h9)
          refine k_X12_save mσ  (fun σ3 mσ3 cσ3 (pσ3_0 : (gi σ3 74 33).toInt = (gi σ 74 1).toInt) => ?_)
          have fσ3 : Fr [74, 105, 106, 107, 108, 129, 131, 132, 134, 135, 136, 137] [1, 30, 33] σ0 σ3 := Fr_tr fσ cσ3 (by decide) (by decide)
          have k_11 : (gi σ3 74 1).toInt = (gi σ 74 1).toInt := congrArg Int32.toInt (cσ3.2.1 1 (by decide))
          refine k_X12_goMinutes mσ3 (by omega) (by omega) (by first | omega | assumption | rfl) (fun σ4 mσ4 cσ4 (pσ4_0 : (x5.toInt ≤ 0 ∧ (gi σ4 74 1).toInt = (gi σ3 74 1).toInt) ∨ (0 ≤ x5.toInt ∧ (gi σ4 74 1).toInt = (gi σ3 74 1).toInt + x5.toInt)) => ?_)
          have fσ4 : Fr [74, 105, 106, 107, 108, 129, 131, 132, 134, 135, 136, 137] [1, 30, 33] σ0 σ4 := Fr_tr fσ3 cσ4 (by decide) (by decide)
          have k_12 : (gi σ4 74 33).toInt = (gi σ3 74 33).toInt := congrArg Int32.toInt (cσ4.2.1 33 (by decide))
          have z_13 : (5 : Int32).toInt = 5 := rfl
          refine k_X12_goPause mσ4 (by omega) (by omega) (by first | omega | assumption | rfl) (fun σ5 mσ5 cσ5 (pσ5_0 : (gi σ5 74 1).toInt = (gi σ4 74 1).toInt + (5 : Int)) => ?_)
          have fσ5 : Fr [74, 105, 106, 107, 108, 129, 131, 132, 134, 135, 136, 137] [1, 30, 33] σ0 σ5 := Fr_tr fσ4 cσ5 (by decide) (by decide)
          have k_14 : (gi σ5 74 33).toInt = (gi σ4 74 33).toInt := congrArg Int32.toInt (cσ5.2.1 33 (by decide))
          have t_15 : (x1 - x5).toInt = x1.toInt - x5.toInt := i_sub (x := x1) (y := x5) (by show (_ : Int) ≤ x1.toInt - x5.toInt; omega) (by show x1.toInt - x5.toInt ≤ (_ : Int); omega)
          refine k_X12_goMinutes mσ5 (by omega) (by omega) (by first | omega | assumption | rfl) (fun σ6 mσ6 cσ6 (pσ6_0 : ((x1 - x5).toInt ≤ 0 ∧ (gi σ6 74 1).toInt = (gi σ5 74 1).toInt) ∨ (0 ≤ (x1 - x5).toInt ∧ (gi σ6 74 1).toInt = (gi σ5 74 1).toInt + (x1 - x5).toInt)) => ?_)
          have fσ6 : Fr [74, 105, 106, 107, 108, 129, 131, 132, 134, 135, 136, 137] [1, 30, 33] σ0 σ6 := Fr_tr fσ5 cσ6 (by decide) (by decide)
          have k_16 : (gi σ6 74 33).toInt = (gi σ5 74 33).toInt := congrArg Int32.toInt (cσ6.2.1 33 (by decide))
          refine k_X12_all mσ6  (fun r8 σ7 mσ7 cσ7 plσ7 phσ7 => ?_)
          obtain rfl := Fr_nil cσ7
          refine k_X12_putBack mσ6  (fun σ9 mσ9 cσ9 (pσ9_0 : (gi σ9 74 1).toInt = (gi σ6 74 33).toInt) => ?_)
          have fσ9 : Fr [74, 105, 106, 107, 108, 129, 131, 132, 134, 135, 136, 137] [1, 30, 33] σ0 σ9 := Fr_tr fσ6 cσ9 (by decide) (by decide)
          have k_17 : (gi σ9 74 33).toInt = (gi σ6 74 33).toInt := congrArg Int32.toInt (cσ9.2.1 33 (by decide))
          refine ⟨?_, ?_⟩
          · intro q_18
            have w_19 := Int32.toInt_lt x4
            have w_20 := Int32.le_toInt x4
            have b_21 : x4.toInt < r8.toInt := Int32.lt_iff_toInt_lt.mp q_18
            intro v11 ev11
            have t_22 : (x5 + (1 : Int32)).toInt = x5.toInt + 1 := i_add (x := x5) (y := (1 : Int32)) (by show (_ : Int) ≤ x5.toInt + 1; omega) (by show x5.toInt + 1 ≤ (_ : Int); omega)
            have t_23 : v11.toInt = (x5 + (1 : Int32)).toInt := congrArg Int32.toInt ev11
            exact ih34 x1 x2 x5 r8 v11 σ9 mσ9 fσ9 (by omega) (by omega) (by omega) (by omega) (by first | omega | assumption | rfl) (by first | omega | assumption | rfl) (by omega)
          · intro q_18
            have w_24 := Int32.toInt_lt x4
            have w_25 := Int32.le_toInt x4
            have b_26 : ¬ x4.toInt < r8.toInt := fun h9 => q_18 (Int32.lt_iff_toInt_lt.mpr h9)
            intro v12 ev12
            have t_27 : (x5 + (1 : Int32)).toInt = x5.toInt + 1 := i_add (x := x5) (y := (1 : Int32)) (by show (_ : Int) ≤ x5.toInt + 1; omega) (by show x5.toInt + 1 ≤ (_ : Int); omega)
            have t_28 : v12.toInt = (x5 + (1 : Int32)).toInt := congrArg Int32.toInt ev12
            exact ih34 x1 x2 x3 x4 v12 σ9 mσ9 fσ9 (by omega) (by omega) (by omega) (by omega) (by first | omega | assumption | rfl) (by first | omega | assumption | rfl) (by omega)
  have U34 := T 60
  have f0 : Fr [74, 105, 106, 107, 108, 129, 131, 132, 134, 135, 136, 137] [1, 30, 33] σ0 σ0 := Fr_rf
  refine s_X12_paused_0 C hN ?_
  refine k_X12_in m0  (fun r2 σ1 mσ1 cσ1 plσ1 phσ1 (pσ1_0 : (r2.toInt = 1 ∧ (0 : Int) ≤ a2.toInt ∧ a2.toInt ≤ (1 : Int)) ∨ (r2.toInt = 0 ∧ (a2.toInt < (0 : Int) ∨ (1 : Int) < a2.toInt))) => ?_)
  obtain rfl := Fr_nil cσ1
  refine ⟨?_, ?_⟩
  · intro q_29
    have b_30 : ¬ r2.toInt = 0 := fun h9 => q_29 (Int32.toInt_inj.mp h9)
    refine k_X12_in m0  (fun r5 σ4 mσ4 cσ4 plσ4 phσ4 (pσ4_0 : (r5.toInt = 1 ∧ (1 : Int) ≤ a1.toInt ∧ a1.toInt ≤ (30 : Int)) ∨ (r5.toInt = 0 ∧ (a1.toInt < (1 : Int) ∨ (30 : Int) < a1.toInt))) => ?_)
    obtain rfl := Fr_nil cσ4
    refine ⟨?_, ?_⟩
    · intro q_31
      have b_32 : ¬ r5.toInt = 0 := fun h9 => q_31 (Int32.toInt_inj.mp h9)
      have z_33 : (0 : Int32).toInt = 0 := rfl
      have z_34 : (-1 : Int32).toInt = -1 := rfl
      exact U34 a1 a2 (0 : Int32) (-1 : Int32) (0 : Int32) σ0 m0 f0 (by omega) (by omega) (by omega) (by omega) (by first | omega | assumption | rfl) (by first | omega | assumption | rfl) (by omega)
    · intro q_31
      have b_35 : r5.toInt = 0 := congrArg Int32.toInt q_31
      have z_36 : (-2 : Int32).toInt = -2 := rfl
      exact h9ret (-2 : Int32) σ0 m0 f0 (by first | omega | assumption | rfl)
  · intro q_29
    have b_37 : r2.toInt = 0 := congrArg Int32.toInt q_29
    have z_38 : (-1 : Int32).toInt = -1 := rfl
    exact h9ret (-1 : Int32) σ0 m0 f0 (by first | omega | assumption | rfl)
set_option maxRecDepth 100000 in
set_option maxHeartbeats 4000000 in
theorem k_X12_who {l : Launch} {V : Vx} {σ0 : Sg} {Qk : Int32 → Sg → Prop} (m0 : MI σ0) (pre0 : (gi σ0 74 1).toInt ≤ 9999) (h9ret : ∀ (r : Int32) (σ' : Sg), MI σ' → Fr [74, 105, 106, 107, 108, 129, 131, 132, 134, 135, 136, 137] [1, 30, 33] σ0 σ' → ((gi σ' 74 1).toInt = (gi σ0 74 1).toInt) → Qk r σ') : K_X12_who l V σ0 Qk := by
  refine e_X12_who (fun M hl hV hN C => ?_)
  subst hl
  subst hV
  have T : ∀ n : Nat, (∀ (x1 : Int32) (x2 : Int32) (σ : Sg), MI σ → Fr [74, 105, 106, 107, 108, 129, 131, 132, 134, 135, 136, 137] [1, 30, 33] σ0 σ → (0 ≤ x2.toInt) → (x2.toInt ≤ 6) → ((gi σ 74 1).toInt = (gi σ0 74 1).toInt) → (7 - x2.toInt).toNat * 100 + 50 < n → PS M 4 [(0, .ref 74), (1, .int x1), (2, .int x2)] [] σ (0, 0)) ∧ (∀ (x1 : Int32) (x2 : Int32) (x3 : Int32) (x4 : Int32) (σ : Sg), MI σ → Fr [74, 105, 106, 107, 108, 129, 131, 132, 134, 135, 136, 137] [1, 30, 33] σ0 σ → (0 ≤ x2.toInt) → (x2.toInt ≤ 5) → (0 ≤ x4.toInt) → (x4.toInt ≤ 6) → ((gi σ 74 1).toInt = (gi σ0 74 1).toInt) → (7 - x2.toInt).toNat * 100 + 20 - x4.toInt.toNat < n → PS M 17 [(0, .ref 74), (1, .int x1), (2, .int x2), (3, .int x3), (4, .int x4)] [] σ (0, 0)) ∧ (∀ (x1 : Int32) (x2 : Int32) (x3 : Int32) (σ : Sg), MI σ → Fr [74, 105, 106, 107, 108, 129, 131, 132, 134, 135, 136, 137] [1, 30, 33] σ0 σ → (0 ≤ x2.toInt) → (x2.toInt ≤ 5) → ((gi σ 74 1).toInt = (gi σ0 74 1).toInt) → (7 - x2.toInt).toNat * 100 < n → PS M 44 [(0, .ref 74), (1, .int x1), (2, .int x2), (3, .int x3)] [] σ (0, 0)) := by
    intro n
    induction n with
    | zero => exact ⟨fun _ _ _ _ _ _ _ _ h8 => absurd h8 (Nat.not_lt_zero _), fun _ _ _ _ _ _ _ _ _ _ _ _ h8 => absurd h8 (Nat.not_lt_zero _), fun _ _ _ _ _ _ _ _ _ h8 => absurd h8 (Nat.not_lt_zero _)⟩
    | succ n ih =>
      obtain ⟨ih4, ih17, ih44⟩ := ih
      refine ⟨?_, ?_, ?_⟩
      · intro x1 x2 σ mσ fσ lx2 ux2 i0 hmu
        refine s_X12_who_4 C hN ?_
        refine ⟨?_, ?_⟩
        · intro q_1
          have t_2 := MI_f0 mσ
          have b_3 : (gi σ 74 0).toInt ≤ x2.toInt := Int32.le_iff_toInt_le.mp q_1
          exact h9ret x1 σ mσ fσ (by first | omega | assumption | rfl)
        · intro q_1
          have t_4 := MI_f0 mσ
          have b_5 : ¬ (gi σ 74 0).toInt ≤ x2.toInt := fun h9 => q_1 (Int32.le_iff_toInt_le.mpr h9)
          have z_6 : (1 : Int32).toInt = 1 := rfl
          have z_7 : (0 : Int32).toInt = 0 := rfl
          exact ih17 x1 x2 (1 : Int32) (0 : Int32) σ mσ fσ (by omega) (by omega) (by omega) (by omega) (by first | omega | assumption | rfl) (by omega)
      · intro x1 x2 x3 x4 σ mσ fσ lx2 ux2 lx4 ux4 i0 hmu
        refine s_X12_who_17 C hN ?_
        refine ⟨?_, ?_⟩
        · intro q_8
          have t_9 := MI_f41 mσ
          have b_10 : (gi σ 74 41).toInt ≤ x4.toInt := Int32.le_iff_toInt_le.mp q_8
          exact ih44 x1 x2 x3 σ mσ fσ (by omega) (by omega) (by first | omega | assumption | rfl) (by omega)
        · intro q_8
          have t_11 := MI_f41 mσ
          have b_12 : ¬ (gi σ 74 41).toInt ≤ x4.toInt := fun h9 => q_8 (Int32.le_iff_toInt_le.mpr h9)
          refine ⟨?_, ?_⟩
          · intro q_13
            have w_14 := Int32.toInt_lt x3
            have w_15 := Int32.le_toInt x3
            have b_16 : x3.toInt = 0 := congrArg Int32.toInt q_13
            exact ih44 x1 x2 x3 σ mσ fσ (by omega) (by omega) (by first | omega | assumption | rfl) (by omega)
          · intro q_13
            have w_17 := Int32.toInt_lt x3
            have w_18 := Int32.le_toInt x3
            have b_19 : ¬ x3.toInt = 0 := fun h9 => q_13 (Int32.toInt_inj.mp h9)
            refine k_X12_isSeen mσ (by omega) (by omega) (by omega) (by omega) (by first | omega | assumption | rfl) (fun r4 σ3 mσ3 cσ3 plσ3 phσ3 (pσ3_0 : (gi σ3 74 1).toInt = (gi σ 74 1).toInt) => ?_)
            have fσ3 : Fr [74, 105, 106, 107, 108, 129, 131, 132, 134, 135, 136, 137] [1, 30, 33] σ0 σ3 := Fr_tr fσ cσ3 (by decide) (by decide)
            have k_20 : (gi σ3 74 41).toInt = (gi σ 74 41).toInt := congrArg Int32.toInt (cσ3.2.1 41 (by decide))
            intro v5 ev5
            have t_21 : (x4 + (1 : Int32)).toInt = x4.toInt + 1 := i_add (x := x4) (y := (1 : Int32)) (by show (_ : Int) ≤ x4.toInt + 1; omega) (by show x4.toInt + 1 ≤ (_ : Int); omega)
            have t_22 : v5.toInt = (x4 + (1 : Int32)).toInt := congrArg Int32.toInt ev5
            exact ih17 x1 x2 r4 v5 σ3 mσ3 fσ3 (by omega) (by omega) (by omega) (by omega) (by first | omega | assumption | rfl) (by omega)
      · intro x1 x2 x3 σ mσ fσ lx2 ux2 i0 hmu
        refine s_X12_who_44 C hN ?_
        refine ⟨?_, ?_⟩
        · intro q_23
          have w_24 := Int32.toInt_lt x3
          have w_25 := Int32.le_toInt x3
          have b_26 : x3.toInt = 0 := congrArg Int32.toInt q_23
          intro v2 ev2
          intro v3 ev3
          have t_27 : (x2 + (1 : Int32)).toInt = x2.toInt + 1 := i_add (x := x2) (y := (1 : Int32)) (by show (_ : Int) ≤ x2.toInt + 1; omega) (by show x2.toInt + 1 ≤ (_ : Int); omega)
          have t_28 : v3.toInt = (x2 + (1 : Int32)).toInt := congrArg Int32.toInt ev3
          exact ih4 v2 v3 σ mσ fσ (by omega) (by omega) (by first | omega | assumption | rfl) (by omega)
        · intro q_23
          have w_29 := Int32.toInt_lt x3
          have w_30 := Int32.le_toInt x3
          have b_31 : ¬ x3.toInt = 0 := fun h9 => q_23 (Int32.toInt_inj.mp h9)
          intro v4 ev4
          intro v5 ev5
          have t_32 : (x2 + (1 : Int32)).toInt = x2.toInt + 1 := i_add (x := x2) (y := (1 : Int32)) (by show (_ : Int) ≤ x2.toInt + 1; omega) (by show x2.toInt + 1 ≤ (_ : Int); omega)
          have t_33 : v5.toInt = (x2 + (1 : Int32)).toInt := congrArg Int32.toInt ev5
          exact ih4 v4 v5 σ mσ fσ (by omega) (by omega) (by first | omega | assumption | rfl) (by omega)
  obtain ⟨U4, U17, U44⟩ := T 2000
  have f0 : Fr [74, 105, 106, 107, 108, 129, 131, 132, 134, 135, 136, 137] [1, 30, 33] σ0 σ0 := Fr_rf
  refine s_X12_who_0 C hN ?_
  have z_34 : (0 : Int32).toInt = 0 := rfl
  exact U4 (0 : Int32) (0 : Int32) σ0 m0 f0 (by omega) (by omega) (by first | omega | assumption | rfl) (by omega)
set_option maxRecDepth 100000 in
set_option maxHeartbeats 4000000 in
theorem k_X12_planned {l : Launch} {V : Vx} {σ0 : Sg} {Qk : Int32 → Sg → Prop} (m0 : MI σ0) (pre0 : (gi σ0 74 1).toInt ≤ 9999) (h9ret : ∀ (r : Int32) (σ' : Sg), MI σ' → Fr [74, 105, 106, 107, 108, 129, 131, 132, 134, 135, 136, 137] [1, 30, 33] σ0 σ' → ((gi σ' 74 1).toInt = (gi σ0 74 1).toInt) → Qk r σ') : K_X12_planned l V σ0 Qk := by
  refine e_X12_planned (fun M hl hV hN C => ?_)
  subst hl
  subst hV
  have T : ∀ n : Nat, (∀ (x1 : Int32) (σ : Sg), MI σ → Fr [74, 105, 106, 107, 108, 129, 131, 132, 134, 135, 136, 137] [1, 30, 33] σ0 σ → (0 ≤ x1.toInt) → (x1.toInt ≤ 10) → ((gi σ 74 1).toInt ≤ 9999 + 3 * x1.toInt) → ((gi σ 74 33).toInt = (gi σ0 74 1).toInt) → (11 - x1.toInt).toNat * 10 + 5 < n → PS M 6 [(0, .ref 74), (1, .int x1)] [] σ (0, 0)) ∧ (∀ (x1 : Int32) (σ : Sg), MI σ → Fr [74, 105, 106, 107, 108, 129, 131, 132, 134, 135, 136, 137] [1, 30, 33] σ0 σ → (0 ≤ x1.toInt) → (x1.toInt ≤ 9) → ((gi σ 74 1).toInt ≤ 9999 + 3 * x1.toInt + 2) → ((gi σ 74 33).toInt = (gi σ0 74 1).toInt) → (11 - x1.toInt).toNat * 10 < n → PS M 42 [(0, .ref 74), (1, .int x1)] [] σ (0, 0)) := by
    intro n
    induction n with
    | zero => exact ⟨fun _ _ _ _ _ _ _ _ h8 => absurd h8 (Nat.not_lt_zero _), fun _ _ _ _ _ _ _ _ h8 => absurd h8 (Nat.not_lt_zero _)⟩
    | succ n ih =>
      obtain ⟨ih6, ih42⟩ := ih
      refine ⟨?_, ?_⟩
      · intro x1 σ mσ fσ lx1 ux1 i0 i1 hmu
        refine s_X12_planned_6 C hN ?_
        refine ⟨?_, ?_⟩
        · intro q_1
          have t_2 := MI_f45 mσ
          have b_3 : (gi σ 74 45).toInt ≤ x1.toInt := Int32.le_iff_toInt_le.mp q_1
          refine k_X12_all mσ  (fun r3 σ2 mσ2 cσ2 plσ2 phσ2 => ?_)
          obtain rfl := Fr_nil cσ2
          refine k_X12_putBack mσ  (fun σ4 mσ4 cσ4 (pσ4_0 : (gi σ4 74 1).toInt = (gi σ 74 33).toInt) => ?_)
          have fσ4 : Fr [74, 105, 106, 107, 108, 129, 131, 132, 134, 135, 136, 137] [1, 30, 33] σ0 σ4 := Fr_tr fσ cσ4 (by decide) (by decide)
          have k_4 : (gi σ4 74 33).toInt = (gi σ 74 33).toInt := congrArg Int32.toInt (cσ4.2.1 33 (by decide))
          have k_5 : (gi σ4 74 45).toInt = (gi σ 74 45).toInt := congrArg Int32.toInt (cσ4.2.1 45 (by decide))
          exact h9ret r3 σ4 mσ4 fσ4 (by first | omega | assumption | rfl)
        · intro q_1
          have t_6 := MI_f45 mσ
          have b_7 : ¬ (gi σ 74 45).toInt ≤ x1.toInt := fun h9 => q_1 (Int32.le_iff_toInt_le.mpr h9)
          have hv_8 : vp_in x1 10 := vp_in_iff.mpr ⟨by omega, by omega⟩
          refine ⟨hv_8, ?_⟩
          refine ⟨?_, ?_⟩
          · intro q_9
            have b_10 : ¬ (gi σ 147 x1.toNatClampNeg).toInt = 0 := fun h9 => q_9 (Int32.toInt_inj.mp h9)
            refine ⟨hv_8, ?_⟩
            refine ⟨?_, ?_⟩
            · intro q_11
              have b_12 : ¬ (gi σ 147 x1.toNatClampNeg).toInt = 1 := fun h9 => q_11 (Int32.toInt_inj.mp h9)
              exact ih42 x1 σ mσ fσ (by omega) (by omega) (by first | omega | assumption | rfl) (by first | omega | assumption | rfl) (by omega)
            · intro q_11
              have b_13 : (gi σ 147 x1.toNatClampNeg).toInt = 1 := congrArg Int32.toInt q_11
              refine k_X12_goWhet mσ (by first | omega | assumption | rfl) (fun σ9 mσ9 cσ9 (pσ9_0 : (gi σ9 74 1).toInt = (gi σ 74 1).toInt + 1) => ?_)
              have fσ9 : Fr [74, 105, 106, 107, 108, 129, 131, 132, 134, 135, 136, 137] [1, 30, 33] σ0 σ9 := Fr_tr fσ cσ9 (by decide) (by decide)
              have k_14 : (gi σ9 74 33).toInt = (gi σ 74 33).toInt := congrArg Int32.toInt (cσ9.2.1 33 (by decide))
              have k_15 : (gi σ9 74 45).toInt = (gi σ 74 45).toInt := congrArg Int32.toInt (cσ9.2.1 45 (by decide))
              exact ih42 x1 σ9 mσ9 fσ9 (by omega) (by omega) (by first | omega | assumption | rfl) (by first | omega | assumption | rfl) (by omega)
          · intro q_9
            have b_16 : (gi σ 147 x1.toNatClampNeg).toInt = 0 := congrArg Int32.toInt q_9
            have z_17 : (1 : Int32).toInt = 1 := rfl
            refine k_X12_goMinutes mσ (by omega) (by omega) (by first | omega | assumption | rfl) (fun σ10 mσ10 cσ10 (pσ10_0 : ((1 : Int) ≤ 0 ∧ (gi σ10 74 1).toInt = (gi σ 74 1).toInt) ∨ (0 ≤ (1 : Int) ∧ (gi σ10 74 1).toInt = (gi σ 74 1).toInt + (1 : Int))) => ?_)
            have fσ10 : Fr [74, 105, 106, 107, 108, 129, 131, 132, 134, 135, 136, 137] [1, 30, 33] σ0 σ10 := Fr_tr fσ cσ10 (by decide) (by decide)
            have k_18 : (gi σ10 74 33).toInt = (gi σ 74 33).toInt := congrArg Int32.toInt (cσ10.2.1 33 (by decide))
            have k_19 : (gi σ10 74 45).toInt = (gi σ 74 45).toInt := congrArg Int32.toInt (cσ10.2.1 45 (by decide))
            refine ⟨hv_8, ?_⟩
            refine ⟨?_, ?_⟩
            · intro q_20
              have b_21 : ¬ (gi σ10 147 x1.toNatClampNeg).toInt = 1 := fun h9 => q_20 (Int32.toInt_inj.mp h9)
              exact ih42 x1 σ10 mσ10 fσ10 (by omega) (by omega) (by first | omega | assumption | rfl) (by first | omega | assumption | rfl) (by omega)
            · intro q_20
              have b_22 : (gi σ10 147 x1.toNatClampNeg).toInt = 1 := congrArg Int32.toInt q_20
              refine k_X12_goWhet mσ10 (by first | omega | assumption | rfl) (fun σ13 mσ13 cσ13 (pσ13_0 : (gi σ13 74 1).toInt = (gi σ10 74 1).toInt + 1) => ?_)
              have fσ13 : Fr [74, 105, 106, 107, 108, 129, 131, 132, 134, 135, 136, 137] [1, 30, 33] σ0 σ13 := Fr_tr fσ10 cσ13 (by decide) (by decide)
              have k_23 : (gi σ13 74 33).toInt = (gi σ10 74 33).toInt := congrArg Int32.toInt (cσ13.2.1 33 (by decide))
              have k_24 : (gi σ13 74 45).toInt = (gi σ10 74 45).toInt := congrArg Int32.toInt (cσ13.2.1 45 (by decide))
              exact ih42 x1 σ13 mσ13 fσ13 (by omega) (by omega) (by first | omega | assumption | rfl) (by first | omega | assumption | rfl) (by omega)
      · intro x1 σ mσ fσ lx1 ux1 i0 i1 hmu
        refine s_X12_planned_42 C hN ?_
        have hv_25 : vp_in x1 10 := vp_in_iff.mpr ⟨by omega, by omega⟩
        refine ⟨hv_25, ?_⟩
        refine ⟨?_, ?_⟩
        · intro q_26
          have b_27 : ¬ (gi σ 147 x1.toNatClampNeg).toInt = 2 := fun h9 => q_26 (Int32.toInt_inj.mp h9)
          intro v3 ev3
          have t_28 : (x1 + (1 : Int32)).toInt = x1.toInt + 1 := i_add (x := x1) (y := (1 : Int32)) (by show (_ : Int) ≤ x1.toInt + 1; omega) (by show x1.toInt + 1 ≤ (_ : Int); omega)
          have t_29 : v3.toInt = (x1 + (1 : Int32)).toInt := congrArg Int32.toInt ev3
          exact ih6 v3 σ mσ fσ (by omega) (by omega) (by first | omega | assumption | rfl) (by first | omega | assumption | rfl) (by omega)
        · intro q_26
          have b_30 : (gi σ 147 x1.toNatClampNeg).toInt = 2 := congrArg Int32.toInt q_26
          have z_31 : (1 : Int32).toInt = 1 := rfl
          refine k_X12_goPause mσ (by omega) (by omega) (by first | omega | assumption | rfl) (fun σ4 mσ4 cσ4 (pσ4_0 : (gi σ4 74 1).toInt = (gi σ 74 1).toInt + (1 : Int)) => ?_)
          have fσ4 : Fr [74, 105, 106, 107, 108, 129, 131, 132, 134, 135, 136, 137] [1, 30, 33] σ0 σ4 := Fr_tr fσ cσ4 (by decide) (by decide)
          have k_32 : (gi σ4 74 33).toInt = (gi σ 74 33).toInt := congrArg Int32.toInt (cσ4.2.1 33 (by decide))
          intro v5 ev5
          have t_33 : (x1 + (1 : Int32)).toInt = x1.toInt + 1 := i_add (x := x1) (y := (1 : Int32)) (by show (_ : Int) ≤ x1.toInt + 1; omega) (by show x1.toInt + 1 ≤ (_ : Int); omega)
          have t_34 : v5.toInt = (x1 + (1 : Int32)).toInt := congrArg Int32.toInt ev5
          exact ih6 v5 σ4 mσ4 fσ4 (by omega) (by omega) (by first | omega | assumption | rfl) (by first | omega | assumption | rfl) (by omega)
  obtain ⟨U6, U42⟩ := T 300
  have f0 : Fr [74, 105, 106, 107, 108, 129, 131, 132, 134, 135, 136, 137] [1, 30, 33] σ0 σ0 := Fr_rf
  refine s_X12_planned_0 C hN ?_
  refine k_X12_save m0  (fun σ1 mσ1 cσ1 (pσ1_0 : (gi σ1 74 33).toInt = (gi σ0 74 1).toInt) => ?_)
  have fσ1 : Fr [74, 105, 106, 107, 108, 129, 131, 132, 134, 135, 136, 137] [1, 30, 33] σ0 σ1 := Fr_tr f0 cσ1 (by decide) (by decide)
  have k_35 : (gi σ1 74 1).toInt = (gi σ0 74 1).toInt := congrArg Int32.toInt (cσ1.2.1 1 (by decide))
  have z_36 : (0 : Int32).toInt = 0 := rfl
  exact U6 (0 : Int32) σ1 mσ1 fσ1 (by omega) (by omega) (by first | omega | assumption | rfl) (by first | omega | assumption | rfl) (by omega)
set_option maxRecDepth 100000 in
set_option maxHeartbeats 4000000 in
theorem k_X12_told {l : Launch} {V : Vx} {a1 : Int32} {σ0 : Sg} {Qk : Int32 → Sg → Prop} (m0 : MI σ0) (h9ret : ∀ (r : Int32) (σ' : Sg), MI σ' → Fr [] [] σ0 σ' → Qk r σ') : K_X12_told l V a1 σ0 Qk := by
  refine e_X12_told (fun M hl hV hN C => ?_)
  subst hl
  subst hV
  have f0 : Fr [] [] σ0 σ0 := Fr_rf
  refine s_X12_told_0 C hN ?_
  have t_1 := MI_f0 m0
  have t_2 : ((9 : Int32) + (gi σ0 74 0)).toInt = 9 + (gi σ0 74 0).toInt := i_add (x := (9 : Int32)) (y := (gi σ0 74 0)) (by show (_ : Int) ≤ 9 + (gi σ0 74 0).toInt; omega) (by show 9 + (gi σ0 74 0).toInt ≤ (_ : Int); omega)
  refine k_X12_in m0  (fun r2 σ1 mσ1 cσ1 plσ1 phσ1 (pσ1_0 : (r2.toInt = 1 ∧ (10 : Int) ≤ a1.toInt ∧ a1.toInt ≤ ((9 : Int32) + (gi σ0 74 0)).toInt) ∨ (r2.toInt = 0 ∧ (a1.toInt < (10 : Int) ∨ ((9 : Int32) + (gi σ0 74 0)).toInt < a1.toInt))) => ?_)
  obtain rfl := Fr_nil cσ1
  refine ⟨?_, ?_⟩
  · intro q_3
    have b_4 : r2.toInt = 0 := congrArg Int32.toInt q_3
    refine ⟨?_, ?_, ?_, ?_, ?_⟩
    · intro q_5
      have z_6 : (-1 : Int32).toInt = -1 := rfl
      exact h9ret (-1 : Int32) σ0 m0 f0
    · intro q_5
      exact h9ret (gi σ0 74 1) σ0 m0 f0
    · intro q_5
      refine k_X12_gap m0  (fun r6 σ5 mσ5 cσ5 => ?_)
      obtain rfl := Fr_nil cσ5
      exact h9ret r6 σ0 m0 f0
    · intro q_5
      refine k_X12_lastOf m0  (fun r8 σ7 mσ7 cσ7 => ?_)
      obtain rfl := Fr_nil cσ7
      exact h9ret r8 σ0 m0 f0
    · intro q_5
      refine k_X12_fieldLong m0  (fun r10 σ9 mσ9 cσ9 => ?_)
      obtain rfl := Fr_nil cσ9
      exact h9ret r10 σ0 m0 f0
  · intro q_3
    have b_7 : ¬ r2.toInt = 0 := fun h9 => q_3 (Int32.toInt_inj.mp h9)
    have w_8 := Int32.toInt_lt a1
    have w_9 := Int32.le_toInt a1
    try have t_10 : (a1 - (10 : Int32)).toInt = a1.toInt - 10 := i_sub (x := a1) (y := (10 : Int32)) (by show (_ : Int) ≤ a1.toInt - 10; omega) (by show a1.toInt - 10 ≤ (_ : Int); omega)
    have hv_11 : vp_in (a1 - (10 : Int32)) 6 := vp_in_iff.mpr ⟨by omega, by omega⟩
    refine ⟨hv_11, ?_⟩
    exact h9ret (gi σ0 110 (a1 - (10 : Int32)).toNatClampNeg) σ0 m0 f0
set_option maxRecDepth 100000 in
set_option maxHeartbeats 4000000 in
theorem k_X12_item {l : Launch} {V : Vx} {a1 : Int32} {a2 : Int32} {a3 : Int64} {σ0 : Sg} {Qk : Int32 → Sg → Prop} (m0 : MI σ0) (h9ret : ∀ (r : Int32) (σ' : Sg), MI σ' → Fr [173] [] σ0 σ' → Qk r σ') : K_X12_item l V a1 a2 a3 σ0 Qk := by
  refine e_X12_item (fun M hl hV hN C => ?_)
  subst hl
  subst hV
  have f0 : Fr [173] [] σ0 σ0 := Fr_rf
  refine s_X12_item_0 C hN ?_
  refine k_X12_isTape m0  (fun r2 σ1 mσ1 cσ1 plσ1 phσ1 (pσ1_0 : (r2.toInt = 1 ∧ 0 ≤ a1.toInt ∧ a1.toInt ≤ 5) ∨ (r2.toInt = 0 ∧ (a1.toInt < 0 ∨ 5 < a1.toInt))) => ?_)
  obtain rfl := Fr_nil cσ1
  refine ⟨?_, ?_⟩
  · intro q_1
    have b_2 : ¬ r2.toInt = 0 := fun h9 => q_1 (Int32.toInt_inj.mp h9)
    have w_3 := Int32.toInt_lt a1
    have w_4 := Int32.le_toInt a1
    have hv_5 : vp_in a1 6 := vp_in_iff.mpr ⟨by omega, by omega⟩
    refine ⟨hv_5, ?_⟩
    refine ⟨?_, ?_⟩
    · intro q_6
      have t_7 := MI_a171 m0 hv_5
      have b_8 : (0 : Int) ≤ (gi σ0 171 a1.toNatClampNeg).toInt := Int32.le_iff_toInt_le.mp q_6
      refine ⟨hv_5, ?_⟩
      have t_9 := MI_a172 m0 hv_5
      have t_10 : ((gi σ0 172 a1.toNatClampNeg) - (1 : Int32)).toInt = (gi σ0 172 a1.toNatClampNeg).toInt - 1 := i_sub (x := (gi σ0 172 a1.toNatClampNeg)) (y := (1 : Int32)) (by show (_ : Int) ≤ (gi σ0 172 a1.toNatClampNeg).toInt - 1; omega) (by show (gi σ0 172 a1.toNatClampNeg).toInt - 1 ≤ (_ : Int); omega)
      refine k_X12_in m0  (fun r8 σ7 mσ7 cσ7 plσ7 phσ7 (pσ7_0 : (r8.toInt = 1 ∧ (0 : Int) ≤ a2.toInt ∧ a2.toInt ≤ ((gi σ0 172 a1.toNatClampNeg) - (1 : Int32)).toInt) ∨ (r8.toInt = 0 ∧ (a2.toInt < (0 : Int) ∨ ((gi σ0 172 a1.toNatClampNeg) - (1 : Int32)).toInt < a2.toInt))) => ?_)
      obtain rfl := Fr_nil cσ7
      refine ⟨?_, ?_⟩
      · intro q_11
        have b_12 : ¬ r8.toInt = 0 := fun h9 => q_11 (Int32.toInt_inj.mp h9)
        refine ⟨hv_5, ?_⟩
        refine k_X12_narrow m0  (fun r12 σ11 mσ11 cσ11 => ?_)
        obtain rfl := Fr_nil cσ11
        try have t_13 : ((60 : Int32) * a1).toInt = 60 * a1.toInt := i_mull rfl (by omega) (by omega)
        have w_14 := Int32.toInt_lt a2
        have w_15 := Int32.le_toInt a2
        try have t_16 : (((60 : Int32) * a1) + a2).toInt = ((60 : Int32) * a1).toInt + a2.toInt := i_add (x := ((60 : Int32) * a1)) (y := a2) (by show (_ : Int) ≤ ((60 : Int32) * a1).toInt + a2.toInt; omega) (by show ((60 : Int32) * a1).toInt + a2.toInt ≤ (_ : Int); omega)
        have hv_17 : vp_in (((60 : Int32) * a1) + a2) 360 := vp_in_iff.mpr ⟨by omega, by omega⟩
        refine ⟨hv_17, ?_⟩
        intro σ14 eσ14
        have mσ14 : MI σ14 := by rw [eσ14]; exact MIs_l m0
        have fσ14 : Fr [173] [] σ0 σ14 := by rw [eσ14]; exact Fr_sl f0 (by decide)
        have z_18 : (1 : Int32).toInt = 1 := rfl
        exact h9ret (1 : Int32) σ14 mσ14 fσ14
      · intro q_11
        have b_19 : r8.toInt = 0 := congrArg Int32.toInt q_11
        have z_20 : (-13 : Int32).toInt = -13 := rfl
        exact h9ret (-13 : Int32) σ0 m0 f0
    · intro q_6
      have t_21 := MI_a171 m0 hv_5
      have b_22 : ¬ (0 : Int) ≤ (gi σ0 171 a1.toNatClampNeg).toInt := fun h9 => q_6 (Int32.le_iff_toInt_le.mpr h9)
      have z_23 : (-11 : Int32).toInt = -11 := rfl
      exact h9ret (-11 : Int32) σ0 m0 f0
  · intro q_1
    have b_24 : r2.toInt = 0 := congrArg Int32.toInt q_1
    have z_25 : (-1 : Int32).toInt = -1 := rfl
    exact h9ret (-1 : Int32) σ0 m0 f0
set_option maxRecDepth 100000 in
set_option maxHeartbeats 4000000 in
theorem k_X12_read {l : Launch} {V : Vx} {a1 : Int32} {a2 : Int32} {σ0 : Sg} {Qk : Int64 → Sg → Prop} (m0 : MI σ0) (h9ret : ∀ (r : Int64) (σ' : Sg), MI σ' → Fr [] [] σ0 σ' → Qk r σ') : K_X12_read l V a1 a2 σ0 Qk := by
  refine e_X12_read (fun M hl hV hN C => ?_)
  subst hl
  subst hV
  have f0 : Fr [] [] σ0 σ0 := Fr_rf
  refine s_X12_read_0 C hN ?_
  refine k_X12_isTape m0  (fun r2 σ1 mσ1 cσ1 plσ1 phσ1 (pσ1_0 : (r2.toInt = 1 ∧ 0 ≤ a1.toInt ∧ a1.toInt ≤ 5) ∨ (r2.toInt = 0 ∧ (a1.toInt < 0 ∨ 5 < a1.toInt))) => ?_)
  obtain rfl := Fr_nil cσ1
  refine ⟨?_, ?_⟩
  · intro q_1
    have b_2 : r2.toInt = 0 := congrArg Int32.toInt q_1
    exact h9ret (-9223372036854775808 : Int64) σ0 m0 f0
  · intro q_1
    have b_3 : ¬ r2.toInt = 0 := fun h9 => q_1 (Int32.toInt_inj.mp h9)
    have w_4 := Int32.toInt_lt a1
    have w_5 := Int32.le_toInt a1
    have hv_6 : vp_in a1 6 := vp_in_iff.mpr ⟨by omega, by omega⟩
    refine ⟨hv_6, ?_⟩
    refine ⟨?_, ?_⟩
    · intro q_7
      have t_8 := MI_a171 m0 hv_6
      have b_9 : (gi σ0 171 a1.toNatClampNeg).toInt < 0 := Int32.lt_iff_toInt_lt.mp q_7
      exact h9ret (-9223372036854775808 : Int64) σ0 m0 f0
    · intro q_7
      have t_10 := MI_a171 m0 hv_6
      have b_11 : ¬ (gi σ0 171 a1.toNatClampNeg).toInt < 0 := fun h9 => q_7 (Int32.lt_iff_toInt_lt.mpr h9)
      refine ⟨hv_6, ?_⟩
      have t_12 := MI_a172 m0 hv_6
      have t_13 : ((gi σ0 172 a1.toNatClampNeg) - (1 : Int32)).toInt = (gi σ0 172 a1.toNatClampNeg).toInt - 1 := i_sub (x := (gi σ0 172 a1.toNatClampNeg)) (y := (1 : Int32)) (by show (_ : Int) ≤ (gi σ0 172 a1.toNatClampNeg).toInt - 1; omega) (by show (gi σ0 172 a1.toNatClampNeg).toInt - 1 ≤ (_ : Int); omega)
      refine k_X12_in m0  (fun r8 σ7 mσ7 cσ7 plσ7 phσ7 (pσ7_0 : (r8.toInt = 1 ∧ (0 : Int) ≤ a2.toInt ∧ a2.toInt ≤ ((gi σ0 172 a1.toNatClampNeg) - (1 : Int32)).toInt) ∨ (r8.toInt = 0 ∧ (a2.toInt < (0 : Int) ∨ ((gi σ0 172 a1.toNatClampNeg) - (1 : Int32)).toInt < a2.toInt))) => ?_)
      obtain rfl := Fr_nil cσ7
      refine ⟨?_, ?_⟩
      · intro q_14
        have b_15 : ¬ r8.toInt = 0 := fun h9 => q_14 (Int32.toInt_inj.mp h9)
        try have t_16 : ((60 : Int32) * a1).toInt = 60 * a1.toInt := i_mull rfl (by omega) (by omega)
        have w_17 := Int32.toInt_lt a2
        have w_18 := Int32.le_toInt a2
        try have t_19 : (((60 : Int32) * a1) + a2).toInt = ((60 : Int32) * a1).toInt + a2.toInt := i_add (x := ((60 : Int32) * a1)) (y := a2) (by show (_ : Int) ≤ ((60 : Int32) * a1).toInt + a2.toInt; omega) (by show ((60 : Int32) * a1).toInt + a2.toInt ≤ (_ : Int); omega)
        have hv_20 : vp_in (((60 : Int32) * a1) + a2) 360 := vp_in_iff.mpr ⟨by omega, by omega⟩
        refine ⟨hv_20, ?_⟩
        exact h9ret (gl σ0 173 (((60 : Int32) * a1) + a2).toNatClampNeg) σ0 m0 f0
      · intro q_14
        have b_21 : r8.toInt = 0 := congrArg Int32.toInt q_14
        exact h9ret (-9223372036854775808 : Int64) σ0 m0 f0
set_option maxRecDepth 100000 in
set_option maxHeartbeats 4000000 in
theorem k_X12_taken {l : Launch} {V : Vx} {a1 : Int32} {a2 : Int32} {σ0 : Sg} {Qk : Int32 → Sg → Prop} (m0 : MI σ0) (h9ret : ∀ (r : Int32) (σ' : Sg), MI σ' → Fr [] [] σ0 σ' → Qk r σ') : K_X12_taken l V a1 a2 σ0 Qk := by
  refine e_X12_taken (fun M hl hV hN C => ?_)
  subst hl
  subst hV
  have T : ∀ n : Nat, (∀ (x2 : Int32) (x3 : Int32) (σ : Sg), MI σ → Fr [] [] σ0 σ → 2 < n → PS M 51 [(2, .int x2), (3, .int x3)] [] σ (0, 0)) ∧ (∀ (x2 : Int32) (x3 : Int32) (σ : Sg), MI σ → Fr [] [] σ0 σ → 1 < n → PS M 61 [(2, .int x2), (3, .int x3)] [] σ (0, 0)) := by
    intro n
    induction n with
    | zero => exact ⟨fun _ _ _ _ _ h8 => absurd h8 (Nat.not_lt_zero _), fun _ _ _ _ _ h8 => absurd h8 (Nat.not_lt_zero _)⟩
    | succ n ih =>
      obtain ⟨ih51, ih61⟩ := ih
      refine ⟨?_, ?_⟩
      · intro x2 x3 σ mσ fσ hmu
        refine s_X12_taken_51 C hN ?_
        refine ⟨?_, ?_⟩
        · intro q_1
          have w_2 := Int32.toInt_lt x2
          have w_3 := Int32.le_toInt x2
          have b_4 : ¬ x2.toInt = 2 := fun h9 => q_1 (Int32.toInt_inj.mp h9)
          exact ih61 x2 x3 σ mσ fσ  (by omega)
        · intro q_1
          have w_5 := Int32.toInt_lt x2
          have w_6 := Int32.le_toInt x2
          have b_7 : x2.toInt = 2 := congrArg Int32.toInt q_1
          refine ⟨?_, ?_⟩
          · intro q_8
            have w_9 := Int32.toInt_lt x3
            have w_10 := Int32.le_toInt x3
            have b_11 : x3.toInt = 5 := congrArg Int32.toInt q_8
            exact h9ret x3 σ mσ fσ
          · intro q_8
            have w_12 := Int32.toInt_lt x3
            have w_13 := Int32.le_toInt x3
            have b_14 : ¬ x3.toInt = 5 := fun h9 => q_8 (Int32.toInt_inj.mp h9)
            exact ih61 x2 x3 σ mσ fσ  (by omega)
      · intro x2 x3 σ mσ fσ hmu
        refine s_X12_taken_61 C hN ?_
        refine ⟨?_, ?_⟩
        · intro q_15
          have w_16 := Int32.toInt_lt x2
          have w_17 := Int32.le_toInt x2
          have b_18 : ¬ x2.toInt = 3 := fun h9 => q_15 (Int32.toInt_inj.mp h9)
          have z_19 : (-12 : Int32).toInt = -12 := rfl
          exact h9ret (-12 : Int32) σ mσ fσ
        · intro q_15
          have w_20 := Int32.toInt_lt x2
          have w_21 := Int32.le_toInt x2
          have b_22 : x2.toInt = 3 := congrArg Int32.toInt q_15
          refine ⟨?_, ?_⟩
          · intro q_23
            have w_24 := Int32.toInt_lt x3
            have w_25 := Int32.le_toInt x3
            have b_26 : ¬ x3.toInt = 6 := fun h9 => q_23 (Int32.toInt_inj.mp h9)
            have z_27 : (-12 : Int32).toInt = -12 := rfl
            exact h9ret (-12 : Int32) σ mσ fσ
          · intro q_23
            have w_28 := Int32.toInt_lt x3
            have w_29 := Int32.le_toInt x3
            have b_30 : x3.toInt = 6 := congrArg Int32.toInt q_23
            exact h9ret x3 σ mσ fσ
  obtain ⟨U51, U61⟩ := T 9
  have f0 : Fr [] [] σ0 σ0 := Fr_rf
  refine s_X12_taken_0 C hN ?_
  refine k_X12_in m0  (fun r2 σ1 mσ1 cσ1 plσ1 phσ1 (pσ1_0 : (r2.toInt = 1 ∧ (0 : Int) ≤ a2.toInt ∧ a2.toInt ≤ (6 : Int)) ∨ (r2.toInt = 0 ∧ (a2.toInt < (0 : Int) ∨ (6 : Int) < a2.toInt))) => ?_)
  obtain rfl := Fr_nil cσ1
  refine ⟨?_, ?_⟩
  · intro q_31
    have b_32 : ¬ r2.toInt = 0 := fun h9 => q_31 (Int32.toInt_inj.mp h9)
    refine k_X12_isMower m0  (fun r5 σ4 mσ4 cσ4 plσ4 phσ4 (pσ4_0 : (r5.toInt = 1 ∧ 0 ≤ a1.toInt ∧ a1.toInt < (gi σ0 74 0).toInt) ∨ (r5.toInt = 0 ∧ (a1.toInt < 0 ∨ (gi σ0 74 0).toInt ≤ a1.toInt))) => ?_)
    obtain rfl := Fr_nil cσ4
    have t_33 := MI_f0 m0
    refine ⟨?_, ?_⟩
    · intro q_34
      have b_35 : ¬ r5.toInt = 0 := fun h9 => q_34 (Int32.toInt_inj.mp h9)
      have w_36 := Int32.toInt_lt a1
      have w_37 := Int32.le_toInt a1
      have hv_38 : vp_in a1 6 := vp_in_iff.mpr ⟨by omega, by omega⟩
      refine ⟨hv_38, ?_⟩
      intro v8 ev8
      refine ⟨?_, ?_⟩
      · intro q_39
        have w_40 := Int32.toInt_lt a2
        have w_41 := Int32.le_toInt a2
        have b_42 : a2.toInt = 0 := congrArg Int32.toInt q_39
        exact h9ret v8 σ0 m0 f0
      · intro q_39
        have w_43 := Int32.toInt_lt a2
        have w_44 := Int32.le_toInt a2
        have b_45 : ¬ a2.toInt = 0 := fun h9 => q_39 (Int32.toInt_inj.mp h9)
        refine ⟨?_, ?_⟩
        · intro q_46
          have w_47 := Int32.toInt_lt v8
          have w_48 := Int32.le_toInt v8
          have b_49 : v8.toInt = a2.toInt := congrArg Int32.toInt q_46
          exact h9ret v8 σ0 m0 f0
        · intro q_46
          have w_50 := Int32.toInt_lt v8
          have w_51 := Int32.le_toInt v8
          have b_52 : ¬ v8.toInt = a2.toInt := fun h9 => q_46 (Int32.toInt_inj.mp h9)
          refine ⟨?_, ?_⟩
          · intro q_53
            have b_54 : ¬ a2.toInt = 1 := fun h9 => q_53 (Int32.toInt_inj.mp h9)
            exact U51 a2 v8 σ0 m0 f0  (by omega)
          · intro q_53
            have b_55 : a2.toInt = 1 := congrArg Int32.toInt q_53
            refine ⟨?_, ?_⟩
            · intro q_56
              have b_57 : v8.toInt = 4 := congrArg Int32.toInt q_56
              exact h9ret v8 σ0 m0 f0
            · intro q_56
              have b_58 : ¬ v8.toInt = 4 := fun h9 => q_56 (Int32.toInt_inj.mp h9)
              exact U51 a2 v8 σ0 m0 f0  (by omega)
    · intro q_34
      have b_59 : r5.toInt = 0 := congrArg Int32.toInt q_34
      have z_60 : (-11 : Int32).toInt = -11 := rfl
      exact h9ret (-11 : Int32) σ0 m0 f0
  · intro q_31
    have b_61 : r2.toInt = 0 := congrArg Int32.toInt q_31
    have z_62 : (-2 : Int32).toInt = -2 := rfl
    exact h9ret (-2 : Int32) σ0 m0 f0
