/-! order, with the moving rows as they were -/
set_option maxRecDepth 100000 in
set_option maxHeartbeats 4000000 in
theorem kr_X12_order {l : Launch} {V : Vx} {a1 : Int32} {a2 : Int32} {σ0 : Sg} {Qk : Int32 → Sg → Prop} (m0 : MI σ0) (pre0 : (gi σ0 74 1).toInt ≤ 9999) (hB : MBx σ0) (h9ret : ∀ (r : Int32) (σ' : Sg), MI σ' → Fr [74, 105, 106, 107, 108, 110, 129, 131, 132, 134, 135, 136, 137, 138, 139] [1, 30, 33] σ0 σ' → ((gi σ' 74 1).toInt = (gi σ0 74 1).toInt) → (CD σ0 σ' 110 110 6) → (RWS σ0 σ') → Qk r σ') : K_X12_order l V a1 a2 σ0 Qk := by
  refine e_X12_order (fun M hl hV hN C => ?_)
  subst hl
  subst hV
  have T : ∀ n : Nat, (∀ (x1 : Int32) (x2 : Int32) (x3 : Int32) (σ : Sg), MI σ → Fr [74, 105, 106, 107, 108, 110, 129, 131, 132, 134, 135, 136, 137, 138, 139] [1, 30, 33] σ0 σ → (1 ≤ x1.toInt) → (x1.toInt ≤ 12) → (-1 ≤ x2.toInt) → (x2.toInt ≤ 4) → (0 ≤ x3.toInt) → (x3.toInt ≤ 6) → ((gi σ 74 1).toInt = (gi σ0 74 1).toInt) → (CD σ0 σ 110 110 6) → (CD σ0 σ 138 110 x3.toInt) → ((gi σ 74 0).toInt ≤ 5) → (RWS σ0 σ) → (7 - x3.toInt).toNat + 5000 < n → PS M 39 [(0, .ref 74), (1, .int x1), (2, .int x2), (3, .int x3)] [] σ (0, 0)) ∧ (∀ (x1 : Int32) (x2 : Int32) (x3 : Int32) (x4 : Int32) (σ : Sg), MI σ → Fr [74, 105, 106, 107, 108, 110, 129, 131, 132, 134, 135, 136, 137, 138, 139] [1, 30, 33] σ0 σ → (1 ≤ x1.toInt) → (x1.toInt ≤ 12) → (-1 ≤ x2.toInt) → (x2.toInt ≤ 4) → (0 ≤ x4.toInt) → (x4.toInt ≤ 120) → ((gi σ 74 1).toInt = (gi σ0 74 1).toInt) → (CD σ0 σ 138 110 6) → ((gi σ 74 0).toInt ≤ 5) → (RWS σ0 σ) → (130 - x4.toInt).toNat * 20 + 15 < n → PS M 68 [(0, .ref 74), (1, .int x1), (2, .int x2), (3, .int x3), (4, .int x4)] [] σ (0, 0)) ∧ (∀ (x2 : Int32) (x3 : Int32) (x4 : Int32) (σ : Sg), MI σ → Fr [74, 105, 106, 107, 108, 110, 129, 131, 132, 134, 135, 136, 137, 138, 139] [1, 30, 33] σ0 σ → (-1 ≤ x2.toInt) → (x2.toInt ≤ 4) → (0 ≤ x4.toInt) → (x4.toInt ≤ 6) → ((gi σ 74 1).toInt = (gi σ0 74 1).toInt) → (CD σ0 σ 138 110 6) → (CD σ0 σ 110 110 x4.toInt) → (RWS σ0 σ) → (7 - x4.toInt).toNat < n → PS M 135 [(0, .ref 74), (2, .int x2), (3, .int x3), (4, .int x4)] [] σ (0, 0)) ∧ (∀ (x1 : Int32) (x2 : Int32) (x3 : Int32) (x4 : Int32) (x6 : Int32) (σ : Sg), MI σ → Fr [74, 105, 106, 107, 108, 110, 129, 131, 132, 134, 135, 136, 137, 138, 139] [1, 30, 33] σ0 σ → (1 ≤ x1.toInt) → (x1.toInt ≤ 12) → (-1 ≤ x2.toInt) → (x2.toInt ≤ 4) → (0 ≤ x4.toInt) → (x4.toInt ≤ 119) → (0 ≤ x6.toInt) → (x6.toInt ≤ 6) → ((gi σ 74 1).toInt = (gi σ0 74 1).toInt) → (CD σ0 σ 138 110 6) → ((gi σ 74 0).toInt ≤ 5) → (RWS σ0 σ) → (130 - x4.toInt).toNat * 20 + (7 - x6.toInt).toNat < n → PS M 99 [(0, .ref 74), (1, .int x1), (2, .int x2), (3, .int x3), (4, .int x4), (6, .int x6)] [] σ (0, 0)) := by
    intro n
    induction n with
    | zero => exact ⟨fun _ _ _ _ _ _ _ _ _ _ _ _ _ _ _ _ _ h8 => absurd h8 (Nat.not_lt_zero _), fun _ _ _ _ _ _ _ _ _ _ _ _ _ _ _ _ _ h8 => absurd h8 (Nat.not_lt_zero _), fun _ _ _ _ _ _ _ _ _ _ _ _ _ _ h8 => absurd h8 (Nat.not_lt_zero _), fun _ _ _ _ _ _ _ _ _ _ _ _ _ _ _ _ _ _ _ _ h8 => absurd h8 (Nat.not_lt_zero _)⟩
    | succ n ih =>
      obtain ⟨ih39, ih68, ih135, ih99⟩ := ih
      refine ⟨?_, ?_, ?_, ?_⟩
      · intro x1 x2 x3 σ mσ fσ lx1 ux1 lx2 ux2 lx3 ux3 i0 i1 i2 i3 iR hmu
        refine s_X12_order_39 C hN ?_
        refine ⟨?_, ?_⟩
        · intro q_1
          have b_2 : (6 : Int) ≤ x3.toInt := Int32.le_iff_toInt_le.mp q_1
          have z_3 : (-1 : Int32).toInt = -1 := rfl
          have z_4 : (0 : Int32).toInt = 0 := rfl
          exact ih68 x1 x2 (-1 : Int32) (0 : Int32) σ mσ fσ (by omega) (by omega) (by omega) (by omega) (by omega) (by omega) (by first | omega | assumption | rfl) (by first | assumption | exact CD_le i2 (by omega)) (by first | omega | assumption | rfl) (by first | exact iR4 | exact iR1 | exact iR | (rw [eσ4]; exact RWS_si iR (by decide)) | (rw [eσ5]; exact RWS_si iR (by decide)) | (rw [eσ7]; exact RWS_si iR (by decide))) (by omega)
        · intro q_1
          have b_5 : ¬ (6 : Int) ≤ x3.toInt := fun h9 => q_1 (Int32.le_iff_toInt_le.mpr h9)
          have hv_6 : vp_in x3 6 := vp_in_iff.mpr ⟨by omega, by omega⟩
          refine ⟨hv_6, ?_⟩
          refine ⟨hv_6, ?_⟩
          intro σ4 eσ4
          have t_7 := MI_a110 mσ hv_6
          have mσ4 : MI σ4 := by rw [eσ4]; exact MIs_a138 mσ (by omega) (by omega)
          have fσ4 : Fr [74, 105, 106, 107, 108, 110, 129, 131, 132, 134, 135, 136, 137, 138, 139] [1, 30, 33] σ0 σ4 := by rw [eσ4]; exact Fr_si fσ (by decide) (fun h9 => absurd h9 (by decide))
          have k_8 : (gi σ4 74 0).toInt = (gi σ 74 0).toInt := by rw [eσ4]; exact congrArg Int32.toInt (gi_si_ne (Or.inl (by decide)))
          have k_9 : (gi σ4 74 1).toInt = (gi σ 74 1).toInt := by rw [eσ4]; exact congrArg Int32.toInt (gi_si_ne (Or.inl (by decide)))
          intro v5 ev5
          have t_10 : (x3 + (1 : Int32)).toInt = x3.toInt + 1 := i_add (x := x3) (y := (1 : Int32)) (by show (_ : Int) ≤ x3.toInt + 1; omega) (by show x3.toInt + 1 ≤ (_ : Int); omega)
          have t_11 : v5.toInt = (x3 + (1 : Int32)).toInt := congrArg Int32.toInt ev5
          exact ih39 x1 x2 v5 σ4 mσ4 fσ4 (by omega) (by omega) (by omega) (by omega) (by omega) (by omega) (by first | omega | assumption | rfl) (by first | exact CD_rf | (rw [eσ4]; exact CD_st i1 (by decide))) (by first | exact CD_0 (Int.le_refl 0) | (rw [show v5.toInt = x3.toInt + 1 from by omega, eσ4]; exact CD_step i2 i1 (by omega) (by omega))) (by first | omega | assumption | rfl) (by first | exact iR4 | exact iR1 | exact iR | (rw [eσ4]; exact RWS_si iR (by decide)) | (rw [eσ5]; exact RWS_si iR (by decide)) | (rw [eσ7]; exact RWS_si iR (by decide))) (by omega)
      · intro x1 x2 x3 x4 σ mσ fσ lx1 ux1 lx2 ux2 lx4 ux4 i0 i1 i2 iR hmu
        refine s_X12_order_68 C hN ?_
        refine k_X12_layOrder mσ (by omega) (by omega) (by first | omega | assumption | rfl) (fun r2 σ1 mσ1 cσ1 plσ1 phσ1 (pσ1_0 : (r2.toInt = 1 ∧ x4.toInt ≤ 119) ∨ r2.toInt = 0) => ?_)
        have fσ1 : Fr [74, 105, 106, 107, 108, 110, 129, 131, 132, 134, 135, 136, 137, 138, 139] [1, 30, 33] σ0 σ1 := Fr_tr fσ cσ1 (by decide) (by decide)
        have iR1 : RWS σ0 σ1 := RWS_fr iR cσ1 (by decide)
        have k_12 : (gi σ1 74 0).toInt = (gi σ 74 0).toInt := congrArg Int32.toInt (cσ1.2.1 0 (by decide))
        have k_13 : (gi σ1 74 1).toInt = (gi σ 74 1).toInt := congrArg Int32.toInt (cσ1.2.1 1 (by decide))
        try have hC9 : CD σ0 σ1 138 110 (6) := CD_fr (by assumption) cσ1 (by decide)
        refine ⟨?_, ?_⟩
        · intro q_14
          have b_15 : r2.toInt = 0 := congrArg Int32.toInt q_14
          have z_16 : (0 : Int32).toInt = 0 := rfl
          exact ih135 x2 x3 (0 : Int32) σ1 mσ1 fσ1 (by omega) (by omega) (by omega) (by omega) (by first | omega | assumption | rfl) (by first | assumption | (rw [eσ7]; exact CD_st i1 (by decide))) (by first | exact CD_0 (Int.le_refl 0) | (rw [show v8.toInt = x4.toInt + 1 from by omega, eσ7]; exact CD_step i2 i1 (by omega) (by omega))) (by first | exact iR4 | exact iR1 | exact iR | (rw [eσ4]; exact RWS_si iR (by decide)) | (rw [eσ5]; exact RWS_si iR (by decide)) | (rw [eσ7]; exact RWS_si iR (by decide))) (by omega)
        · intro q_14
          have b_17 : ¬ r2.toInt = 0 := fun h9 => q_14 (Int32.toInt_inj.mp h9)
          refine kF_X12_fromTheStart mσ1 (by omega) (by omega) (by first | omega | assumption | rfl) (fun r5 σ4 mσ4 cσ4 (pσ4_0 : (gi σ4 74 1).toInt = (gi σ1 74 1).toInt) hσ4 => ?_)
          have fσ4 : Fr [74, 105, 106, 107, 108, 110, 129, 131, 132, 134, 135, 136, 137, 138, 139] [1, 30, 33] σ0 σ4 := Fr_tr fσ1 cσ4 (by decide) (by decide)
          have hZ := Rt_of (ftsZ (a := x1) mσ1 (MBx_fr hB fσ1 iR1) (by omega) (by omega)) hσ4
          have iR4 : RWS σ0 σ4 := RWS_tr iR1 hZ
          have k_18 : (gi σ4 74 0).toInt = (gi σ1 74 0).toInt := congrArg Int32.toInt (cσ4.2.1 0 (by decide))
          try have hC9 : CD σ0 σ4 138 110 (6) := CD_fr (by assumption) cσ4 (by decide)
          refine ⟨?_, ?_⟩
          · intro q_19
            have w_20 := Int32.toInt_lt x3
            have w_21 := Int32.le_toInt x3
            have w_22 := Int32.toInt_lt r5
            have w_23 := Int32.le_toInt r5
            have b_24 : x3.toInt < r5.toInt := Int32.lt_iff_toInt_lt.mp q_19
            have z_25 : (0 : Int32).toInt = 0 := rfl
            exact ih99 x1 x2 r5 x4 (0 : Int32) σ4 mσ4 fσ4 (by omega) (by omega) (by omega) (by omega) (by omega) (by omega) (by omega) (by omega) (by first | omega | assumption | rfl) (by first | assumption | (rw [eσ5]; exact CD_st i1 (by decide))) (by first | omega | assumption | rfl) (by first | exact iR4 | exact iR1 | exact iR | (rw [eσ4]; exact RWS_si iR (by decide)) | (rw [eσ5]; exact RWS_si iR (by decide)) | (rw [eσ7]; exact RWS_si iR (by decide))) (by omega)
          · intro q_19
            have w_26 := Int32.toInt_lt x3
            have w_27 := Int32.le_toInt x3
            have w_28 := Int32.toInt_lt r5
            have w_29 := Int32.le_toInt r5
            have b_30 : ¬ x3.toInt < r5.toInt := fun h9 => q_19 (Int32.lt_iff_toInt_lt.mpr h9)
            intro v7 ev7
            have t_31 : (x4 + (1 : Int32)).toInt = x4.toInt + 1 := i_add (x := x4) (y := (1 : Int32)) (by show (_ : Int) ≤ x4.toInt + 1; omega) (by show x4.toInt + 1 ≤ (_ : Int); omega)
            have t_32 : v7.toInt = (x4 + (1 : Int32)).toInt := congrArg Int32.toInt ev7
            exact ih68 x1 x2 x3 v7 σ4 mσ4 fσ4 (by omega) (by omega) (by omega) (by omega) (by omega) (by omega) (by first | omega | assumption | rfl) (by first | assumption | exact CD_le i2 (by omega)) (by first | omega | assumption | rfl) (by first | exact iR4 | exact iR1 | exact iR | (rw [eσ4]; exact RWS_si iR (by decide)) | (rw [eσ5]; exact RWS_si iR (by decide)) | (rw [eσ7]; exact RWS_si iR (by decide))) (by omega)
      · intro x2 x3 x4 σ mσ fσ lx2 ux2 lx4 ux4 i0 i1 i2 iR hmu
        refine s_X12_order_135 C hN ?_
        refine ⟨?_, ?_⟩
        · intro q_33
          have b_34 : (6 : Int) ≤ x4.toInt := Int32.le_iff_toInt_le.mp q_33
          refine ⟨?_, ?_⟩
          · intro q_35
            have b_36 : (0 : Int) ≤ x2.toInt := Int32.le_iff_toInt_le.mp q_35
            refine ⟨?_, ?_⟩
            · intro q_37
              have t_38 := MI_f0 mσ
              have b_39 : (gi σ 74 0).toInt ≤ x2.toInt := Int32.le_iff_toInt_le.mp q_37
              have z_40 : (-5 : Int32).toInt = -5 := rfl
              exact h9ret (-5 : Int32) σ mσ fσ (by first | omega | assumption | rfl) (by first | exact CD_rf | exact CD_le i2 (by omega)) (by first | exact iR | exact RWS_rf)
            · intro q_37
              have t_41 := MI_f0 mσ
              have b_42 : ¬ (gi σ 74 0).toInt ≤ x2.toInt := fun h9 => q_37 (Int32.le_iff_toInt_le.mpr h9)
              have hv_43 : vp_in x2 6 := vp_in_iff.mpr ⟨by omega, by omega⟩
              refine ⟨hv_43, ?_⟩
              have t_44 := MI_a139 mσ hv_43
              exact h9ret (gi σ 139 x2.toNatClampNeg) σ mσ fσ (by first | omega | assumption | rfl) (by first | exact CD_rf | exact CD_le i2 (by omega)) (by first | exact iR | exact RWS_rf)
          · intro q_35
            have b_45 : ¬ (0 : Int) ≤ x2.toInt := fun h9 => q_35 (Int32.le_iff_toInt_le.mpr h9)
            exact h9ret x3 σ mσ fσ (by first | omega | assumption | rfl) (by first | exact CD_rf | exact CD_le i2 (by omega)) (by first | exact iR | exact RWS_rf)
        · intro q_33
          have b_46 : ¬ (6 : Int) ≤ x4.toInt := fun h9 => q_33 (Int32.le_iff_toInt_le.mpr h9)
          have hv_47 : vp_in x4 6 := vp_in_iff.mpr ⟨by omega, by omega⟩
          refine ⟨hv_47, ?_⟩
          refine ⟨hv_47, ?_⟩
          intro σ7 eσ7
          have t_48 := MI_a138 mσ hv_47
          have mσ7 : MI σ7 := by rw [eσ7]; exact MIs_a110 mσ (by omega) (by omega)
          have fσ7 : Fr [74, 105, 106, 107, 108, 110, 129, 131, 132, 134, 135, 136, 137, 138, 139] [1, 30, 33] σ0 σ7 := by rw [eσ7]; exact Fr_si fσ (by decide) (fun h9 => absurd h9 (by decide))
          have k_49 : (gi σ7 74 0).toInt = (gi σ 74 0).toInt := by rw [eσ7]; exact congrArg Int32.toInt (gi_si_ne (Or.inl (by decide)))
          have k_50 : (gi σ7 74 1).toInt = (gi σ 74 1).toInt := by rw [eσ7]; exact congrArg Int32.toInt (gi_si_ne (Or.inl (by decide)))
          intro v8 ev8
          have t_51 : (x4 + (1 : Int32)).toInt = x4.toInt + 1 := i_add (x := x4) (y := (1 : Int32)) (by show (_ : Int) ≤ x4.toInt + 1; omega) (by show x4.toInt + 1 ≤ (_ : Int); omega)
          have t_52 : v8.toInt = (x4 + (1 : Int32)).toInt := congrArg Int32.toInt ev8
          exact ih135 x2 x3 v8 σ7 mσ7 fσ7 (by omega) (by omega) (by omega) (by omega) (by first | omega | assumption | rfl) (by first | assumption | (rw [eσ7]; exact CD_st i1 (by decide))) (by first | exact CD_0 (Int.le_refl 0) | (rw [show v8.toInt = x4.toInt + 1 from by omega, eσ7]; exact CD_step i2 i1 (by omega) (by omega))) (by first | exact iR4 | exact iR1 | exact iR | (rw [eσ4]; exact RWS_si iR (by decide)) | (rw [eσ5]; exact RWS_si iR (by decide)) | (rw [eσ7]; exact RWS_si iR (by decide))) (by omega)
      · intro x1 x2 x3 x4 x6 σ mσ fσ lx1 ux1 lx2 ux2 lx4 ux4 lx6 ux6 i0 i1 i2 iR hmu
        refine s_X12_order_99 C hN ?_
        refine ⟨?_, ?_⟩
        · intro q_53
          have b_54 : (6 : Int) ≤ x6.toInt := Int32.le_iff_toInt_le.mp q_53
          intro v2 ev2
          have t_55 : (x4 + (1 : Int32)).toInt = x4.toInt + 1 := i_add (x := x4) (y := (1 : Int32)) (by show (_ : Int) ≤ x4.toInt + 1; omega) (by show x4.toInt + 1 ≤ (_ : Int); omega)
          have t_56 : v2.toInt = (x4 + (1 : Int32)).toInt := congrArg Int32.toInt ev2
          exact ih68 x1 x2 x3 v2 σ mσ fσ (by omega) (by omega) (by omega) (by omega) (by omega) (by omega) (by first | omega | assumption | rfl) (by first | assumption | exact CD_le i2 (by omega)) (by first | omega | assumption | rfl) (by first | exact iR4 | exact iR1 | exact iR | (rw [eσ4]; exact RWS_si iR (by decide)) | (rw [eσ5]; exact RWS_si iR (by decide)) | (rw [eσ7]; exact RWS_si iR (by decide))) (by omega)
        · intro q_53
          have b_57 : ¬ (6 : Int) ≤ x6.toInt := fun h9 => q_53 (Int32.le_iff_toInt_le.mpr h9)
          have hv_58 : vp_in x6 6 := vp_in_iff.mpr ⟨by omega, by omega⟩
          refine ⟨hv_58, ?_⟩
          refine ⟨hv_58, ?_⟩
          intro σ5 eσ5
          have t_59 := MI_a110 mσ hv_58
          have mσ5 : MI σ5 := by rw [eσ5]; exact MIs_a139 mσ (by omega) (by omega)
          have fσ5 : Fr [74, 105, 106, 107, 108, 110, 129, 131, 132, 134, 135, 136, 137, 138, 139] [1, 30, 33] σ0 σ5 := by rw [eσ5]; exact Fr_si fσ (by decide) (fun h9 => absurd h9 (by decide))
          have k_60 : (gi σ5 74 0).toInt = (gi σ 74 0).toInt := by rw [eσ5]; exact congrArg Int32.toInt (gi_si_ne (Or.inl (by decide)))
          have k_61 : (gi σ5 74 1).toInt = (gi σ 74 1).toInt := by rw [eσ5]; exact congrArg Int32.toInt (gi_si_ne (Or.inl (by decide)))
          intro v6 ev6
          have t_62 : (x6 + (1 : Int32)).toInt = x6.toInt + 1 := i_add (x := x6) (y := (1 : Int32)) (by show (_ : Int) ≤ x6.toInt + 1; omega) (by show x6.toInt + 1 ≤ (_ : Int); omega)
          have t_63 : v6.toInt = (x6 + (1 : Int32)).toInt := congrArg Int32.toInt ev6
          exact ih99 x1 x2 x3 x4 v6 σ5 mσ5 fσ5 (by omega) (by omega) (by omega) (by omega) (by omega) (by omega) (by omega) (by omega) (by first | omega | assumption | rfl) (by first | assumption | (rw [eσ5]; exact CD_st i1 (by decide))) (by first | omega | assumption | rfl) (by first | exact iR4 | exact iR1 | exact iR | (rw [eσ4]; exact RWS_si iR (by decide)) | (rw [eσ5]; exact RWS_si iR (by decide)) | (rw [eσ7]; exact RWS_si iR (by decide))) (by omega)
  obtain ⟨U39, U68, U135, U99⟩ := T 9000
  have f0 : Fr [74, 105, 106, 107, 108, 110, 129, 131, 132, 134, 135, 136, 137, 138, 139] [1, 30, 33] σ0 σ0 := Fr_rf
  have mw := MI_f0 m0
  refine s_X12_order_0 C hN ?_
  refine k_X12_in m0  (fun r2 σ1 mσ1 cσ1 plσ1 phσ1 (pσ1_0 : (r2.toInt = 1 ∧ ((-1) : Int) ≤ a2.toInt ∧ a2.toInt ≤ (4 : Int)) ∨ (r2.toInt = 0 ∧ (a2.toInt < ((-1) : Int) ∨ (4 : Int) < a2.toInt))) => ?_)
  obtain rfl := Fr_nil cσ1
  refine ⟨?_, ?_⟩
  · intro q_64
    have b_65 : ¬ r2.toInt = 0 := fun h9 => q_64 (Int32.toInt_inj.mp h9)
    refine k_X12_in m0  (fun r5 σ4 mσ4 cσ4 plσ4 phσ4 (pσ4_0 : (r5.toInt = 1 ∧ (1 : Int) ≤ a1.toInt ∧ a1.toInt ≤ (12 : Int)) ∨ (r5.toInt = 0 ∧ (a1.toInt < (1 : Int) ∨ (12 : Int) < a1.toInt))) => ?_)
    obtain rfl := Fr_nil cσ4
    refine ⟨?_, ?_⟩
    · intro q_66
      have b_67 : ¬ r5.toInt = 0 := fun h9 => q_66 (Int32.toInt_inj.mp h9)
      refine ⟨?_, ?_⟩
      · intro q_68
        have t_69 := MI_f0 m0
        have b_70 : (gi σ0 74 0).toInt ≤ 5 := Int32.le_iff_toInt_le.mp q_68
        have z_71 : (0 : Int32).toInt = 0 := rfl
        exact U39 a1 a2 (0 : Int32) σ0 m0 f0 (by omega) (by omega) (by omega) (by omega) (by omega) (by omega) (by first | omega | assumption | rfl) (by first | exact CD_rf | (rw [eσ4]; exact CD_st i1 (by decide))) (by first | exact CD_0 (Int.le_refl 0) | (rw [show v5.toInt = x3.toInt + 1 from by omega, eσ4]; exact CD_step i2 i1 (by omega) (by omega))) (by first | omega | assumption | rfl) RWS_rf (by omega)
      · intro q_68
        have t_72 := MI_f0 m0
        have b_73 : ¬ (gi σ0 74 0).toInt ≤ 5 := fun h9 => q_68 (Int32.le_iff_toInt_le.mpr h9)
        have z_74 : (-9 : Int32).toInt = -9 := rfl
        exact h9ret (-9 : Int32) σ0 m0 f0 (by first | omega | assumption | rfl) (by first | exact CD_rf | exact CD_le i2 (by omega)) (by first | exact iR | exact RWS_rf)
    · intro q_66
      have b_75 : r5.toInt = 0 := congrArg Int32.toInt q_66
      have z_76 : (-2 : Int32).toInt = -2 := rfl
      exact h9ret (-2 : Int32) σ0 m0 f0 (by first | omega | assumption | rfl) (by first | exact CD_rf | exact CD_le i2 (by omega)) (by first | exact iR | exact RWS_rf)
  · intro q_64
    have b_77 : r2.toInt = 0 := congrArg Int32.toInt q_64
    have z_78 : (-1 : Int32).toInt = -1 := rfl
    exact h9ret (-1 : Int32) σ0 m0 f0 (by first | omega | assumption | rfl) (by first | exact CD_rf | exact CD_le i2 (by omega)) (by first | exact iR | exact RWS_rf)
