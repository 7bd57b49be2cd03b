set_option maxRecDepth 100000 in
set_option maxHeartbeats 4000000 in
theorem k_X12_divisor {l : Launch} {V : Vx} {a1 : Int32} {a2 : Int32} {σ0 : Sg} {Qk : Int32 → Sg → Prop} (m0 : MI σ0) (l_a1 : 0 ≤ a1.toInt) (u_a1 : a1.toInt ≤ 2000000000) (l_a2 : 1 ≤ a2.toInt) (u_a2 : a2.toInt ≤ 6) (h9ret : ∀ (r : Int32) (σ' : Sg), MI σ' → Fr [] [] σ0 σ' → (1 ≤ r.toInt) → (r.toInt ≤ 2000000000) → Qk r σ') : K_X12_divisor l V a1 a2 σ0 Qk := by
  refine e_X12_divisor (fun M hl hV hN C => ?_)
  subst hl
  subst hV
  have T : ∀ n : Nat, (∀ (x3 : Int32) (x4 : Int32) (σ : Sg), MI σ → Fr [] [] σ0 σ → (0 ≤ x3.toInt) → (x3.toInt ≤ 2000000000) → (0 ≤ x4.toInt) → (x4.toInt ≤ 6) → (1 ≤ x3.toInt ∨ 1 ≤ x4.toInt) → x4.toInt.toNat < n → PS M 5 [(3, .int x3), (4, .int x4)] [] σ (0, 0)) := by
    intro n
    induction n with
    | zero => exact fun _ _ _ _ _ _ _ _ _ _ h8 => absurd h8 (Nat.not_lt_zero _)
    | succ n ih =>
      have ih5 := ih
      · intro x3 x4 σ mσ fσ lx3 ux3 lx4 ux4 i0 hmu
        refine s_X12_divisor_5 C hN ?_
        refine ⟨?_, ?_⟩
        · intro q_1
          have b_2 : x4.toInt = 0 := congrArg Int32.toInt q_1
          exact h9ret x3 σ mσ fσ (by omega) (by omega)
        · intro q_1
          have b_3 : ¬ x4.toInt = 0 := fun h9 => q_1 (Int32.toInt_inj.mp h9)
          refine ⟨fun h9 => ?_, ?_⟩
          · have h9 : x4.toInt = 0 := congrArg Int32.toInt h9
            omega
          intro v3 ev3
          have u3 : v3.toInt = x3.toInt % x4.toInt := by rw [ev3]; exact i_rem (by omega) (by omega) rfl
          have u4 := Int.emod_nonneg x3.toInt (show x4.toInt ≠ 0 by omega)
          have u5 := Int.emod_lt_of_pos x3.toInt (show 0 < x4.toInt by omega)
          exact ih5 x4 v3 σ mσ fσ (by omega) (by omega) (by omega) (by omega) (by first | omega | assumption | rfl) (by omega)
  have U5 := T 20
  have f0 : Fr [] [] σ0 σ0 := Fr_rf
  refine s_X12_divisor_0 C hN ?_
  exact U5 a1 a2 σ0 m0 f0 (by omega) (by omega) (by omega) (by omega) (by first | omega | assumption | rfl) (by omega)
set_option maxRecDepth 100000 in
set_option maxHeartbeats 4000000 in
theorem k_X12_lowest {l : Launch} {V : Vx} {a1 : Int32} {a2 : Int32} {a3 : Int32} {σ0 : Sg} {Qk : Int64 → Sg → Prop} (m0 : MI σ0) (l_a1 : 0 ≤ a1.toInt) (u_a1 : a1.toInt ≤ 60000) (l_a2 : 1 ≤ a2.toInt) (u_a2 : a2.toInt ≤ 6) (h9ret : ∀ (r : Int64) (σ' : Sg), MI σ' → Fr [] [] σ0 σ' → Qk r σ') : K_X12_lowest l V a1 a2 a3 σ0 Qk := by
  refine e_X12_lowest (fun M hl hV hN C => ?_)
  subst hl
  subst hV
  have f0 : Fr [] [] σ0 σ0 := Fr_rf
  refine s_X12_lowest_0 C hN ?_
  refine k_X12_divisor m0 (by omega) (by omega) (by omega) (by omega) (fun r2 σ1 mσ1 cσ1 plσ1 phσ1 => ?_)
  obtain rfl := Fr_nil cσ1
  refine ⟨?_, ?_⟩
  · intro q_1
    have w_2 := Int32.toInt_lt a3
    have w_3 := Int32.le_toInt a3
    have b_4 : ¬ a3.toInt = 0 := fun h9 => q_1 (Int32.toInt_inj.mp h9)
    refine ⟨fun h9 => ?_, ?_⟩
    · have h9 : r2.toInt = 0 := congrArg Int32.toInt h9
      omega
    exact h9ret ((a2 / r2).toInt64) σ0 m0 f0
  · intro q_1
    have w_5 := Int32.toInt_lt a3
    have w_6 := Int32.le_toInt a3
    have b_7 : a3.toInt = 0 := congrArg Int32.toInt q_1
    refine ⟨fun h9 => ?_, ?_⟩
    · have h9 : r2.toInt = 0 := congrArg Int32.toInt h9
      omega
    exact h9ret ((a1 / r2).toInt64) σ0 m0 f0
set_option maxRecDepth 100000 in
set_option maxHeartbeats 4000000 in
theorem k_X12_odds {l : Launch} {V : Vx} {a1 : Int32} {a2 : Int32} {a3 : Int32} {σ0 : Sg} {Qk : Int64 → Sg → Prop} (m0 : MI σ0) (pre0 : (gi σ0 74 1).toInt ≤ 9999) (h9ret : ∀ (r : Int64) (σ' : Sg), MI σ' → Fr [74, 105, 106, 107, 108, 129, 131, 132, 134, 135, 136, 137] [1, 30, 33] σ0 σ' → ((gi σ' 74 1).toInt = (gi σ0 74 1).toInt) → Qk r σ') : K_X12_odds l V a1 a2 a3 σ0 Qk := by
  refine e_X12_odds (fun M hl hV hN C => ?_)
  subst hl
  subst hV
  have T : ∀ n : Nat, (∀ (x1 : Int32) (x2 : Int32) (x3 : Int32) (x4 : Int32) (x5 : Int32) (σ : Sg), MI σ → Fr [74, 105, 106, 107, 108, 129, 131, 132, 134, 135, 136, 137] [1, 30, 33] σ0 σ → (0 ≤ x1.toInt) → (x1.toInt ≤ 5) → (1 ≤ x2.toInt) → (x2.toInt ≤ 60) → (0 ≤ x4.toInt) → (x4.toInt ≤ 6) → (0 ≤ x5.toInt) → (x5.toInt ≤ 6) → ((gi σ 74 1).toInt = (gi σ0 74 1).toInt) → ((gi σ 74 0).toInt = (gi σ0 74 0).toInt) → (x1.toInt < (gi σ 74 0).toInt) → (x4.toInt ≤ x5.toInt) → (7 - x5.toInt).toNat < n → PS M 39 [(0, .ref 74), (1, .int x1), (2, .int x2), (3, .int x3), (4, .int x4), (5, .int x5)] [] σ (0, 0)) := by
    intro n
    induction n with
    | zero => exact fun _ _ _ _ _ _ _ _ _ _ _ _ _ _ _ _ _ _ _ _ h8 => absurd h8 (Nat.not_lt_zero _)
    | succ n ih =>
      have ih39 := ih
      · intro x1 x2 x3 x4 x5 σ mσ fσ lx1 ux1 lx2 ux2 lx4 ux4 lx5 ux5 i0 i1 i2 i3 hmu
        refine s_X12_odds_39 C hN ?_
        refine ⟨?_, ?_⟩
        · intro q_1
          have t_2 := MI_f0 mσ
          have b_3 : (gi σ 74 0).toInt ≤ x5.toInt := Int32.le_iff_toInt_le.mp q_1
          refine k_X12_lowest mσ (by omega) (by omega) (by omega) (by omega) (fun r3 σ2 mσ2 cσ2 => ?_)
          obtain rfl := Fr_nil cσ2
          exact h9ret r3 σ mσ fσ (by first | omega | assumption | rfl)
        · intro q_1
          have t_4 := MI_f0 mσ
          have b_5 : ¬ (gi σ 74 0).toInt ≤ x5.toInt := fun h9 => q_1 (Int32.le_iff_toInt_le.mpr h9)
          refine k_X12_save mσ  (fun σ4 mσ4 cσ4 (pσ4_0 : (gi σ4 74 33).toInt = (gi σ 74 1).toInt) => ?_)
          have fσ4 : Fr [74, 105, 106, 107, 108, 129, 131, 132, 134, 135, 136, 137] [1, 30, 33] σ0 σ4 := Fr_tr fσ cσ4 (by decide) (by decide)
          have k_6 : (gi σ4 74 0).toInt = (gi σ 74 0).toInt := congrArg Int32.toInt (cσ4.2.1 0 (by decide))
          have k_7 : (gi σ4 74 1).toInt = (gi σ 74 1).toInt := congrArg Int32.toInt (cσ4.2.1 1 (by decide))
          have hv_8 : vp_in x5 6 := vp_in_iff.mpr ⟨by omega, by omega⟩
          refine ⟨hv_8, ?_⟩
          refine ⟨hv_8, ?_⟩
          intro σ7 eσ7
          have mσ7 : MI σ7 := by rw [eσ7]; exact MIs_au (a := 108) mσ4 rfl rfl
          have fσ7 : Fr [74, 105, 106, 107, 108, 129, 131, 132, 134, 135, 136, 137] [1, 30, 33] σ0 σ7 := by rw [eσ7]; exact Fr_si fσ4 (by decide) (fun h9 => absurd h9 (by decide))
          have k_9 : (gi σ7 74 0).toInt = (gi σ4 74 0).toInt := by rw [eσ7]; exact congrArg Int32.toInt (gi_si_ne (Or.inl (by decide)))
          have k_10 : (gi σ7 74 1).toInt = (gi σ4 74 1).toInt := by rw [eσ7]; exact congrArg Int32.toInt (gi_si_ne (Or.inl (by decide)))
          have k_11 : (gi σ7 74 33).toInt = (gi σ4 74 33).toInt := by rw [eσ7]; exact congrArg Int32.toInt (gi_si_ne (Or.inl (by decide)))
          refine k_X12_goMinutes mσ7 (by omega) (by omega) (by first | omega | assumption | rfl) (fun σ8 mσ8 cσ8 (pσ8_0 : (x2.toInt ≤ 0 ∧ (gi σ8 74 1).toInt = (gi σ7 74 1).toInt) ∨ (0 ≤ x2.toInt ∧ (gi σ8 74 1).toInt = (gi σ7 74 1).toInt + x2.toInt)) => ?_)
          have fσ8 : Fr [74, 105, 106, 107, 108, 129, 131, 132, 134, 135, 136, 137] [1, 30, 33] σ0 σ8 := Fr_tr fσ7 cσ8 (by decide) (by decide)
          have k_12 : (gi σ8 74 0).toInt = (gi σ7 74 0).toInt := congrArg Int32.toInt (cσ8.2.1 0 (by decide))
          have k_13 : (gi σ8 74 33).toInt = (gi σ7 74 33).toInt := congrArg Int32.toInt (cσ8.2.1 33 (by decide))
          have hv_14 : vp_in x1 6 := vp_in_iff.mpr ⟨by omega, by omega⟩
          refine ⟨hv_14, ?_⟩
          refine ⟨?_, ?_⟩
          · intro q_15
            have b_16 : (gi σ8 132 x1.toNatClampNeg).toInt ≤ 0 := Int32.le_iff_toInt_le.mp q_15
            intro v11 ev11
            have t_17 : (x4 + (0 : Int32)).toInt = x4.toInt + 0 := i_add (x := x4) (y := (0 : Int32)) (by show (_ : Int) ≤ x4.toInt + 0; omega) (by show x4.toInt + 0 ≤ (_ : Int); omega)
            have t_18 : v11.toInt = (x4 + (0 : Int32)).toInt := congrArg Int32.toInt ev11
            refine k_X12_putBack mσ8  (fun σ12 mσ12 cσ12 (pσ12_0 : (gi σ12 74 1).toInt = (gi σ8 74 33).toInt) => ?_)
            have fσ12 : Fr [74, 105, 106, 107, 108, 129, 131, 132, 134, 135, 136, 137] [1, 30, 33] σ0 σ12 := Fr_tr fσ8 cσ12 (by decide) (by decide)
            have k_19 : (gi σ12 74 0).toInt = (gi σ8 74 0).toInt := congrArg Int32.toInt (cσ12.2.1 0 (by decide))
            have k_20 : (gi σ12 74 33).toInt = (gi σ8 74 33).toInt := congrArg Int32.toInt (cσ12.2.1 33 (by decide))
            intro v13 ev13
            have t_21 : (x5 + (1 : Int32)).toInt = x5.toInt + 1 := i_add (x := x5) (y := (1 : Int32)) (by show (_ : Int) ≤ x5.toInt + 1; omega) (by show x5.toInt + 1 ≤ (_ : Int); omega)
            have t_22 : v13.toInt = (x5 + (1 : Int32)).toInt := congrArg Int32.toInt ev13
            exact ih39 x1 x2 x3 v11 v13 σ12 mσ12 fσ12 (by omega) (by omega) (by omega) (by omega) (by omega) (by omega) (by omega) (by omega) (by first | omega | assumption | rfl) (by first | omega | assumption | rfl) (by first | omega | assumption | rfl) (by first | omega | assumption | rfl) (by omega)
          · intro q_15
            have b_23 : ¬ (gi σ8 132 x1.toNatClampNeg).toInt ≤ 0 := fun h9 => q_15 (Int32.le_iff_toInt_le.mpr h9)
            intro v14 ev14
            have t_24 : (x4 + (1 : Int32)).toInt = x4.toInt + 1 := i_add (x := x4) (y := (1 : Int32)) (by show (_ : Int) ≤ x4.toInt + 1; omega) (by show x4.toInt + 1 ≤ (_ : Int); omega)
            have t_25 : v14.toInt = (x4 + (1 : Int32)).toInt := congrArg Int32.toInt ev14
            refine k_X12_putBack mσ8  (fun σ15 mσ15 cσ15 (pσ15_0 : (gi σ15 74 1).toInt = (gi σ8 74 33).toInt) => ?_)
            have fσ15 : Fr [74, 105, 106, 107, 108, 129, 131, 132, 134, 135, 136, 137] [1, 30, 33] σ0 σ15 := Fr_tr fσ8 cσ15 (by decide) (by decide)
            have k_26 : (gi σ15 74 0).toInt = (gi σ8 74 0).toInt := congrArg Int32.toInt (cσ15.2.1 0 (by decide))
            have k_27 : (gi σ15 74 33).toInt = (gi σ8 74 33).toInt := congrArg Int32.toInt (cσ15.2.1 33 (by decide))
            intro v16 ev16
            have t_28 : (x5 + (1 : Int32)).toInt = x5.toInt + 1 := i_add (x := x5) (y := (1 : Int32)) (by show (_ : Int) ≤ x5.toInt + 1; omega) (by show x5.toInt + 1 ≤ (_ : Int); omega)
            have t_29 : v16.toInt = (x5 + (1 : Int32)).toInt := congrArg Int32.toInt ev16
            exact ih39 x1 x2 x3 v14 v16 σ15 mσ15 fσ15 (by omega) (by omega) (by omega) (by omega) (by omega) (by omega) (by omega) (by omega) (by first | omega | assumption | rfl) (by first | omega | assumption | rfl) (by first | omega | assumption | rfl) (by first | omega | assumption | rfl) (by omega)
  have U39 := T 20
  have f0 : Fr [74, 105, 106, 107, 108, 129, 131, 132, 134, 135, 136, 137] [1, 30, 33] σ0 σ0 := Fr_rf
  have mw := MI_f0 m0
  refine s_X12_odds_0 C hN ?_
  refine k_X12_isMower m0  (fun r2 σ1 mσ1 cσ1 plσ1 phσ1 (pσ1_0 : (r2.toInt = 1 ∧ 0 ≤ a1.toInt ∧ a1.toInt < (gi σ0 74 0).toInt) ∨ (r2.toInt = 0 ∧ (a1.toInt < 0 ∨ (gi σ0 74 0).toInt ≤ a1.toInt))) => ?_)
  obtain rfl := Fr_nil cσ1
  have t_30 := MI_f0 m0
  refine ⟨?_, ?_⟩
  · intro q_31
    have b_32 : r2.toInt = 0 := congrArg Int32.toInt q_31
    exact h9ret (-9223372036854775808 : Int64) σ0 m0 f0 (by first | omega | assumption | rfl)
  · intro q_31
    have b_33 : ¬ r2.toInt = 0 := fun h9 => q_31 (Int32.toInt_inj.mp h9)
    refine k_X12_in m0  (fun r5 σ4 mσ4 cσ4 plσ4 phσ4 (pσ4_0 : (r5.toInt = 1 ∧ (1 : Int) ≤ a2.toInt ∧ a2.toInt ≤ (60 : Int)) ∨ (r5.toInt = 0 ∧ (a2.toInt < (1 : Int) ∨ (60 : Int) < a2.toInt))) => ?_)
    obtain rfl := Fr_nil cσ4
    refine ⟨?_, ?_⟩
    · intro q_34
      have b_35 : r5.toInt = 0 := congrArg Int32.toInt q_34
      exact h9ret (-9223372036854775808 : Int64) σ0 m0 f0 (by first | omega | assumption | rfl)
    · intro q_34
      have b_36 : ¬ r5.toInt = 0 := fun h9 => q_34 (Int32.toInt_inj.mp h9)
      refine k_X12_in m0  (fun r8 σ7 mσ7 cσ7 plσ7 phσ7 (pσ7_0 : (r8.toInt = 1 ∧ (0 : Int) ≤ a3.toInt ∧ a3.toInt ≤ (1 : Int)) ∨ (r8.toInt = 0 ∧ (a3.toInt < (0 : Int) ∨ (1 : Int) < a3.toInt))) => ?_)
      obtain rfl := Fr_nil cσ7
      refine ⟨?_, ?_⟩
      · intro q_37
        have b_38 : ¬ r8.toInt = 0 := fun h9 => q_37 (Int32.toInt_inj.mp h9)
        have z_39 : (0 : Int32).toInt = 0 := rfl
        exact U39 a1 a2 a3 (0 : Int32) (0 : Int32) σ0 m0 f0 (by omega) (by omega) (by omega) (by omega) (by omega) (by omega) (by omega) (by omega) (by first | omega | assumption | rfl) (by first | omega | assumption | rfl) (by first | omega | assumption | rfl) (by first | omega | assumption | rfl) (by omega)
      · intro q_37
        have b_40 : r8.toInt = 0 := congrArg Int32.toInt q_37
        exact h9ret (-9223372036854775808 : Int64) σ0 m0 f0 (by first | omega | assumption | rfl)
set_option maxRecDepth 100000 in
set_option maxHeartbeats 4000000 in
theorem k_X12_mean {l : Launch} {V : Vx} {a1 : Int32} {a2 : Int32} {σ0 : Sg} {Qk : Int64 → Sg → Prop} (m0 : MI σ0) (pre0 : (gi σ0 74 1).toInt ≤ 9999) (h9ret : ∀ (r : Int64) (σ' : Sg), MI σ' → Fr [74, 105, 106, 107, 108, 129, 131, 132, 134, 135, 136, 137] [1, 30, 33] σ0 σ' → ((gi σ' 74 1).toInt = (gi σ0 74 1).toInt) → Qk r σ') : K_X12_mean l V a1 a2 σ0 Qk := by
  refine e_X12_mean (fun M hl hV hN C => ?_)
  subst hl
  subst hV
  have f0 : Fr [74, 105, 106, 107, 108, 129, 131, 132, 134, 135, 136, 137] [1, 30, 33] σ0 σ0 := Fr_rf
  refine s_X12_mean_0 C hN ?_
  refine k_X12_in m0  (fun r2 σ1 mσ1 cσ1 plσ1 phσ1 (pσ1_0 : (r2.toInt = 1 ∧ (1 : Int) ≤ a1.toInt ∧ a1.toInt ≤ (60 : Int)) ∨ (r2.toInt = 0 ∧ (a1.toInt < (1 : Int) ∨ (60 : Int) < a1.toInt))) => ?_)
  obtain rfl := Fr_nil cσ1
  refine ⟨?_, ?_⟩
  · intro q_1
    have b_2 : r2.toInt = 0 := congrArg Int32.toInt q_1
    exact h9ret (-9223372036854775808 : Int64) σ0 m0 f0 (by first | omega | assumption | rfl)
  · intro q_1
    have b_3 : ¬ r2.toInt = 0 := fun h9 => q_1 (Int32.toInt_inj.mp h9)
    refine k_X12_in m0  (fun r5 σ4 mσ4 cσ4 plσ4 phσ4 (pσ4_0 : (r5.toInt = 1 ∧ (0 : Int) ≤ a2.toInt ∧ a2.toInt ≤ (1 : Int)) ∨ (r5.toInt = 0 ∧ (a2.toInt < (0 : Int) ∨ (1 : Int) < a2.toInt))) => ?_)
    obtain rfl := Fr_nil cσ4
    refine ⟨?_, ?_⟩
    · intro q_4
      have b_5 : r5.toInt = 0 := congrArg Int32.toInt q_4
      exact h9ret (-9223372036854775808 : Int64) σ0 m0 f0 (by first | omega | assumption | rfl)
    · intro q_4
      have b_6 : ¬ r5.toInt = 0 := fun h9 => q_4 (Int32.toInt_inj.mp h9)
      refine ⟨?_, ?_⟩
      · intro q_7
        have t_8 := MI_f0 m0
        have b_9 : ¬ (gi σ0 74 0).toInt = 0 := fun h9 => q_7 (Int32.toInt_inj.mp h9)
        refine k_X12_allBehind m0 (by omega) (by omega) (by first | omega | assumption | rfl) (fun r9 σ8 mσ8 cσ8 plσ8 phσ8 (pσ8_0 : (gi σ8 74 1).toInt = (gi σ0 74 1).toInt) => ?_)
        have fσ8 : Fr [74, 105, 106, 107, 108, 129, 131, 132, 134, 135, 136, 137] [1, 30, 33] σ0 σ8 := Fr_tr f0 cσ8 (by decide) (by decide)
        have k_10 : (gi σ8 74 0).toInt = (gi σ0 74 0).toInt := congrArg Int32.toInt (cσ8.2.1 0 (by decide))
        have t_11 := MI_f0 mσ8
        refine k_X12_lowest mσ8 (by omega) (by omega) (by omega) (by omega) (fun r11 σ10 mσ10 cσ10 => ?_)
        obtain rfl := Fr_nil cσ10
        exact h9ret r11 σ8 mσ8 fσ8 (by first | omega | assumption | rfl)
      · intro q_7
        have t_12 := MI_f0 m0
        have b_13 : (gi σ0 74 0).toInt = 0 := congrArg Int32.toInt q_7
        exact h9ret (-9223372036854775808 : Int64) σ0 m0 f0 (by first | omega | assumption | rfl)
set_option maxRecDepth 100000 in
set_option maxHeartbeats 4000000 in
theorem k_X12_mower {l : Launch} {V : Vx} {a1 : Int32} {a2 : Int32} {σ0 : Sg} {Qk : Int32 → Sg → Prop} (m0 : MI σ0) (h9ret : ∀ (r : Int32) (σ' : Sg), MI σ' → Fr [74, 103, 104, 105, 106, 107, 108, 109, 110] [0, 2] σ0 σ' → (((gi σ' 74 0).toInt = (gi σ0 74 0).toInt ∨ (gi σ' 74 0).toInt = (gi σ0 74 0).toInt + 1)) → Qk r σ') : K_X12_mower l V a1 a2 σ0 Qk := by
  refine e_X12_mower (fun M hl hV hN C => ?_)
  subst hl
  subst hV
  have T : ∀ n : Nat, (∀ (x3 : Int32) (σ : Sg), MI σ → Fr [74, 103, 104, 105, 106, 107, 108, 109, 110] [0, 2] σ0 σ → (0 ≤ x3.toInt) → (x3.toInt ≤ 4) → ((gi σ 74 0).toInt = (gi σ0 74 0).toInt) → ((gi σ0 74 0).toInt ≤ 5) → (5 - x3.toInt).toNat < n → PS M 115 [(0, .ref 74), (3, .int x3)] [] σ (0, 0)) := by
    intro n
    induction n with
    | zero => exact fun _ _ _ _ _ _ _ _ h8 => absurd h8 (Nat.not_lt_zero _)
    | succ n ih =>
      have ih115 := ih
      · intro x3 σ mσ fσ lx3 ux3 i0 i1 hmu
        refine s_X12_mower_115 C hN ?_
        refine ⟨?_, ?_⟩
        · intro q_1
          have b_2 : (4 : Int) ≤ x3.toInt := Int32.le_iff_toInt_le.mp q_1
          intro σ2 eσ2
          have t_3 := MI_f0 mσ
          have t_4 : ((gi σ 74 0) + (1 : Int32)).toInt = (gi σ 74 0).toInt + 1 := i_add (x := (gi σ 74 0)) (y := (1 : Int32)) (by show (_ : Int) ≤ (gi σ 74 0).toInt + 1; omega) (by show (gi σ 74 0).toInt + 1 ≤ (_ : Int); omega)
          have mσ2 : MI σ2 := by rw [eσ2]; exact MIs_f0 mσ (by omega) (by omega)
          have fσ2 : Fr [74, 103, 104, 105, 106, 107, 108, 109, 110] [0, 2] σ0 σ2 := by rw [eσ2]; exact Fr_si fσ (by decide) (fun _ => by decide)
          have k_5 : (gi σ2 74 0).toInt = ((gi σ 74 0) + (1 : Int32)).toInt := by rw [eσ2]; exact congrArg Int32.toInt gi_si_eq
          intro σ3 eσ3
          have t_6 := MI_f0 mσ2
          have mσ3 : MI σ3 := by rw [eσ3]; exact MIs_f2 mσ2 (by omega) (by omega)
          have fσ3 : Fr [74, 103, 104, 105, 106, 107, 108, 109, 110] [0, 2] σ0 σ3 := by rw [eσ3]; exact Fr_si fσ2 (by decide) (fun _ => by decide)
          have k_7 : (gi σ3 74 0).toInt = (gi σ2 74 0).toInt := by rw [eσ3]; exact congrArg Int32.toInt (gi_si_ne (Or.inr (by decide)))
          have t_8 := MI_f0 mσ3
          have t_9 : ((gi σ3 74 0) - (1 : Int32)).toInt = (gi σ3 74 0).toInt - 1 := i_sub (x := (gi σ3 74 0)) (y := (1 : Int32)) (by show (_ : Int) ≤ (gi σ3 74 0).toInt - 1; omega) (by show (gi σ3 74 0).toInt - 1 ≤ (_ : Int); omega)
          exact h9ret ((gi σ3 74 0) - (1 : Int32)) σ3 mσ3 fσ3 (by first | omega | assumption | rfl)
        · intro q_1
          have b_10 : ¬ (4 : Int) ≤ x3.toInt := fun h9 => q_1 (Int32.le_iff_toInt_le.mpr h9)
          have t_11 := MI_f0 mσ
          have t_12 : ((4 : Int32) * (gi σ 74 0)).toInt = 4 * (gi σ 74 0).toInt := i_mull rfl (by omega) (by omega)
          have t_13 : (((4 : Int32) * (gi σ 74 0)) + x3).toInt = ((4 : Int32) * (gi σ 74 0)).toInt + x3.toInt := i_add (x := ((4 : Int32) * (gi σ 74 0))) (y := x3) (by show (_ : Int) ≤ ((4 : Int32) * (gi σ 74 0)).toInt + x3.toInt; omega) (by show ((4 : Int32) * (gi σ 74 0)).toInt + x3.toInt ≤ (_ : Int); omega)
          have hv_14 : vp_in (((4 : Int32) * (gi σ 74 0)) + x3) 24 := vp_in_iff.mpr ⟨by omega, by omega⟩
          refine ⟨hv_14, ?_⟩
          intro σ5 eσ5
          have mσ5 : MI σ5 := by rw [eσ5]; exact MIs_au (a := 109) mσ rfl rfl
          have fσ5 : Fr [74, 103, 104, 105, 106, 107, 108, 109, 110] [0, 2] σ0 σ5 := by rw [eσ5]; exact Fr_si fσ (by decide) (fun h9 => absurd h9 (by decide))
          have k_15 : (gi σ5 74 0).toInt = (gi σ 74 0).toInt := by rw [eσ5]; exact congrArg Int32.toInt (gi_si_ne (Or.inl (by decide)))
          intro v6 ev6
          have t_16 : (x3 + (1 : Int32)).toInt = x3.toInt + 1 := i_add (x := x3) (y := (1 : Int32)) (by show (_ : Int) ≤ x3.toInt + 1; omega) (by show x3.toInt + 1 ≤ (_ : Int); omega)
          have t_17 : v6.toInt = (x3 + (1 : Int32)).toInt := congrArg Int32.toInt ev6
          exact ih115 v6 σ5 mσ5 fσ5 (by omega) (by omega) (by first | omega | assumption | rfl) (by first | omega | assumption | rfl) (by omega)
  have U115 := T 20
  have f0 : Fr [74, 103, 104, 105, 106, 107, 108, 109, 110] [0, 2] σ0 σ0 := Fr_rf
  refine s_X12_mower_0 C hN ?_
  refine k_X12_in m0  (fun r2 σ1 mσ1 cσ1 plσ1 phσ1 (pσ1_0 : (r2.toInt = 1 ∧ (0 : Int) ≤ a1.toInt ∧ a1.toInt ≤ (6 : Int)) ∨ (r2.toInt = 0 ∧ (a1.toInt < (0 : Int) ∨ (6 : Int) < a1.toInt))) => ?_)
  obtain rfl := Fr_nil cσ1
  refine ⟨?_, ?_⟩
  · intro q_18
    have b_19 : ¬ r2.toInt = 0 := fun h9 => q_18 (Int32.toInt_inj.mp h9)
    refine k_X12_in m0  (fun r5 σ4 mσ4 cσ4 plσ4 phσ4 (pσ4_0 : (r5.toInt = 1 ∧ (0 : Int) ≤ a2.toInt ∧ a2.toInt ≤ (9 : Int)) ∨ (r5.toInt = 0 ∧ (a2.toInt < (0 : Int) ∨ (9 : Int) < a2.toInt))) => ?_)
    obtain rfl := Fr_nil cσ4
    refine ⟨?_, ?_⟩
    · intro q_20
      have b_21 : ¬ r5.toInt = 0 := fun h9 => q_20 (Int32.toInt_inj.mp h9)
      refine ⟨?_, ?_⟩
      · intro q_22
        have t_23 := MI_f0 m0
        have b_24 : ¬ (gi σ0 74 0).toInt = 6 := fun h9 => q_22 (Int32.toInt_inj.mp h9)
        have hv_25 : vp_in (gi σ0 74 0) 6 := vp_in_iff.mpr ⟨by omega, by omega⟩
        refine ⟨hv_25, ?_⟩
        intro σ9 eσ9
        have mσ9 : MI σ9 := by rw [eσ9]; exact MIs_au (a := 103) m0 rfl rfl
        have fσ9 : Fr [74, 103, 104, 105, 106, 107, 108, 109, 110] [0, 2] σ0 σ9 := by rw [eσ9]; exact Fr_si f0 (by decide) (fun h9 => absurd h9 (by decide))
        have k_26 : (gi σ9 74 0).toInt = (gi σ0 74 0).toInt := by rw [eσ9]; exact congrArg Int32.toInt (gi_si_ne (Or.inl (by decide)))
        have t_27 := MI_f0 mσ9
        have hv_28 : vp_in (gi σ9 74 0) 6 := vp_in_iff.mpr ⟨by omega, by omega⟩
        refine ⟨hv_28, ?_⟩
        intro σ11 eσ11
        have mσ11 : MI σ11 := by rw [eσ11]; exact MIs_au (a := 104) mσ9 rfl rfl
        have fσ11 : Fr [74, 103, 104, 105, 106, 107, 108, 109, 110] [0, 2] σ0 σ11 := by rw [eσ11]; exact Fr_si fσ9 (by decide) (fun h9 => absurd h9 (by decide))
        have k_29 : (gi σ11 74 0).toInt = (gi σ9 74 0).toInt := by rw [eσ11]; exact congrArg Int32.toInt (gi_si_ne (Or.inl (by decide)))
        have t_30 := MI_f0 mσ11
        have hv_31 : vp_in (gi σ11 74 0) 6 := vp_in_iff.mpr ⟨by omega, by omega⟩
        refine ⟨hv_31, ?_⟩
        intro σ13 eσ13
        have z_32 : (0 : Int32).toInt = 0 := rfl
        have mσ13 : MI σ13 := by rw [eσ13]; exact MIs_a105 mσ11 (by omega) (by omega)
        have fσ13 : Fr [74, 103, 104, 105, 106, 107, 108, 109, 110] [0, 2] σ0 σ13 := by rw [eσ13]; exact Fr_si fσ11 (by decide) (fun h9 => absurd h9 (by decide))
        have k_33 : (gi σ13 74 0).toInt = (gi σ11 74 0).toInt := by rw [eσ13]; exact congrArg Int32.toInt (gi_si_ne (Or.inl (by decide)))
        have t_34 := MI_f0 mσ13
        have hv_35 : vp_in (gi σ13 74 0) 6 := vp_in_iff.mpr ⟨by omega, by omega⟩
        refine ⟨hv_35, ?_⟩
        intro σ15 eσ15
        have mσ15 : MI σ15 := by rw [eσ15]; exact MIs_au (a := 106) mσ13 rfl rfl
        have fσ15 : Fr [74, 103, 104, 105, 106, 107, 108, 109, 110] [0, 2] σ0 σ15 := by rw [eσ15]; exact Fr_si fσ13 (by decide) (fun h9 => absurd h9 (by decide))
        have k_36 : (gi σ15 74 0).toInt = (gi σ13 74 0).toInt := by rw [eσ15]; exact congrArg Int32.toInt (gi_si_ne (Or.inl (by decide)))
        have t_37 := MI_f0 mσ15
        have hv_38 : vp_in (gi σ15 74 0) 6 := vp_in_iff.mpr ⟨by omega, by omega⟩
        refine ⟨hv_38, ?_⟩
        intro σ17 eσ17
        have mσ17 : MI σ17 := by rw [eσ17]; exact MIs_au (a := 107) mσ15 rfl rfl
        have fσ17 : Fr [74, 103, 104, 105, 106, 107, 108, 109, 110] [0, 2] σ0 σ17 := by rw [eσ17]; exact Fr_si fσ15 (by decide) (fun h9 => absurd h9 (by decide))
        have k_39 : (gi σ17 74 0).toInt = (gi σ15 74 0).toInt := by rw [eσ17]; exact congrArg Int32.toInt (gi_si_ne (Or.inl (by decide)))
        have t_40 := MI_f0 mσ17
        have hv_41 : vp_in (gi σ17 74 0) 6 := vp_in_iff.mpr ⟨by omega, by omega⟩
        refine ⟨hv_41, ?_⟩
        intro σ19 eσ19
        have mσ19 : MI σ19 := by rw [eσ19]; exact MIs_au (a := 108) mσ17 rfl rfl
        have fσ19 : Fr [74, 103, 104, 105, 106, 107, 108, 109, 110] [0, 2] σ0 σ19 := by rw [eσ19]; exact Fr_si fσ17 (by decide) (fun h9 => absurd h9 (by decide))
        have k_42 : (gi σ19 74 0).toInt = (gi σ17 74 0).toInt := by rw [eσ19]; exact congrArg Int32.toInt (gi_si_ne (Or.inl (by decide)))
        have t_43 := MI_f0 mσ19
        have hv_44 : vp_in (gi σ19 74 0) 6 := vp_in_iff.mpr ⟨by omega, by omega⟩
        refine ⟨hv_44, ?_⟩
        intro σ21 eσ21
        have mσ21 : MI σ21 := by rw [eσ21]; exact MIs_a110 mσ19 (by omega) (by omega)
        have fσ21 : Fr [74, 103, 104, 105, 106, 107, 108, 109, 110] [0, 2] σ0 σ21 := by rw [eσ21]; exact Fr_si fσ19 (by decide) (fun h9 => absurd h9 (by decide))
        have k_45 : (gi σ21 74 0).toInt = (gi σ19 74 0).toInt := by rw [eσ21]; exact congrArg Int32.toInt (gi_si_ne (Or.inl (by decide)))
        exact U115 (0 : Int32) σ21 mσ21 fσ21 (by omega) (by omega) (by first | omega | assumption | rfl) (by first | omega | assumption | rfl) (by omega)
      · intro q_22
        have t_46 := MI_f0 m0
        have b_47 : (gi σ0 74 0).toInt = 6 := congrArg Int32.toInt q_22
        have z_48 : (-4 : Int32).toInt = -4 := rfl
        exact h9ret (-4 : Int32) σ0 m0 f0 (by first | omega | assumption | rfl)
    · intro q_20
      have b_49 : r5.toInt = 0 := congrArg Int32.toInt q_20
      have z_50 : (-2 : Int32).toInt = -2 := rfl
      exact h9ret (-2 : Int32) σ0 m0 f0 (by first | omega | assumption | rfl)
  · intro q_18
    have b_51 : r2.toInt = 0 := congrArg Int32.toInt q_18
    have z_52 : (-1 : Int32).toInt = -1 := rfl
    exact h9ret (-1 : Int32) σ0 m0 f0 (by first | omega | assumption | rfl)
set_option maxRecDepth 100000 in
set_option maxHeartbeats 4000000 in
theorem k_X12_image {l : Launch} {V : Vx} {σ0 : Sg} {Qk : Int32 → Sg → Prop} (m0 : MI σ0) (h9ret : ∀ (r : Int32) (σ' : Sg), MI σ' → Fr [74, 156, 157, 158, 159, 160, 161, 162, 163, 164, 165, 166, 167, 168] [49, 50, 51, 52, 53, 54, 55] σ0 σ' → Qk r σ') : K_X12_image l V σ0 Qk := by
  refine e_X12_image (fun M hl hV hN C => ?_)
  subst hl
  subst hV
  have T : ∀ n : Nat, (∀ (x1 : Int32) (σ : Sg), MI σ → Fr [74, 156, 157, 158, 159, 160, 161, 162, 163, 164, 165, 166, 167, 168] [49, 50, 51, 52, 53, 54, 55] σ0 σ → (0 ≤ x1.toInt) → (x1.toInt ≤ 6) → (7 - x1.toInt).toNat + 300 < n → PS M 55 [(0, .ref 74), (1, .int x1)] [] σ (0, 0)) ∧ (∀ (x1 : Int32) (σ : Sg), MI σ → Fr [74, 156, 157, 158, 159, 160, 161, 162, 163, 164, 165, 166, 167, 168] [49, 50, 51, 52, 53, 54, 55] σ0 σ → (0 ≤ x1.toInt) → (x1.toInt ≤ 24) → (25 - x1.toInt).toNat + 200 < n → PS M 189 [(0, .ref 74), (1, .int x1)] [] σ (0, 0)) ∧ (∀ (x1 : Int32) (σ : Sg), MI σ → Fr [74, 156, 157, 158, 159, 160, 161, 162, 163, 164, 165, 166, 167, 168] [49, 50, 51, 52, 53, 54, 55] σ0 σ → (0 ≤ x1.toInt) → (x1.toInt ≤ 10) → (11 - x1.toInt).toNat + 100 < n → PS M 215 [(0, .ref 74), (1, .int x1)] [] σ (0, 0)) ∧ (∀ (x1 : Int32) (σ : Sg), MI σ → Fr [74, 156, 157, 158, 159, 160, 161, 162, 163, 164, 165, 166, 167, 168] [49, 50, 51, 52, 53, 54, 55] σ0 σ → (0 ≤ x1.toInt) → (x1.toInt ≤ 8) → (9 - x1.toInt).toNat < n → PS M 241 [(0, .ref 74), (1, .int x1)] [] σ (0, 0)) := by
    intro n
    induction n with
    | zero => exact ⟨fun _ _ _ _ _ _ h8 => absurd h8 (Nat.not_lt_zero _), fun _ _ _ _ _ _ h8 => absurd h8 (Nat.not_lt_zero _), fun _ _ _ _ _ _ h8 => absurd h8 (Nat.not_lt_zero _), fun _ _ _ _ _ _ h8 => absurd h8 (Nat.not_lt_zero _)⟩
    | succ n ih =>
      obtain ⟨ih55, ih189, ih215, ih241⟩ := ih
      refine ⟨?_, ?_, ?_, ?_⟩
      · intro x1 σ mσ fσ lx1 ux1 hmu
        refine s_X12_image_55 C hN ?_
        refine ⟨?_, ?_⟩
        · intro q_1
          have b_2 : (6 : Int) ≤ x1.toInt := Int32.le_iff_toInt_le.mp q_1
          have z_3 : (0 : Int32).toInt = 0 := rfl
          exact ih189 (0 : Int32) σ mσ fσ (by omega) (by omega) (by omega)
        · intro q_1
          have b_4 : ¬ (6 : Int) ≤ x1.toInt := fun h9 => q_1 (Int32.le_iff_toInt_le.mpr h9)
          have hv_5 : vp_in x1 6 := vp_in_iff.mpr ⟨by omega, by omega⟩
          refine ⟨hv_5, ?_⟩
          refine ⟨hv_5, ?_⟩
          intro σ4 eσ4
          have mσ4 : MI σ4 := by rw [eσ4]; exact MIs_au (a := 156) mσ rfl rfl
          have fσ4 : Fr [74, 156, 157, 158, 159, 160, 161, 162, 163, 164, 165, 166, 167, 168] [49, 50, 51, 52, 53, 54, 55] σ0 σ4 := by rw [eσ4]; exact Fr_si fσ (by decide) (fun h9 => absurd h9 (by decide))
          have k_6 : (gi σ4 74 0).toInt = (gi σ 74 0).toInt := by rw [eσ4]; exact congrArg Int32.toInt (gi_si_ne (Or.inl (by decide)))
          have k_7 : (gi σ4 74 1).toInt = (gi σ 74 1).toInt := by rw [eσ4]; exact congrArg Int32.toInt (gi_si_ne (Or.inl (by decide)))
          have k_8 : (gi σ4 74 12).toInt = (gi σ 74 12).toInt := by rw [eσ4]; exact congrArg Int32.toInt (gi_si_ne (Or.inl (by decide)))
          have k_9 : (gi σ4 74 50).toInt = (gi σ 74 50).toInt := by rw [eσ4]; exact congrArg Int32.toInt (gi_si_ne (Or.inl (by decide)))
          have k_10 : (gi σ4 74 51).toInt = (gi σ 74 51).toInt := by rw [eσ4]; exact congrArg Int32.toInt (gi_si_ne (Or.inl (by decide)))
          have k_11 : (gi σ4 74 52).toInt = (gi σ 74 52).toInt := by rw [eσ4]; exact congrArg Int32.toInt (gi_si_ne (Or.inl (by decide)))
          refine ⟨hv_5, ?_⟩
          refine ⟨hv_5, ?_⟩
          intro σ7 eσ7
          have mσ7 : MI σ7 := by rw [eσ7]; exact MIs_au (a := 157) mσ4 rfl rfl
          have fσ7 : Fr [74, 156, 157, 158, 159, 160, 161, 162, 163, 164, 165, 166, 167, 168] [49, 50, 51, 52, 53, 54, 55] σ0 σ7 := by rw [eσ7]; exact Fr_si fσ4 (by decide) (fun h9 => absurd h9 (by decide))
          have k_12 : (gi σ7 74 0).toInt = (gi σ4 74 0).toInt := by rw [eσ7]; exact congrArg Int32.toInt (gi_si_ne (Or.inl (by decide)))
          have k_13 : (gi σ7 74 1).toInt = (gi σ4 74 1).toInt := by rw [eσ7]; exact congrArg Int32.toInt (gi_si_ne (Or.inl (by decide)))
          have k_14 : (gi σ7 74 12).toInt = (gi σ4 74 12).toInt := by rw [eσ7]; exact congrArg Int32.toInt (gi_si_ne (Or.inl (by decide)))
          have k_15 : (gi σ7 74 50).toInt = (gi σ4 74 50).toInt := by rw [eσ7]; exact congrArg Int32.toInt (gi_si_ne (Or.inl (by decide)))
          have k_16 : (gi σ7 74 51).toInt = (gi σ4 74 51).toInt := by rw [eσ7]; exact congrArg Int32.toInt (gi_si_ne (Or.inl (by decide)))
          have k_17 : (gi σ7 74 52).toInt = (gi σ4 74 52).toInt := by rw [eσ7]; exact congrArg Int32.toInt (gi_si_ne (Or.inl (by decide)))
          refine ⟨hv_5, ?_⟩
          refine ⟨hv_5, ?_⟩
          intro σ10 eσ10
          have t_18 := MI_a105 mσ7 hv_5
          have mσ10 : MI σ10 := by rw [eσ10]; exact MIs_a158 mσ7 (by omega) (by omega)
          have fσ10 : Fr [74, 156, 157, 158, 159, 160, 161, 162, 163, 164, 165, 166, 167, 168] [49, 50, 51, 52, 53, 54, 55] σ0 σ10 := by rw [eσ10]; exact Fr_si fσ7 (by decide) (fun h9 => absurd h9 (by decide))
          have k_19 : (gi σ10 74 0).toInt = (gi σ7 74 0).toInt := by rw [eσ10]; exact congrArg Int32.toInt (gi_si_ne (Or.inl (by decide)))
          have k_20 : (gi σ10 74 1).toInt = (gi σ7 74 1).toInt := by rw [eσ10]; exact congrArg Int32.toInt (gi_si_ne (Or.inl (by decide)))
          have k_21 : (gi σ10 74 12).toInt = (gi σ7 74 12).toInt := by rw [eσ10]; exact congrArg Int32.toInt (gi_si_ne (Or.inl (by decide)))
          have k_22 : (gi σ10 74 50).toInt = (gi σ7 74 50).toInt := by rw [eσ10]; exact congrArg Int32.toInt (gi_si_ne (Or.inl (by decide)))
          have k_23 : (gi σ10 74 51).toInt = (gi σ7 74 51).toInt := by rw [eσ10]; exact congrArg Int32.toInt (gi_si_ne (Or.inl (by decide)))
          have k_24 : (gi σ10 74 52).toInt = (gi σ7 74 52).toInt := by rw [eσ10]; exact congrArg Int32.toInt (gi_si_ne (Or.inl (by decide)))
          refine ⟨hv_5, ?_⟩
          refine ⟨hv_5, ?_⟩
          intro σ13 eσ13
          have mσ13 : MI σ13 := by rw [eσ13]; exact MIs_au (a := 159) mσ10 rfl rfl
          have fσ13 : Fr [74, 156, 157, 158, 159, 160, 161, 162, 163, 164, 165, 166, 167, 168] [49, 50, 51, 52, 53, 54, 55] σ0 σ13 := by rw [eσ13]; exact Fr_si fσ10 (by decide) (fun h9 => absurd h9 (by decide))
          have k_25 : (gi σ13 74 0).toInt = (gi σ10 74 0).toInt := by rw [eσ13]; exact congrArg Int32.toInt (gi_si_ne (Or.inl (by decide)))
          have k_26 : (gi σ13 74 1).toInt = (gi σ10 74 1).toInt := by rw [eσ13]; exact congrArg Int32.toInt (gi_si_ne (Or.inl (by decide)))
          have k_27 : (gi σ13 74 12).toInt = (gi σ10 74 12).toInt := by rw [eσ13]; exact congrArg Int32.toInt (gi_si_ne (Or.inl (by decide)))
          have k_28 : (gi σ13 74 50).toInt = (gi σ10 74 50).toInt := by rw [eσ13]; exact congrArg Int32.toInt (gi_si_ne (Or.inl (by decide)))
          have k_29 : (gi σ13 74 51).toInt = (gi σ10 74 51).toInt := by rw [eσ13]; exact congrArg Int32.toInt (gi_si_ne (Or.inl (by decide)))
          have k_30 : (gi σ13 74 52).toInt = (gi σ10 74 52).toInt := by rw [eσ13]; exact congrArg Int32.toInt (gi_si_ne (Or.inl (by decide)))
          refine ⟨hv_5, ?_⟩
          refine ⟨hv_5, ?_⟩
          intro σ16 eσ16
          have mσ16 : MI σ16 := by rw [eσ16]; exact MIs_au (a := 160) mσ13 rfl rfl
          have fσ16 : Fr [74, 156, 157, 158, 159, 160, 161, 162, 163, 164, 165, 166, 167, 168] [49, 50, 51, 52, 53, 54, 55] σ0 σ16 := by rw [eσ16]; exact Fr_si fσ13 (by decide) (fun h9 => absurd h9 (by decide))
          have k_31 : (gi σ16 74 0).toInt = (gi σ13 74 0).toInt := by rw [eσ16]; exact congrArg Int32.toInt (gi_si_ne (Or.inl (by decide)))
          have k_32 : (gi σ16 74 1).toInt = (gi σ13 74 1).toInt := by rw [eσ16]; exact congrArg Int32.toInt (gi_si_ne (Or.inl (by decide)))
          have k_33 : (gi σ16 74 12).toInt = (gi σ13 74 12).toInt := by rw [eσ16]; exact congrArg Int32.toInt (gi_si_ne (Or.inl (by decide)))
          have k_34 : (gi σ16 74 50).toInt = (gi σ13 74 50).toInt := by rw [eσ16]; exact congrArg Int32.toInt (gi_si_ne (Or.inl (by decide)))
          have k_35 : (gi σ16 74 51).toInt = (gi σ13 74 51).toInt := by rw [eσ16]; exact congrArg Int32.toInt (gi_si_ne (Or.inl (by decide)))
          have k_36 : (gi σ16 74 52).toInt = (gi σ13 74 52).toInt := by rw [eσ16]; exact congrArg Int32.toInt (gi_si_ne (Or.inl (by decide)))
          refine ⟨hv_5, ?_⟩
          refine ⟨hv_5, ?_⟩
          intro σ19 eσ19
          have mσ19 : MI σ19 := by rw [eσ19]; exact MIs_au (a := 161) mσ16 rfl rfl
          have fσ19 : Fr [74, 156, 157, 158, 159, 160, 161, 162, 163, 164, 165, 166, 167, 168] [49, 50, 51, 52, 53, 54, 55] σ0 σ19 := by rw [eσ19]; exact Fr_si fσ16 (by decide) (fun h9 => absurd h9 (by decide))
          have k_37 : (gi σ19 74 0).toInt = (gi σ16 74 0).toInt := by rw [eσ19]; exact congrArg Int32.toInt (gi_si_ne (Or.inl (by decide)))
          have k_38 : (gi σ19 74 1).toInt = (gi σ16 74 1).toInt := by rw [eσ19]; exact congrArg Int32.toInt (gi_si_ne (Or.inl (by decide)))
          have k_39 : (gi σ19 74 12).toInt = (gi σ16 74 12).toInt := by rw [eσ19]; exact congrArg Int32.toInt (gi_si_ne (Or.inl (by decide)))
          have k_40 : (gi σ19 74 50).toInt = (gi σ16 74 50).toInt := by rw [eσ19]; exact congrArg Int32.toInt (gi_si_ne (Or.inl (by decide)))
          have k_41 : (gi σ19 74 51).toInt = (gi σ16 74 51).toInt := by rw [eσ19]; exact congrArg Int32.toInt (gi_si_ne (Or.inl (by decide)))
          have k_42 : (gi σ19 74 52).toInt = (gi σ16 74 52).toInt := by rw [eσ19]; exact congrArg Int32.toInt (gi_si_ne (Or.inl (by decide)))
          refine ⟨hv_5, ?_⟩
          refine ⟨hv_5, ?_⟩
          intro σ22 eσ22
          have t_43 := MI_a110 mσ19 hv_5
          have mσ22 : MI σ22 := by rw [eσ22]; exact MIs_a162 mσ19 (by omega) (by omega)
          have fσ22 : Fr [74, 156, 157, 158, 159, 160, 161, 162, 163, 164, 165, 166, 167, 168] [49, 50, 51, 52, 53, 54, 55] σ0 σ22 := by rw [eσ22]; exact Fr_si fσ19 (by decide) (fun h9 => absurd h9 (by decide))
          have k_44 : (gi σ22 74 0).toInt = (gi σ19 74 0).toInt := by rw [eσ22]; exact congrArg Int32.toInt (gi_si_ne (Or.inl (by decide)))
          have k_45 : (gi σ22 74 1).toInt = (gi σ19 74 1).toInt := by rw [eσ22]; exact congrArg Int32.toInt (gi_si_ne (Or.inl (by decide)))
          have k_46 : (gi σ22 74 12).toInt = (gi σ19 74 12).toInt := by rw [eσ22]; exact congrArg Int32.toInt (gi_si_ne (Or.inl (by decide)))
          have k_47 : (gi σ22 74 50).toInt = (gi σ19 74 50).toInt := by rw [eσ22]; exact congrArg Int32.toInt (gi_si_ne (Or.inl (by decide)))
          have k_48 : (gi σ22 74 51).toInt = (gi σ19 74 51).toInt := by rw [eσ22]; exact congrArg Int32.toInt (gi_si_ne (Or.inl (by decide)))
          have k_49 : (gi σ22 74 52).toInt = (gi σ19 74 52).toInt := by rw [eσ22]; exact congrArg Int32.toInt (gi_si_ne (Or.inl (by decide)))
          refine ⟨hv_5, ?_⟩
          refine ⟨hv_5, ?_⟩
          intro σ25 eσ25
          have t_50 := MI_a142 mσ22 hv_5
          have mσ25 : MI σ25 := by rw [eσ25]; exact MIs_a164 mσ22 (by omega) (by omega)
          have fσ25 : Fr [74, 156, 157, 158, 159, 160, 161, 162, 163, 164, 165, 166, 167, 168] [49, 50, 51, 52, 53, 54, 55] σ0 σ25 := by rw [eσ25]; exact Fr_si fσ22 (by decide) (fun h9 => absurd h9 (by decide))
          have k_51 : (gi σ25 74 0).toInt = (gi σ22 74 0).toInt := by rw [eσ25]; exact congrArg Int32.toInt (gi_si_ne (Or.inl (by decide)))
          have k_52 : (gi σ25 74 1).toInt = (gi σ22 74 1).toInt := by rw [eσ25]; exact congrArg Int32.toInt (gi_si_ne (Or.inl (by decide)))
          have k_53 : (gi σ25 74 12).toInt = (gi σ22 74 12).toInt := by rw [eσ25]; exact congrArg Int32.toInt (gi_si_ne (Or.inl (by decide)))
          have k_54 : (gi σ25 74 50).toInt = (gi σ22 74 50).toInt := by rw [eσ25]; exact congrArg Int32.toInt (gi_si_ne (Or.inl (by decide)))
          have k_55 : (gi σ25 74 51).toInt = (gi σ22 74 51).toInt := by rw [eσ25]; exact congrArg Int32.toInt (gi_si_ne (Or.inl (by decide)))
          have k_56 : (gi σ25 74 52).toInt = (gi σ22 74 52).toInt := by rw [eσ25]; exact congrArg Int32.toInt (gi_si_ne (Or.inl (by decide)))
          refine ⟨hv_5, ?_⟩
          refine ⟨hv_5, ?_⟩
          intro σ28 eσ28
          have t_57 := MI_a143 mσ25 hv_5
          have mσ28 : MI σ28 := by rw [eσ28]; exact MIs_a165 mσ25 (by omega) (by omega)
          have fσ28 : Fr [74, 156, 157, 158, 159, 160, 161, 162, 163, 164, 165, 166, 167, 168] [49, 50, 51, 52, 53, 54, 55] σ0 σ28 := by rw [eσ28]; exact Fr_si fσ25 (by decide) (fun h9 => absurd h9 (by decide))
          have k_58 : (gi σ28 74 0).toInt = (gi σ25 74 0).toInt := by rw [eσ28]; exact congrArg Int32.toInt (gi_si_ne (Or.inl (by decide)))
          have k_59 : (gi σ28 74 1).toInt = (gi σ25 74 1).toInt := by rw [eσ28]; exact congrArg Int32.toInt (gi_si_ne (Or.inl (by decide)))
          have k_60 : (gi σ28 74 12).toInt = (gi σ25 74 12).toInt := by rw [eσ28]; exact congrArg Int32.toInt (gi_si_ne (Or.inl (by decide)))
          have k_61 : (gi σ28 74 50).toInt = (gi σ25 74 50).toInt := by rw [eσ28]; exact congrArg Int32.toInt (gi_si_ne (Or.inl (by decide)))
          have k_62 : (gi σ28 74 51).toInt = (gi σ25 74 51).toInt := by rw [eσ28]; exact congrArg Int32.toInt (gi_si_ne (Or.inl (by decide)))
          have k_63 : (gi σ28 74 52).toInt = (gi σ25 74 52).toInt := by rw [eσ28]; exact congrArg Int32.toInt (gi_si_ne (Or.inl (by decide)))
          refine ⟨hv_5, ?_⟩
          refine ⟨hv_5, ?_⟩
          intro σ31 eσ31
          have mσ31 : MI σ31 := by rw [eσ31]; exact MIs_au (a := 166) mσ28 rfl rfl
          have fσ31 : Fr [74, 156, 157, 158, 159, 160, 161, 162, 163, 164, 165, 166, 167, 168] [49, 50, 51, 52, 53, 54, 55] σ0 σ31 := by rw [eσ31]; exact Fr_si fσ28 (by decide) (fun h9 => absurd h9 (by decide))
          have k_64 : (gi σ31 74 0).toInt = (gi σ28 74 0).toInt := by rw [eσ31]; exact congrArg Int32.toInt (gi_si_ne (Or.inl (by decide)))
          have k_65 : (gi σ31 74 1).toInt = (gi σ28 74 1).toInt := by rw [eσ31]; exact congrArg Int32.toInt (gi_si_ne (Or.inl (by decide)))
          have k_66 : (gi σ31 74 12).toInt = (gi σ28 74 12).toInt := by rw [eσ31]; exact congrArg Int32.toInt (gi_si_ne (Or.inl (by decide)))
          have k_67 : (gi σ31 74 50).toInt = (gi σ28 74 50).toInt := by rw [eσ31]; exact congrArg Int32.toInt (gi_si_ne (Or.inl (by decide)))
          have k_68 : (gi σ31 74 51).toInt = (gi σ28 74 51).toInt := by rw [eσ31]; exact congrArg Int32.toInt (gi_si_ne (Or.inl (by decide)))
          have k_69 : (gi σ31 74 52).toInt = (gi σ28 74 52).toInt := by rw [eσ31]; exact congrArg Int32.toInt (gi_si_ne (Or.inl (by decide)))
          intro v32 ev32
          have t_70 : (x1 + (1 : Int32)).toInt = x1.toInt + 1 := i_add (x := x1) (y := (1 : Int32)) (by show (_ : Int) ≤ x1.toInt + 1; omega) (by show x1.toInt + 1 ≤ (_ : Int); omega)
          have t_71 : v32.toInt = (x1 + (1 : Int32)).toInt := congrArg Int32.toInt ev32
          exact ih55 v32 σ31 mσ31 fσ31 (by omega) (by omega) (by omega)
      · intro x1 σ mσ fσ lx1 ux1 hmu
        refine s_X12_image_189 C hN ?_
        refine ⟨?_, ?_⟩
        · intro q_72
          have b_73 : (24 : Int) ≤ x1.toInt := Int32.le_iff_toInt_le.mp q_72
          have z_74 : (0 : Int32).toInt = 0 := rfl
          exact ih215 (0 : Int32) σ mσ fσ (by omega) (by omega) (by omega)
        · intro q_72
          have b_75 : ¬ (24 : Int) ≤ x1.toInt := fun h9 => q_72 (Int32.le_iff_toInt_le.mpr h9)
          have hv_76 : vp_in x1 24 := vp_in_iff.mpr ⟨by omega, by omega⟩
          refine ⟨hv_76, ?_⟩
          refine ⟨hv_76, ?_⟩
          intro σ4 eσ4
          have mσ4 : MI σ4 := by rw [eσ4]; exact MIs_au (a := 163) mσ rfl rfl
          have fσ4 : Fr [74, 156, 157, 158, 159, 160, 161, 162, 163, 164, 165, 166, 167, 168] [49, 50, 51, 52, 53, 54, 55] σ0 σ4 := by rw [eσ4]; exact Fr_si fσ (by decide) (fun h9 => absurd h9 (by decide))
          have k_77 : (gi σ4 74 0).toInt = (gi σ 74 0).toInt := by rw [eσ4]; exact congrArg Int32.toInt (gi_si_ne (Or.inl (by decide)))
          have k_78 : (gi σ4 74 1).toInt = (gi σ 74 1).toInt := by rw [eσ4]; exact congrArg Int32.toInt (gi_si_ne (Or.inl (by decide)))
          have k_79 : (gi σ4 74 12).toInt = (gi σ 74 12).toInt := by rw [eσ4]; exact congrArg Int32.toInt (gi_si_ne (Or.inl (by decide)))
          have k_80 : (gi σ4 74 50).toInt = (gi σ 74 50).toInt := by rw [eσ4]; exact congrArg Int32.toInt (gi_si_ne (Or.inl (by decide)))
          have k_81 : (gi σ4 74 51).toInt = (gi σ 74 51).toInt := by rw [eσ4]; exact congrArg Int32.toInt (gi_si_ne (Or.inl (by decide)))
          have k_82 : (gi σ4 74 52).toInt = (gi σ 74 52).toInt := by rw [eσ4]; exact congrArg Int32.toInt (gi_si_ne (Or.inl (by decide)))
          intro v5 ev5
          have t_83 : (x1 + (1 : Int32)).toInt = x1.toInt + 1 := i_add (x := x1) (y := (1 : Int32)) (by show (_ : Int) ≤ x1.toInt + 1; omega) (by show x1.toInt + 1 ≤ (_ : Int); omega)
          have t_84 : v5.toInt = (x1 + (1 : Int32)).toInt := congrArg Int32.toInt ev5
          exact ih189 v5 σ4 mσ4 fσ4 (by omega) (by omega) (by omega)
      · intro x1 σ mσ fσ lx1 ux1 hmu
        refine s_X12_image_215 C hN ?_
        refine ⟨?_, ?_⟩
        · intro q_85
          have b_86 : (10 : Int) ≤ x1.toInt := Int32.le_iff_toInt_le.mp q_85
          have z_87 : (0 : Int32).toInt = 0 := rfl
          exact ih241 (0 : Int32) σ mσ fσ (by omega) (by omega) (by omega)
        · intro q_85
          have b_88 : ¬ (10 : Int) ≤ x1.toInt := fun h9 => q_85 (Int32.le_iff_toInt_le.mpr h9)
          have hv_89 : vp_in x1 10 := vp_in_iff.mpr ⟨by omega, by omega⟩
          refine ⟨hv_89, ?_⟩
          refine ⟨hv_89, ?_⟩
          intro σ4 eσ4
          have mσ4 : MI σ4 := by rw [eσ4]; exact MIs_au (a := 167) mσ rfl rfl
          have fσ4 : Fr [74, 156, 157, 158, 159, 160, 161, 162, 163, 164, 165, 166, 167, 168] [49, 50, 51, 52, 53, 54, 55] σ0 σ4 := by rw [eσ4]; exact Fr_si fσ (by decide) (fun h9 => absurd h9 (by decide))
          have k_90 : (gi σ4 74 0).toInt = (gi σ 74 0).toInt := by rw [eσ4]; exact congrArg Int32.toInt (gi_si_ne (Or.inl (by decide)))
          have k_91 : (gi σ4 74 1).toInt = (gi σ 74 1).toInt := by rw [eσ4]; exact congrArg Int32.toInt (gi_si_ne (Or.inl (by decide)))
          have k_92 : (gi σ4 74 12).toInt = (gi σ 74 12).toInt := by rw [eσ4]; exact congrArg Int32.toInt (gi_si_ne (Or.inl (by decide)))
          have k_93 : (gi σ4 74 50).toInt = (gi σ 74 50).toInt := by rw [eσ4]; exact congrArg Int32.toInt (gi_si_ne (Or.inl (by decide)))
          have k_94 : (gi σ4 74 51).toInt = (gi σ 74 51).toInt := by rw [eσ4]; exact congrArg Int32.toInt (gi_si_ne (Or.inl (by decide)))
          have k_95 : (gi σ4 74 52).toInt = (gi σ 74 52).toInt := by rw [eσ4]; exact congrArg Int32.toInt (gi_si_ne (Or.inl (by decide)))
          intro v5 ev5
          have t_96 : (x1 + (1 : Int32)).toInt = x1.toInt + 1 := i_add (x := x1) (y := (1 : Int32)) (by show (_ : Int) ≤ x1.toInt + 1; omega) (by show x1.toInt + 1 ≤ (_ : Int); omega)
          have t_97 : v5.toInt = (x1 + (1 : Int32)).toInt := congrArg Int32.toInt ev5
          exact ih215 v5 σ4 mσ4 fσ4 (by omega) (by omega) (by omega)
      · intro x1 σ mσ fσ lx1 ux1 hmu
        refine s_X12_image_241 C hN ?_
        refine ⟨?_, ?_⟩
        · intro q_98
          have b_99 : (8 : Int) ≤ x1.toInt := Int32.le_iff_toInt_le.mp q_98
          exact h9ret (gi σ 74 0) σ mσ fσ
        · intro q_98
          have b_100 : ¬ (8 : Int) ≤ x1.toInt := fun h9 => q_98 (Int32.le_iff_toInt_le.mpr h9)
          have hv_101 : vp_in x1 8 := vp_in_iff.mpr ⟨by omega, by omega⟩
          refine ⟨hv_101, ?_⟩
          refine ⟨hv_101, ?_⟩
          intro σ4 eσ4
          have mσ4 : MI σ4 := by rw [eσ4]; exact MIs_au (a := 168) mσ rfl rfl
          have fσ4 : Fr [74, 156, 157, 158, 159, 160, 161, 162, 163, 164, 165, 166, 167, 168] [49, 50, 51, 52, 53, 54, 55] σ0 σ4 := by rw [eσ4]; exact Fr_si fσ (by decide) (fun h9 => absurd h9 (by decide))
          have k_102 : (gi σ4 74 0).toInt = (gi σ 74 0).toInt := by rw [eσ4]; exact congrArg Int32.toInt (gi_si_ne (Or.inl (by decide)))
          have k_103 : (gi σ4 74 1).toInt = (gi σ 74 1).toInt := by rw [eσ4]; exact congrArg Int32.toInt (gi_si_ne (Or.inl (by decide)))
          have k_104 : (gi σ4 74 12).toInt = (gi σ 74 12).toInt := by rw [eσ4]; exact congrArg Int32.toInt (gi_si_ne (Or.inl (by decide)))
          have k_105 : (gi σ4 74 50).toInt = (gi σ 74 50).toInt := by rw [eσ4]; exact congrArg Int32.toInt (gi_si_ne (Or.inl (by decide)))
          have k_106 : (gi σ4 74 51).toInt = (gi σ 74 51).toInt := by rw [eσ4]; exact congrArg Int32.toInt (gi_si_ne (Or.inl (by decide)))
          have k_107 : (gi σ4 74 52).toInt = (gi σ 74 52).toInt := by rw [eσ4]; exact congrArg Int32.toInt (gi_si_ne (Or.inl (by decide)))
          intro v5 ev5
          have t_108 : (x1 + (1 : Int32)).toInt = x1.toInt + 1 := i_add (x := x1) (y := (1 : Int32)) (by show (_ : Int) ≤ x1.toInt + 1; omega) (by show x1.toInt + 1 ≤ (_ : Int); omega)
          have t_109 : v5.toInt = (x1 + (1 : Int32)).toInt := congrArg Int32.toInt ev5
          exact ih241 v5 σ4 mσ4 fσ4 (by omega) (by omega) (by omega)
  obtain ⟨U55, U189, U215, U241⟩ := T 900
  have f0 : Fr [74, 156, 157, 158, 159, 160, 161, 162, 163, 164, 165, 166, 167, 168] [49, 50, 51, 52, 53, 54, 55] σ0 σ0 := Fr_rf
  refine s_X12_image_0 C hN ?_
  intro σ1 eσ1
  have mσ1 : MI σ1 := by rw [eσ1]; exact MIs_fu m0 (by decide)
  have fσ1 : Fr [74, 156, 157, 158, 159, 160, 161, 162, 163, 164, 165, 166, 167, 168] [49, 50, 51, 52, 53, 54, 55] σ0 σ1 := by rw [eσ1]; exact Fr_si f0 (by decide) (fun _ => by decide)
  have k_110 : (gi σ1 74 0).toInt = (gi σ0 74 0).toInt := by rw [eσ1]; exact congrArg Int32.toInt (gi_si_ne (Or.inr (by decide)))
  have k_111 : (gi σ1 74 1).toInt = (gi σ0 74 1).toInt := by rw [eσ1]; exact congrArg Int32.toInt (gi_si_ne (Or.inr (by decide)))
  have k_112 : (gi σ1 74 12).toInt = (gi σ0 74 12).toInt := by rw [eσ1]; exact congrArg Int32.toInt (gi_si_ne (Or.inr (by decide)))
  have k_113 : (gi σ1 74 50).toInt = (gi σ0 74 50).toInt := by rw [eσ1]; exact congrArg Int32.toInt (gi_si_ne (Or.inr (by decide)))
  have k_114 : (gi σ1 74 51).toInt = (gi σ0 74 51).toInt := by rw [eσ1]; exact congrArg Int32.toInt (gi_si_ne (Or.inr (by decide)))
  have k_115 : (gi σ1 74 52).toInt = (gi σ0 74 52).toInt := by rw [eσ1]; exact congrArg Int32.toInt (gi_si_ne (Or.inr (by decide)))
  intro σ2 eσ2
  have t_116 := MI_f12 mσ1
  have mσ2 : MI σ2 := by rw [eσ2]; exact MIs_f50 mσ1 (by omega) (by omega) (FV_copy mσ1.2.2 (Or.inr rfl) (Or.inl rfl))
  have fσ2 : Fr [74, 156, 157, 158, 159, 160, 161, 162, 163, 164, 165, 166, 167, 168] [49, 50, 51, 52, 53, 54, 55] σ0 σ2 := by rw [eσ2]; exact Fr_si fσ1 (by decide) (fun _ => by decide)
  have k_117 : (gi σ2 74 0).toInt = (gi σ1 74 0).toInt := by rw [eσ2]; exact congrArg Int32.toInt (gi_si_ne (Or.inr (by decide)))
  have k_118 : (gi σ2 74 1).toInt = (gi σ1 74 1).toInt := by rw [eσ2]; exact congrArg Int32.toInt (gi_si_ne (Or.inr (by decide)))
  have k_119 : (gi σ2 74 12).toInt = (gi σ1 74 12).toInt := by rw [eσ2]; exact congrArg Int32.toInt (gi_si_ne (Or.inr (by decide)))
  have k_120 : (gi σ2 74 50).toInt = (gi σ1 74 12).toInt := by rw [eσ2]; exact congrArg Int32.toInt gi_si_eq
  have k_121 : (gi σ2 74 51).toInt = (gi σ1 74 51).toInt := by rw [eσ2]; exact congrArg Int32.toInt (gi_si_ne (Or.inr (by decide)))
  have k_122 : (gi σ2 74 52).toInt = (gi σ1 74 52).toInt := by rw [eσ2]; exact congrArg Int32.toInt (gi_si_ne (Or.inr (by decide)))
  intro σ3 eσ3
  have t_123 := MI_f0 mσ2
  have mσ3 : MI σ3 := by rw [eσ3]; exact MIs_f51 mσ2 (by omega) (by omega)
  have fσ3 : Fr [74, 156, 157, 158, 159, 160, 161, 162, 163, 164, 165, 166, 167, 168] [49, 50, 51, 52, 53, 54, 55] σ0 σ3 := by rw [eσ3]; exact Fr_si fσ2 (by decide) (fun _ => by decide)
  have k_124 : (gi σ3 74 0).toInt = (gi σ2 74 0).toInt := by rw [eσ3]; exact congrArg Int32.toInt (gi_si_ne (Or.inr (by decide)))
  have k_125 : (gi σ3 74 1).toInt = (gi σ2 74 1).toInt := by rw [eσ3]; exact congrArg Int32.toInt (gi_si_ne (Or.inr (by decide)))
  have k_126 : (gi σ3 74 12).toInt = (gi σ2 74 12).toInt := by rw [eσ3]; exact congrArg Int32.toInt (gi_si_ne (Or.inr (by decide)))
  have k_127 : (gi σ3 74 50).toInt = (gi σ2 74 50).toInt := by rw [eσ3]; exact congrArg Int32.toInt (gi_si_ne (Or.inr (by decide)))
  have k_128 : (gi σ3 74 51).toInt = (gi σ2 74 0).toInt := by rw [eσ3]; exact congrArg Int32.toInt gi_si_eq
  have k_129 : (gi σ3 74 52).toInt = (gi σ2 74 52).toInt := by rw [eσ3]; exact congrArg Int32.toInt (gi_si_ne (Or.inr (by decide)))
  intro σ4 eσ4
  have t_130 := MI_f1 mσ3
  have mσ4 : MI σ4 := by rw [eσ4]; exact MIs_f52 mσ3 (by omega) (by omega)
  have fσ4 : Fr [74, 156, 157, 158, 159, 160, 161, 162, 163, 164, 165, 166, 167, 168] [49, 50, 51, 52, 53, 54, 55] σ0 σ4 := by rw [eσ4]; exact Fr_si fσ3 (by decide) (fun _ => by decide)
  have k_131 : (gi σ4 74 0).toInt = (gi σ3 74 0).toInt := by rw [eσ4]; exact congrArg Int32.toInt (gi_si_ne (Or.inr (by decide)))
  have k_132 : (gi σ4 74 1).toInt = (gi σ3 74 1).toInt := by rw [eσ4]; exact congrArg Int32.toInt (gi_si_ne (Or.inr (by decide)))
  have k_133 : (gi σ4 74 12).toInt = (gi σ3 74 12).toInt := by rw [eσ4]; exact congrArg Int32.toInt (gi_si_ne (Or.inr (by decide)))
  have k_134 : (gi σ4 74 50).toInt = (gi σ3 74 50).toInt := by rw [eσ4]; exact congrArg Int32.toInt (gi_si_ne (Or.inr (by decide)))
  have k_135 : (gi σ4 74 51).toInt = (gi σ3 74 51).toInt := by rw [eσ4]; exact congrArg Int32.toInt (gi_si_ne (Or.inr (by decide)))
  have k_136 : (gi σ4 74 52).toInt = (gi σ3 74 1).toInt := by rw [eσ4]; exact congrArg Int32.toInt gi_si_eq
  intro σ5 eσ5
  have t_137 := MI_f41 mσ4
  have mσ5 : MI σ5 := by rw [eσ5]; exact MIs_f53 mσ4 (by omega) (by omega)
  have fσ5 : Fr [74, 156, 157, 158, 159, 160, 161, 162, 163, 164, 165, 166, 167, 168] [49, 50, 51, 52, 53, 54, 55] σ0 σ5 := by rw [eσ5]; exact Fr_si fσ4 (by decide) (fun _ => by decide)
  have k_138 : (gi σ5 74 0).toInt = (gi σ4 74 0).toInt := by rw [eσ5]; exact congrArg Int32.toInt (gi_si_ne (Or.inr (by decide)))
  have k_139 : (gi σ5 74 1).toInt = (gi σ4 74 1).toInt := by rw [eσ5]; exact congrArg Int32.toInt (gi_si_ne (Or.inr (by decide)))
  have k_140 : (gi σ5 74 12).toInt = (gi σ4 74 12).toInt := by rw [eσ5]; exact congrArg Int32.toInt (gi_si_ne (Or.inr (by decide)))
  have k_141 : (gi σ5 74 41).toInt = (gi σ4 74 41).toInt := by rw [eσ5]; exact congrArg Int32.toInt (gi_si_ne (Or.inr (by decide)))
  have k_142 : (gi σ5 74 50).toInt = (gi σ4 74 50).toInt := by rw [eσ5]; exact congrArg Int32.toInt (gi_si_ne (Or.inr (by decide)))
  have k_143 : (gi σ5 74 51).toInt = (gi σ4 74 51).toInt := by rw [eσ5]; exact congrArg Int32.toInt (gi_si_ne (Or.inr (by decide)))
  have k_144 : (gi σ5 74 52).toInt = (gi σ4 74 52).toInt := by rw [eσ5]; exact congrArg Int32.toInt (gi_si_ne (Or.inr (by decide)))
  intro σ6 eσ6
  have t_145 := MI_f45 mσ5
  have mσ6 : MI σ6 := by rw [eσ6]; exact MIs_f54 mσ5 (by omega) (by omega)
  have fσ6 : Fr [74, 156, 157, 158, 159, 160, 161, 162, 163, 164, 165, 166, 167, 168] [49, 50, 51, 52, 53, 54, 55] σ0 σ6 := by rw [eσ6]; exact Fr_si fσ5 (by decide) (fun _ => by decide)
  have k_146 : (gi σ6 74 0).toInt = (gi σ5 74 0).toInt := by rw [eσ6]; exact congrArg Int32.toInt (gi_si_ne (Or.inr (by decide)))
  have k_147 : (gi σ6 74 1).toInt = (gi σ5 74 1).toInt := by rw [eσ6]; exact congrArg Int32.toInt (gi_si_ne (Or.inr (by decide)))
  have k_148 : (gi σ6 74 12).toInt = (gi σ5 74 12).toInt := by rw [eσ6]; exact congrArg Int32.toInt (gi_si_ne (Or.inr (by decide)))
  have k_149 : (gi σ6 74 41).toInt = (gi σ5 74 41).toInt := by rw [eσ6]; exact congrArg Int32.toInt (gi_si_ne (Or.inr (by decide)))
  have k_150 : (gi σ6 74 45).toInt = (gi σ5 74 45).toInt := by rw [eσ6]; exact congrArg Int32.toInt (gi_si_ne (Or.inr (by decide)))
  have k_151 : (gi σ6 74 50).toInt = (gi σ5 74 50).toInt := by rw [eσ6]; exact congrArg Int32.toInt (gi_si_ne (Or.inr (by decide)))
  have k_152 : (gi σ6 74 51).toInt = (gi σ5 74 51).toInt := by rw [eσ6]; exact congrArg Int32.toInt (gi_si_ne (Or.inr (by decide)))
  have k_153 : (gi σ6 74 52).toInt = (gi σ5 74 52).toInt := by rw [eσ6]; exact congrArg Int32.toInt (gi_si_ne (Or.inr (by decide)))
  intro σ7 eσ7
  have t_154 := MI_f46 mσ6
  have mσ7 : MI σ7 := by rw [eσ7]; exact MIs_f55 mσ6 (by omega) (by omega)
  have fσ7 : Fr [74, 156, 157, 158, 159, 160, 161, 162, 163, 164, 165, 166, 167, 168] [49, 50, 51, 52, 53, 54, 55] σ0 σ7 := by rw [eσ7]; exact Fr_si fσ6 (by decide) (fun _ => by decide)
  have k_155 : (gi σ7 74 0).toInt = (gi σ6 74 0).toInt := by rw [eσ7]; exact congrArg Int32.toInt (gi_si_ne (Or.inr (by decide)))
  have k_156 : (gi σ7 74 1).toInt = (gi σ6 74 1).toInt := by rw [eσ7]; exact congrArg Int32.toInt (gi_si_ne (Or.inr (by decide)))
  have k_157 : (gi σ7 74 12).toInt = (gi σ6 74 12).toInt := by rw [eσ7]; exact congrArg Int32.toInt (gi_si_ne (Or.inr (by decide)))
  have k_158 : (gi σ7 74 41).toInt = (gi σ6 74 41).toInt := by rw [eσ7]; exact congrArg Int32.toInt (gi_si_ne (Or.inr (by decide)))
  have k_159 : (gi σ7 74 45).toInt = (gi σ6 74 45).toInt := by rw [eσ7]; exact congrArg Int32.toInt (gi_si_ne (Or.inr (by decide)))
  have k_160 : (gi σ7 74 46).toInt = (gi σ6 74 46).toInt := by rw [eσ7]; exact congrArg Int32.toInt (gi_si_ne (Or.inr (by decide)))
  have k_161 : (gi σ7 74 50).toInt = (gi σ6 74 50).toInt := by rw [eσ7]; exact congrArg Int32.toInt (gi_si_ne (Or.inr (by decide)))
  have k_162 : (gi σ7 74 51).toInt = (gi σ6 74 51).toInt := by rw [eσ7]; exact congrArg Int32.toInt (gi_si_ne (Or.inr (by decide)))
  have k_163 : (gi σ7 74 52).toInt = (gi σ6 74 52).toInt := by rw [eσ7]; exact congrArg Int32.toInt (gi_si_ne (Or.inr (by decide)))
  have z_164 : (0 : Int32).toInt = 0 := rfl
  exact U55 (0 : Int32) σ7 mσ7 fσ7 (by omega) (by omega) (by omega)
set_option maxRecDepth 100000 in
set_option maxHeartbeats 4000000 in
theorem k_X12_undo {l : Launch} {V : Vx} {σ0 : Sg} {Qk : Int32 → Sg → Prop} (m0 : MI σ0) (h9ret : ∀ (r : Int32) (σ' : Sg), MI σ' → Fr [74, 103, 104, 105, 106, 107, 108, 109, 110, 142, 143, 144, 147, 148] [0, 1, 2, 12, 41, 45, 46] σ0 σ' → Qk r σ') : K_X12_undo l V σ0 Qk := by
  refine e_X12_undo (fun M hl hV hN C => ?_)
  subst hl
  subst hV
  have T : ∀ n : Nat, (∀ (x1 : Int32) (σ : Sg), MI σ → Fr [74, 103, 104, 105, 106, 107, 108, 109, 110, 142, 143, 144, 147, 148] [0, 1, 2, 12, 41, 45, 46] σ0 σ → (0 ≤ x1.toInt) → (x1.toInt ≤ 6) → (7 - x1.toInt).toNat + 300 < n → PS M 68 [(0, .ref 74), (1, .int x1)] [] σ (0, 0)) ∧ (∀ (x1 : Int32) (σ : Sg), MI σ → Fr [74, 103, 104, 105, 106, 107, 108, 109, 110, 142, 143, 144, 147, 148] [0, 1, 2, 12, 41, 45, 46] σ0 σ → (0 ≤ x1.toInt) → (x1.toInt ≤ 24) → (25 - x1.toInt).toNat + 200 < n → PS M 202 [(0, .ref 74), (1, .int x1)] [] σ (0, 0)) ∧ (∀ (x1 : Int32) (σ : Sg), MI σ → Fr [74, 103, 104, 105, 106, 107, 108, 109, 110, 142, 143, 144, 147, 148] [0, 1, 2, 12, 41, 45, 46] σ0 σ → (0 ≤ x1.toInt) → (x1.toInt ≤ 10) → (11 - x1.toInt).toNat + 100 < n → PS M 228 [(0, .ref 74), (1, .int x1)] [] σ (0, 0)) ∧ (∀ (x1 : Int32) (σ : Sg), MI σ → Fr [74, 103, 104, 105, 106, 107, 108, 109, 110, 142, 143, 144, 147, 148] [0, 1, 2, 12, 41, 45, 46] σ0 σ → (0 ≤ x1.toInt) → (x1.toInt ≤ 8) → (9 - x1.toInt).toNat < n → PS M 254 [(0, .ref 74), (1, .int x1)] [] σ (0, 0)) := by
    intro n
    induction n with
    | zero => exact ⟨fun _ _ _ _ _ _ h8 => absurd h8 (Nat.not_lt_zero _), fun _ _ _ _ _ _ h8 => absurd h8 (Nat.not_lt_zero _), fun _ _ _ _ _ _ h8 => absurd h8 (Nat.not_lt_zero _), fun _ _ _ _ _ _ h8 => absurd h8 (Nat.not_lt_zero _)⟩
    | succ n ih =>
      obtain ⟨ih68, ih202, ih228, ih254⟩ := ih
      refine ⟨?_, ?_, ?_, ?_⟩
      · intro x1 σ mσ fσ lx1 ux1 hmu
        refine s_X12_undo_68 C hN ?_
        refine ⟨?_, ?_⟩
        · intro q_1
          have b_2 : (6 : Int) ≤ x1.toInt := Int32.le_iff_toInt_le.mp q_1
          have z_3 : (0 : Int32).toInt = 0 := rfl
          exact ih202 (0 : Int32) σ mσ fσ (by omega) (by omega) (by omega)
        · intro q_1
          have b_4 : ¬ (6 : Int) ≤ x1.toInt := fun h9 => q_1 (Int32.le_iff_toInt_le.mpr h9)
          have hv_5 : vp_in x1 6 := vp_in_iff.mpr ⟨by omega, by omega⟩
          refine ⟨hv_5, ?_⟩
          refine ⟨hv_5, ?_⟩
          intro σ4 eσ4
          have mσ4 : MI σ4 := by rw [eσ4]; exact MIs_au (a := 103) mσ rfl rfl
          have fσ4 : Fr [74, 103, 104, 105, 106, 107, 108, 109, 110, 142, 143, 144, 147, 148] [0, 1, 2, 12, 41, 45, 46] σ0 σ4 := by rw [eσ4]; exact Fr_si fσ (by decide) (fun h9 => absurd h9 (by decide))
          refine ⟨hv_5, ?_⟩
          refine ⟨hv_5, ?_⟩
          intro σ7 eσ7
          have mσ7 : MI σ7 := by rw [eσ7]; exact MIs_au (a := 104) mσ4 rfl rfl
          have fσ7 : Fr [74, 103, 104, 105, 106, 107, 108, 109, 110, 142, 143, 144, 147, 148] [0, 1, 2, 12, 41, 45, 46] σ0 σ7 := by rw [eσ7]; exact Fr_si fσ4 (by decide) (fun h9 => absurd h9 (by decide))
          refine ⟨hv_5, ?_⟩
          refine ⟨hv_5, ?_⟩
          intro σ10 eσ10
          have t_6 := MI_a158 mσ7 hv_5
          have mσ10 : MI σ10 := by rw [eσ10]; exact MIs_a105 mσ7 (by omega) (by omega)
          have fσ10 : Fr [74, 103, 104, 105, 106, 107, 108, 109, 110, 142, 143, 144, 147, 148] [0, 1, 2, 12, 41, 45, 46] σ0 σ10 := by rw [eσ10]; exact Fr_si fσ7 (by decide) (fun h9 => absurd h9 (by decide))
          refine ⟨hv_5, ?_⟩
          refine ⟨hv_5, ?_⟩
          intro σ13 eσ13
          have mσ13 : MI σ13 := by rw [eσ13]; exact MIs_au (a := 106) mσ10 rfl rfl
          have fσ13 : Fr [74, 103, 104, 105, 106, 107, 108, 109, 110, 142, 143, 144, 147, 148] [0, 1, 2, 12, 41, 45, 46] σ0 σ13 := by rw [eσ13]; exact Fr_si fσ10 (by decide) (fun h9 => absurd h9 (by decide))
          refine ⟨hv_5, ?_⟩
          refine ⟨hv_5, ?_⟩
          intro σ16 eσ16
          have mσ16 : MI σ16 := by rw [eσ16]; exact MIs_au (a := 107) mσ13 rfl rfl
          have fσ16 : Fr [74, 103, 104, 105, 106, 107, 108, 109, 110, 142, 143, 144, 147, 148] [0, 1, 2, 12, 41, 45, 46] σ0 σ16 := by rw [eσ16]; exact Fr_si fσ13 (by decide) (fun h9 => absurd h9 (by decide))
          refine ⟨hv_5, ?_⟩
          refine ⟨hv_5, ?_⟩
          intro σ19 eσ19
          have mσ19 : MI σ19 := by rw [eσ19]; exact MIs_au (a := 108) mσ16 rfl rfl
          have fσ19 : Fr [74, 103, 104, 105, 106, 107, 108, 109, 110, 142, 143, 144, 147, 148] [0, 1, 2, 12, 41, 45, 46] σ0 σ19 := by rw [eσ19]; exact Fr_si fσ16 (by decide) (fun h9 => absurd h9 (by decide))
          refine ⟨hv_5, ?_⟩
          refine ⟨hv_5, ?_⟩
          intro σ22 eσ22
          have t_7 := MI_a162 mσ19 hv_5
          have mσ22 : MI σ22 := by rw [eσ22]; exact MIs_a110 mσ19 (by omega) (by omega)
          have fσ22 : Fr [74, 103, 104, 105, 106, 107, 108, 109, 110, 142, 143, 144, 147, 148] [0, 1, 2, 12, 41, 45, 46] σ0 σ22 := by rw [eσ22]; exact Fr_si fσ19 (by decide) (fun h9 => absurd h9 (by decide))
          refine ⟨hv_5, ?_⟩
          refine ⟨hv_5, ?_⟩
          intro σ25 eσ25
          have t_8 := MI_a164 mσ22 hv_5
          have mσ25 : MI σ25 := by rw [eσ25]; exact MIs_a142 mσ22 (by omega) (by omega)
          have fσ25 : Fr [74, 103, 104, 105, 106, 107, 108, 109, 110, 142, 143, 144, 147, 148] [0, 1, 2, 12, 41, 45, 46] σ0 σ25 := by rw [eσ25]; exact Fr_si fσ22 (by decide) (fun h9 => absurd h9 (by decide))
          refine ⟨hv_5, ?_⟩
          refine ⟨hv_5, ?_⟩
          intro σ28 eσ28
          have t_9 := MI_a165 mσ25 hv_5
          have mσ28 : MI σ28 := by rw [eσ28]; exact MIs_a143 mσ25 (by omega) (by omega)
          have fσ28 : Fr [74, 103, 104, 105, 106, 107, 108, 109, 110, 142, 143, 144, 147, 148] [0, 1, 2, 12, 41, 45, 46] σ0 σ28 := by rw [eσ28]; exact Fr_si fσ25 (by decide) (fun h9 => absurd h9 (by decide))
          refine ⟨hv_5, ?_⟩
          refine ⟨hv_5, ?_⟩
          intro σ31 eσ31
          have mσ31 : MI σ31 := by rw [eσ31]; exact MIs_au (a := 144) mσ28 rfl rfl
          have fσ31 : Fr [74, 103, 104, 105, 106, 107, 108, 109, 110, 142, 143, 144, 147, 148] [0, 1, 2, 12, 41, 45, 46] σ0 σ31 := by rw [eσ31]; exact Fr_si fσ28 (by decide) (fun h9 => absurd h9 (by decide))
          intro v32 ev32
          have t_10 : (x1 + (1 : Int32)).toInt = x1.toInt + 1 := i_add (x := x1) (y := (1 : Int32)) (by show (_ : Int) ≤ x1.toInt + 1; omega) (by show x1.toInt + 1 ≤ (_ : Int); omega)
          have t_11 : v32.toInt = (x1 + (1 : Int32)).toInt := congrArg Int32.toInt ev32
          exact ih68 v32 σ31 mσ31 fσ31 (by omega) (by omega) (by omega)
      · intro x1 σ mσ fσ lx1 ux1 hmu
        refine s_X12_undo_202 C hN ?_
        refine ⟨?_, ?_⟩
        · intro q_12
          have b_13 : (24 : Int) ≤ x1.toInt := Int32.le_iff_toInt_le.mp q_12
          have z_14 : (0 : Int32).toInt = 0 := rfl
          exact ih228 (0 : Int32) σ mσ fσ (by omega) (by omega) (by omega)
        · intro q_12
          have b_15 : ¬ (24 : Int) ≤ x1.toInt := fun h9 => q_12 (Int32.le_iff_toInt_le.mpr h9)
          have hv_16 : vp_in x1 24 := vp_in_iff.mpr ⟨by omega, by omega⟩
          refine ⟨hv_16, ?_⟩
          refine ⟨hv_16, ?_⟩
          intro σ4 eσ4
          have mσ4 : MI σ4 := by rw [eσ4]; exact MIs_au (a := 109) mσ rfl rfl
          have fσ4 : Fr [74, 103, 104, 105, 106, 107, 108, 109, 110, 142, 143, 144, 147, 148] [0, 1, 2, 12, 41, 45, 46] σ0 σ4 := by rw [eσ4]; exact Fr_si fσ (by decide) (fun h9 => absurd h9 (by decide))
          intro v5 ev5
          have t_17 : (x1 + (1 : Int32)).toInt = x1.toInt + 1 := i_add (x := x1) (y := (1 : Int32)) (by show (_ : Int) ≤ x1.toInt + 1; omega) (by show x1.toInt + 1 ≤ (_ : Int); omega)
          have t_18 : v5.toInt = (x1 + (1 : Int32)).toInt := congrArg Int32.toInt ev5
          exact ih202 v5 σ4 mσ4 fσ4 (by omega) (by omega) (by omega)
      · intro x1 σ mσ fσ lx1 ux1 hmu
        refine s_X12_undo_228 C hN ?_
        refine ⟨?_, ?_⟩
        · intro q_19
          have b_20 : (10 : Int) ≤ x1.toInt := Int32.le_iff_toInt_le.mp q_19
          have z_21 : (0 : Int32).toInt = 0 := rfl
          exact ih254 (0 : Int32) σ mσ fσ (by omega) (by omega) (by omega)
        · intro q_19
          have b_22 : ¬ (10 : Int) ≤ x1.toInt := fun h9 => q_19 (Int32.le_iff_toInt_le.mpr h9)
          have hv_23 : vp_in x1 10 := vp_in_iff.mpr ⟨by omega, by omega⟩
          refine ⟨hv_23, ?_⟩
          refine ⟨hv_23, ?_⟩
          intro σ4 eσ4
          have mσ4 : MI σ4 := by rw [eσ4]; exact MIs_au (a := 147) mσ rfl rfl
          have fσ4 : Fr [74, 103, 104, 105, 106, 107, 108, 109, 110, 142, 143, 144, 147, 148] [0, 1, 2, 12, 41, 45, 46] σ0 σ4 := by rw [eσ4]; exact Fr_si fσ (by decide) (fun h9 => absurd h9 (by decide))
          intro v5 ev5
          have t_24 : (x1 + (1 : Int32)).toInt = x1.toInt + 1 := i_add (x := x1) (y := (1 : Int32)) (by show (_ : Int) ≤ x1.toInt + 1; omega) (by show x1.toInt + 1 ≤ (_ : Int); omega)
          have t_25 : v5.toInt = (x1 + (1 : Int32)).toInt := congrArg Int32.toInt ev5
          exact ih228 v5 σ4 mσ4 fσ4 (by omega) (by omega) (by omega)
      · intro x1 σ mσ fσ lx1 ux1 hmu
        refine s_X12_undo_254 C hN ?_
        refine ⟨?_, ?_⟩
        · intro q_26
          have b_27 : (8 : Int) ≤ x1.toInt := Int32.le_iff_toInt_le.mp q_26
          exact h9ret (gi σ 74 0) σ mσ fσ
        · intro q_26
          have b_28 : ¬ (8 : Int) ≤ x1.toInt := fun h9 => q_26 (Int32.le_iff_toInt_le.mpr h9)
          have hv_29 : vp_in x1 8 := vp_in_iff.mpr ⟨by omega, by omega⟩
          refine ⟨hv_29, ?_⟩
          refine ⟨hv_29, ?_⟩
          intro σ4 eσ4
          have mσ4 : MI σ4 := by rw [eσ4]; exact MIs_au (a := 148) mσ rfl rfl
          have fσ4 : Fr [74, 103, 104, 105, 106, 107, 108, 109, 110, 142, 143, 144, 147, 148] [0, 1, 2, 12, 41, 45, 46] σ0 σ4 := by rw [eσ4]; exact Fr_si fσ (by decide) (fun h9 => absurd h9 (by decide))
          intro v5 ev5
          have t_30 : (x1 + (1 : Int32)).toInt = x1.toInt + 1 := i_add (x := x1) (y := (1 : Int32)) (by show (_ : Int) ≤ x1.toInt + 1; omega) (by show x1.toInt + 1 ≤ (_ : Int); omega)
          have t_31 : v5.toInt = (x1 + (1 : Int32)).toInt := congrArg Int32.toInt ev5
          exact ih254 v5 σ4 mσ4 fσ4 (by omega) (by omega) (by omega)
  obtain ⟨U68, U202, U228, U254⟩ := T 900
  have f0 : Fr [74, 103, 104, 105, 106, 107, 108, 109, 110, 142, 143, 144, 147, 148] [0, 1, 2, 12, 41, 45, 46] σ0 σ0 := Fr_rf
  refine s_X12_undo_0 C hN ?_
  refine ⟨?_, ?_⟩
  · intro q_32
    have b_33 : ¬ (gi σ0 74 49).toInt = 0 := fun h9 => q_32 (Int32.toInt_inj.mp h9)
    intro σ2 eσ2
    have t_34 := MI_f50 m0
    have mσ2 : MI σ2 := by rw [eσ2]; exact MIs_f12 m0 (by omega) (by omega) (FV_copy m0.2.2 (Or.inl rfl) (Or.inr rfl))
    have fσ2 : Fr [74, 103, 104, 105, 106, 107, 108, 109, 110, 142, 143, 144, 147, 148] [0, 1, 2, 12, 41, 45, 46] σ0 σ2 := by rw [eσ2]; exact Fr_si f0 (by decide) (fun _ => by decide)
    have k_35 : (gi σ2 74 49).toInt = (gi σ0 74 49).toInt := by rw [eσ2]; exact congrArg Int32.toInt (gi_si_ne (Or.inr (by decide)))
    have k_36 : (gi σ2 74 50).toInt = (gi σ0 74 50).toInt := by rw [eσ2]; exact congrArg Int32.toInt (gi_si_ne (Or.inr (by decide)))
    intro σ3 eσ3
    have t_37 := MI_f51 mσ2
    have mσ3 : MI σ3 := by rw [eσ3]; exact MIs_f0 mσ2 (by omega) (by omega)
    have fσ3 : Fr [74, 103, 104, 105, 106, 107, 108, 109, 110, 142, 143, 144, 147, 148] [0, 1, 2, 12, 41, 45, 46] σ0 σ3 := by rw [eσ3]; exact Fr_si fσ2 (by decide) (fun _ => by decide)
    have k_38 : (gi σ3 74 49).toInt = (gi σ2 74 49).toInt := by rw [eσ3]; exact congrArg Int32.toInt (gi_si_ne (Or.inr (by decide)))
    have k_39 : (gi σ3 74 50).toInt = (gi σ2 74 50).toInt := by rw [eσ3]; exact congrArg Int32.toInt (gi_si_ne (Or.inr (by decide)))
    have k_40 : (gi σ3 74 51).toInt = (gi σ2 74 51).toInt := by rw [eσ3]; exact congrArg Int32.toInt (gi_si_ne (Or.inr (by decide)))
    intro σ4 eσ4
    have t_41 := MI_f51 mσ3
    have mσ4 : MI σ4 := by rw [eσ4]; exact MIs_f2 mσ3 (by omega) (by omega)
    have fσ4 : Fr [74, 103, 104, 105, 106, 107, 108, 109, 110, 142, 143, 144, 147, 148] [0, 1, 2, 12, 41, 45, 46] σ0 σ4 := by rw [eσ4]; exact Fr_si fσ3 (by decide) (fun _ => by decide)
    have k_42 : (gi σ4 74 49).toInt = (gi σ3 74 49).toInt := by rw [eσ4]; exact congrArg Int32.toInt (gi_si_ne (Or.inr (by decide)))
    have k_43 : (gi σ4 74 50).toInt = (gi σ3 74 50).toInt := by rw [eσ4]; exact congrArg Int32.toInt (gi_si_ne (Or.inr (by decide)))
    have k_44 : (gi σ4 74 51).toInt = (gi σ3 74 51).toInt := by rw [eσ4]; exact congrArg Int32.toInt (gi_si_ne (Or.inr (by decide)))
    intro σ5 eσ5
    have t_45 := MI_f52 mσ4
    have mσ5 : MI σ5 := by rw [eσ5]; exact MIs_f1 mσ4 (by omega) (by omega)
    have fσ5 : Fr [74, 103, 104, 105, 106, 107, 108, 109, 110, 142, 143, 144, 147, 148] [0, 1, 2, 12, 41, 45, 46] σ0 σ5 := by rw [eσ5]; exact Fr_si fσ4 (by decide) (fun _ => by decide)
    have k_46 : (gi σ5 74 49).toInt = (gi σ4 74 49).toInt := by rw [eσ5]; exact congrArg Int32.toInt (gi_si_ne (Or.inr (by decide)))
    have k_47 : (gi σ5 74 50).toInt = (gi σ4 74 50).toInt := by rw [eσ5]; exact congrArg Int32.toInt (gi_si_ne (Or.inr (by decide)))
    have k_48 : (gi σ5 74 51).toInt = (gi σ4 74 51).toInt := by rw [eσ5]; exact congrArg Int32.toInt (gi_si_ne (Or.inr (by decide)))
    have k_49 : (gi σ5 74 52).toInt = (gi σ4 74 52).toInt := by rw [eσ5]; exact congrArg Int32.toInt (gi_si_ne (Or.inr (by decide)))
    intro σ6 eσ6
    have t_50 := MI_f53 mσ5
    have mσ6 : MI σ6 := by rw [eσ6]; exact MIs_f41 mσ5 (by omega) (by omega)
    have fσ6 : Fr [74, 103, 104, 105, 106, 107, 108, 109, 110, 142, 143, 144, 147, 148] [0, 1, 2, 12, 41, 45, 46] σ0 σ6 := by rw [eσ6]; exact Fr_si fσ5 (by decide) (fun _ => by decide)
    have k_51 : (gi σ6 74 49).toInt = (gi σ5 74 49).toInt := by rw [eσ6]; exact congrArg Int32.toInt (gi_si_ne (Or.inr (by decide)))
    have k_52 : (gi σ6 74 50).toInt = (gi σ5 74 50).toInt := by rw [eσ6]; exact congrArg Int32.toInt (gi_si_ne (Or.inr (by decide)))
    have k_53 : (gi σ6 74 51).toInt = (gi σ5 74 51).toInt := by rw [eσ6]; exact congrArg Int32.toInt (gi_si_ne (Or.inr (by decide)))
    have k_54 : (gi σ6 74 52).toInt = (gi σ5 74 52).toInt := by rw [eσ6]; exact congrArg Int32.toInt (gi_si_ne (Or.inr (by decide)))
    have k_55 : (gi σ6 74 53).toInt = (gi σ5 74 53).toInt := by rw [eσ6]; exact congrArg Int32.toInt (gi_si_ne (Or.inr (by decide)))
    intro σ7 eσ7
    have t_56 := MI_f54 mσ6
    have mσ7 : MI σ7 := by rw [eσ7]; exact MIs_f45 mσ6 (by omega) (by omega)
    have fσ7 : Fr [74, 103, 104, 105, 106, 107, 108, 109, 110, 142, 143, 144, 147, 148] [0, 1, 2, 12, 41, 45, 46] σ0 σ7 := by rw [eσ7]; exact Fr_si fσ6 (by decide) (fun _ => by decide)
    have k_57 : (gi σ7 74 49).toInt = (gi σ6 74 49).toInt := by rw [eσ7]; exact congrArg Int32.toInt (gi_si_ne (Or.inr (by decide)))
    have k_58 : (gi σ7 74 50).toInt = (gi σ6 74 50).toInt := by rw [eσ7]; exact congrArg Int32.toInt (gi_si_ne (Or.inr (by decide)))
    have k_59 : (gi σ7 74 51).toInt = (gi σ6 74 51).toInt := by rw [eσ7]; exact congrArg Int32.toInt (gi_si_ne (Or.inr (by decide)))
    have k_60 : (gi σ7 74 52).toInt = (gi σ6 74 52).toInt := by rw [eσ7]; exact congrArg Int32.toInt (gi_si_ne (Or.inr (by decide)))
    have k_61 : (gi σ7 74 53).toInt = (gi σ6 74 53).toInt := by rw [eσ7]; exact congrArg Int32.toInt (gi_si_ne (Or.inr (by decide)))
    have k_62 : (gi σ7 74 54).toInt = (gi σ6 74 54).toInt := by rw [eσ7]; exact congrArg Int32.toInt (gi_si_ne (Or.inr (by decide)))
    intro σ8 eσ8
    have t_63 := MI_f55 mσ7
    have mσ8 : MI σ8 := by rw [eσ8]; exact MIs_f46 mσ7 (by omega) (by omega)
    have fσ8 : Fr [74, 103, 104, 105, 106, 107, 108, 109, 110, 142, 143, 144, 147, 148] [0, 1, 2, 12, 41, 45, 46] σ0 σ8 := by rw [eσ8]; exact Fr_si fσ7 (by decide) (fun _ => by decide)
    have k_64 : (gi σ8 74 49).toInt = (gi σ7 74 49).toInt := by rw [eσ8]; exact congrArg Int32.toInt (gi_si_ne (Or.inr (by decide)))
    have k_65 : (gi σ8 74 50).toInt = (gi σ7 74 50).toInt := by rw [eσ8]; exact congrArg Int32.toInt (gi_si_ne (Or.inr (by decide)))
    have k_66 : (gi σ8 74 51).toInt = (gi σ7 74 51).toInt := by rw [eσ8]; exact congrArg Int32.toInt (gi_si_ne (Or.inr (by decide)))
    have k_67 : (gi σ8 74 52).toInt = (gi σ7 74 52).toInt := by rw [eσ8]; exact congrArg Int32.toInt (gi_si_ne (Or.inr (by decide)))
    have k_68 : (gi σ8 74 53).toInt = (gi σ7 74 53).toInt := by rw [eσ8]; exact congrArg Int32.toInt (gi_si_ne (Or.inr (by decide)))
    have k_69 : (gi σ8 74 54).toInt = (gi σ7 74 54).toInt := by rw [eσ8]; exact congrArg Int32.toInt (gi_si_ne (Or.inr (by decide)))
    have k_70 : (gi σ8 74 55).toInt = (gi σ7 74 55).toInt := by rw [eσ8]; exact congrArg Int32.toInt (gi_si_ne (Or.inr (by decide)))
    have z_71 : (0 : Int32).toInt = 0 := rfl
    exact U68 (0 : Int32) σ8 mσ8 fσ8 (by omega) (by omega) (by omega)
  · intro q_32
    have b_72 : (gi σ0 74 49).toInt = 0 := congrArg Int32.toInt q_32
    have z_73 : (-3 : Int32).toInt = -3 := rfl
    exact h9ret (-3 : Int32) σ0 m0 f0
