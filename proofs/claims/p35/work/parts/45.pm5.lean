set_option maxRecDepth 100000 in
set_option maxHeartbeats 4000000 in
theorem k_X12_see {l : Launch} {V : Vx} {a1 : Int32} {a2 : Int32} {a3 : Int32} {σ0 : Sg} {Qk : Int32 → Sg → Prop} (m0 : MI σ0) (h9ret : ∀ (r : Int32) (σ' : Sg), MI σ' → Fr [74, 142, 143, 144] [41] σ0 σ' → Qk r σ') : K_X12_see l V a1 a2 a3 σ0 Qk := by
  refine e_X12_see (fun M hl hV hN C => ?_)
  subst hl
  subst hV
  have f0 : Fr [74, 142, 143, 144] [41] σ0 σ0 := Fr_rf
  refine s_X12_see_0 C hN ?_
  refine ⟨?_, ?_⟩
  · intro q_1
    have w_2 := Int32.toInt_lt a1
    have w_3 := Int32.le_toInt a1
    have b_4 : ¬ a1.toInt = (-1) := fun h9 => q_1 (Int32.toInt_inj.mp h9)
    refine k_X12_isMower m0  (fun r3 σ2 mσ2 cσ2 plσ2 phσ2 (pσ2_0 : (r3.toInt = 1 ∧ 0 ≤ a1.toInt ∧ a1.toInt < (gi σ0 74 0).toInt) ∨ (r3.toInt = 0 ∧ (a1.toInt < 0 ∨ (gi σ0 74 0).toInt ≤ a1.toInt))) => ?_)
    obtain rfl := Fr_nil cσ2
    have t_5 := MI_f0 m0
    refine ⟨?_, ?_⟩
    · intro q_6
      have b_7 : ¬ r3.toInt = 0 := fun h9 => q_6 (Int32.toInt_inj.mp h9)
      refine k_X12_in m0  (fun r6 σ5 mσ5 cσ5 plσ5 phσ5 (pσ5_0 : (r6.toInt = 1 ∧ (0 : Int) ≤ a2.toInt ∧ a2.toInt ≤ (30 : Int)) ∨ (r6.toInt = 0 ∧ (a2.toInt < (0 : Int) ∨ (30 : Int) < a2.toInt))) => ?_)
      obtain rfl := Fr_nil cσ5
      refine ⟨?_, ?_⟩
      · intro q_8
        have b_9 : r6.toInt = 0 := congrArg Int32.toInt q_8
        have z_10 : (-2 : Int32).toInt = -2 := rfl
        exact h9ret (-2 : Int32) σ0 m0 f0
      · intro q_8
        have b_11 : ¬ r6.toInt = 0 := fun h9 => q_8 (Int32.toInt_inj.mp h9)
        refine k_X12_in m0  (fun r9 σ8 mσ8 cσ8 plσ8 phσ8 (pσ8_0 : (r9.toInt = 1 ∧ (0 : Int) ≤ a3.toInt ∧ a3.toInt ≤ (9999 : Int)) ∨ (r9.toInt = 0 ∧ (a3.toInt < (0 : Int) ∨ (9999 : Int) < a3.toInt))) => ?_)
        obtain rfl := Fr_nil cσ8
        refine ⟨?_, ?_⟩
        · intro q_12
          have b_13 : ¬ r9.toInt = 0 := fun h9 => q_12 (Int32.toInt_inj.mp h9)
          refine ⟨?_, ?_⟩
          · intro q_14
            have t_15 := MI_f41 m0
            have b_16 : ¬ (gi σ0 74 41).toInt = 6 := fun h9 => q_14 (Int32.toInt_inj.mp h9)
            have hv_17 : vp_in (gi σ0 74 41) 6 := vp_in_iff.mpr ⟨by omega, by omega⟩
            refine ⟨hv_17, ?_⟩
            intro σ13 eσ13
            have mσ13 : MI σ13 := by rw [eσ13]; exact MIs_a142 m0 (by omega) (by omega)
            have fσ13 : Fr [74, 142, 143, 144] [41] σ0 σ13 := by rw [eσ13]; exact Fr_si f0 (by decide) (fun h9 => absurd h9 (by decide))
            have k_18 : (gi σ13 74 0).toInt = (gi σ0 74 0).toInt := by rw [eσ13]; exact congrArg Int32.toInt (gi_si_ne (Or.inl (by decide)))
            have k_19 : (gi σ13 74 41).toInt = (gi σ0 74 41).toInt := by rw [eσ13]; exact congrArg Int32.toInt (gi_si_ne (Or.inl (by decide)))
            have t_20 := MI_f41 mσ13
            have hv_21 : vp_in (gi σ13 74 41) 6 := vp_in_iff.mpr ⟨by omega, by omega⟩
            refine ⟨hv_21, ?_⟩
            intro σ15 eσ15
            have w_22 := Int32.toInt_lt a2
            have w_23 := Int32.le_toInt a2
            have mσ15 : MI σ15 := by rw [eσ15]; exact MIs_a143 mσ13 (by omega) (by omega)
            have fσ15 : Fr [74, 142, 143, 144] [41] σ0 σ15 := by rw [eσ15]; exact Fr_si fσ13 (by decide) (fun h9 => absurd h9 (by decide))
            have k_24 : (gi σ15 74 0).toInt = (gi σ13 74 0).toInt := by rw [eσ15]; exact congrArg Int32.toInt (gi_si_ne (Or.inl (by decide)))
            have k_25 : (gi σ15 74 41).toInt = (gi σ13 74 41).toInt := by rw [eσ15]; exact congrArg Int32.toInt (gi_si_ne (Or.inl (by decide)))
            have t_26 := MI_f41 mσ15
            have hv_27 : vp_in (gi σ15 74 41) 6 := vp_in_iff.mpr ⟨by omega, by omega⟩
            refine ⟨hv_27, ?_⟩
            intro σ17 eσ17
            have mσ17 : MI σ17 := by rw [eσ17]; exact MIs_au (a := 144) mσ15 rfl rfl
            have fσ17 : Fr [74, 142, 143, 144] [41] σ0 σ17 := by rw [eσ17]; exact Fr_si fσ15 (by decide) (fun h9 => absurd h9 (by decide))
            have k_28 : (gi σ17 74 0).toInt = (gi σ15 74 0).toInt := by rw [eσ17]; exact congrArg Int32.toInt (gi_si_ne (Or.inl (by decide)))
            have k_29 : (gi σ17 74 41).toInt = (gi σ15 74 41).toInt := by rw [eσ17]; exact congrArg Int32.toInt (gi_si_ne (Or.inl (by decide)))
            intro σ18 eσ18
            have t_30 := MI_f41 mσ17
            have t_31 : ((gi σ17 74 41) + (1 : Int32)).toInt = (gi σ17 74 41).toInt + 1 := i_add (x := (gi σ17 74 41)) (y := (1 : Int32)) (by show (_ : Int) ≤ (gi σ17 74 41).toInt + 1; omega) (by show (gi σ17 74 41).toInt + 1 ≤ (_ : Int); omega)
            have mσ18 : MI σ18 := by rw [eσ18]; exact MIs_f41 mσ17 (by omega) (by omega)
            have fσ18 : Fr [74, 142, 143, 144] [41] σ0 σ18 := by rw [eσ18]; exact Fr_si fσ17 (by decide) (fun _ => by decide)
            have k_32 : (gi σ18 74 0).toInt = (gi σ17 74 0).toInt := by rw [eσ18]; exact congrArg Int32.toInt (gi_si_ne (Or.inr (by decide)))
            have k_33 : (gi σ18 74 41).toInt = ((gi σ17 74 41) + (1 : Int32)).toInt := by rw [eσ18]; exact congrArg Int32.toInt gi_si_eq
            exact h9ret (gi σ18 74 41) σ18 mσ18 fσ18
          · intro q_14
            have t_34 := MI_f41 m0
            have b_35 : (gi σ0 74 41).toInt = 6 := congrArg Int32.toInt q_14
            have z_36 : (-4 : Int32).toInt = -4 := rfl
            exact h9ret (-4 : Int32) σ0 m0 f0
        · intro q_12
          have b_37 : r9.toInt = 0 := congrArg Int32.toInt q_12
          have z_38 : (-2 : Int32).toInt = -2 := rfl
          exact h9ret (-2 : Int32) σ0 m0 f0
    · intro q_6
      have b_39 : r3.toInt = 0 := congrArg Int32.toInt q_6
      have z_40 : (-1 : Int32).toInt = -1 := rfl
      exact h9ret (-1 : Int32) σ0 m0 f0
  · intro q_1
    have w_41 := Int32.toInt_lt a1
    have w_42 := Int32.le_toInt a1
    have b_43 : a1.toInt = (-1) := congrArg Int32.toInt q_1
    intro σ19 eσ19
    have z_44 : (0 : Int32).toInt = 0 := rfl
    have mσ19 : MI σ19 := by rw [eσ19]; exact MIs_f41 m0 (by omega) (by omega)
    have fσ19 : Fr [74, 142, 143, 144] [41] σ0 σ19 := by rw [eσ19]; exact Fr_si f0 (by decide) (fun _ => by decide)
    exact h9ret (0 : Int32) σ19 mσ19 fσ19
set_option maxRecDepth 100000 in
set_option maxHeartbeats 4000000 in
theorem k_X12_plan {l : Launch} {V : Vx} {a1 : Int32} {σ0 : Sg} {Qk : Int32 → Sg → Prop} (m0 : MI σ0) (h9ret : ∀ (r : Int32) (σ' : Sg), MI σ' → Fr [74, 147] [45] σ0 σ' → Qk r σ') : K_X12_plan l V a1 σ0 Qk := by
  refine e_X12_plan (fun M hl hV hN C => ?_)
  subst hl
  subst hV
  have f0 : Fr [74, 147] [45] σ0 σ0 := Fr_rf
  refine s_X12_plan_0 C hN ?_
  refine ⟨?_, ?_⟩
  · intro q_1
    have w_2 := Int32.toInt_lt a1
    have w_3 := Int32.le_toInt a1
    have b_4 : ¬ a1.toInt = (-1) := fun h9 => q_1 (Int32.toInt_inj.mp h9)
    refine k_X12_in m0  (fun r3 σ2 mσ2 cσ2 plσ2 phσ2 (pσ2_0 : (r3.toInt = 1 ∧ (0 : Int) ≤ a1.toInt ∧ a1.toInt ≤ (2 : Int)) ∨ (r3.toInt = 0 ∧ (a1.toInt < (0 : Int) ∨ (2 : Int) < a1.toInt))) => ?_)
    obtain rfl := Fr_nil cσ2
    refine ⟨?_, ?_⟩
    · intro q_5
      have b_6 : ¬ r3.toInt = 0 := fun h9 => q_5 (Int32.toInt_inj.mp h9)
      refine ⟨?_, ?_⟩
      · intro q_7
        have t_8 := MI_f45 m0
        have b_9 : ¬ (gi σ0 74 45).toInt = 10 := fun h9 => q_7 (Int32.toInt_inj.mp h9)
        have hv_10 : vp_in (gi σ0 74 45) 10 := vp_in_iff.mpr ⟨by omega, by omega⟩
        refine ⟨hv_10, ?_⟩
        intro σ7 eσ7
        have mσ7 : MI σ7 := by rw [eσ7]; exact MIs_au (a := 147) m0 rfl rfl
        have fσ7 : Fr [74, 147] [45] σ0 σ7 := by rw [eσ7]; exact Fr_si f0 (by decide) (fun h9 => absurd h9 (by decide))
        have k_11 : (gi σ7 74 45).toInt = (gi σ0 74 45).toInt := by rw [eσ7]; exact congrArg Int32.toInt (gi_si_ne (Or.inl (by decide)))
        intro σ8 eσ8
        have t_12 := MI_f45 mσ7
        have t_13 : ((gi σ7 74 45) + (1 : Int32)).toInt = (gi σ7 74 45).toInt + 1 := i_add (x := (gi σ7 74 45)) (y := (1 : Int32)) (by show (_ : Int) ≤ (gi σ7 74 45).toInt + 1; omega) (by show (gi σ7 74 45).toInt + 1 ≤ (_ : Int); omega)
        have mσ8 : MI σ8 := by rw [eσ8]; exact MIs_f45 mσ7 (by omega) (by omega)
        have fσ8 : Fr [74, 147] [45] σ0 σ8 := by rw [eσ8]; exact Fr_si fσ7 (by decide) (fun _ => by decide)
        have k_14 : (gi σ8 74 45).toInt = ((gi σ7 74 45) + (1 : Int32)).toInt := by rw [eσ8]; exact congrArg Int32.toInt gi_si_eq
        exact h9ret (gi σ8 74 45) σ8 mσ8 fσ8
      · intro q_7
        have t_15 := MI_f45 m0
        have b_16 : (gi σ0 74 45).toInt = 10 := congrArg Int32.toInt q_7
        have z_17 : (-4 : Int32).toInt = -4 := rfl
        exact h9ret (-4 : Int32) σ0 m0 f0
    · intro q_5
      have b_18 : r3.toInt = 0 := congrArg Int32.toInt q_5
      have z_19 : (-1 : Int32).toInt = -1 := rfl
      exact h9ret (-1 : Int32) σ0 m0 f0
  · intro q_1
    have w_20 := Int32.toInt_lt a1
    have w_21 := Int32.le_toInt a1
    have b_22 : a1.toInt = (-1) := congrArg Int32.toInt q_1
    intro σ9 eσ9
    have z_23 : (0 : Int32).toInt = 0 := rfl
    have mσ9 : MI σ9 := by rw [eσ9]; exact MIs_f45 m0 (by omega) (by omega)
    have fσ9 : Fr [74, 147] [45] σ0 σ9 := by rw [eσ9]; exact Fr_si f0 (by decide) (fun _ => by decide)
    exact h9ret (0 : Int32) σ9 mσ9 fσ9
set_option maxRecDepth 100000 in
set_option maxHeartbeats 4000000 in
theorem k_X12_book {l : Launch} {V : Vx} {a1 : Int32} {σ0 : Sg} {Qk : Int32 → Sg → Prop} (m0 : MI σ0) (h9ret : ∀ (r : Int32) (σ' : Sg), MI σ' → Fr [74, 148] [46] σ0 σ' → Qk r σ') : K_X12_book l V a1 σ0 Qk := by
  refine e_X12_book (fun M hl hV hN C => ?_)
  subst hl
  subst hV
  have f0 : Fr [74, 148] [46] σ0 σ0 := Fr_rf
  refine s_X12_book_0 C hN ?_
  refine ⟨?_, ?_⟩
  · intro q_1
    have w_2 := Int32.toInt_lt a1
    have w_3 := Int32.le_toInt a1
    have b_4 : ¬ a1.toInt = (-1) := fun h9 => q_1 (Int32.toInt_inj.mp h9)
    refine k_X12_isMower m0  (fun r3 σ2 mσ2 cσ2 plσ2 phσ2 (pσ2_0 : (r3.toInt = 1 ∧ 0 ≤ a1.toInt ∧ a1.toInt < (gi σ0 74 0).toInt) ∨ (r3.toInt = 0 ∧ (a1.toInt < 0 ∨ (gi σ0 74 0).toInt ≤ a1.toInt))) => ?_)
    obtain rfl := Fr_nil cσ2
    have t_5 := MI_f0 m0
    refine ⟨?_, ?_⟩
    · intro q_6
      have b_7 : ¬ r3.toInt = 0 := fun h9 => q_6 (Int32.toInt_inj.mp h9)
      refine ⟨?_, ?_⟩
      · intro q_8
        have t_9 := MI_f46 m0
        have b_10 : ¬ (gi σ0 74 46).toInt = 8 := fun h9 => q_8 (Int32.toInt_inj.mp h9)
        have hv_11 : vp_in (gi σ0 74 46) 8 := vp_in_iff.mpr ⟨by omega, by omega⟩
        refine ⟨hv_11, ?_⟩
        intro σ7 eσ7
        have mσ7 : MI σ7 := by rw [eσ7]; exact MIs_au (a := 148) m0 rfl rfl
        have fσ7 : Fr [74, 148] [46] σ0 σ7 := by rw [eσ7]; exact Fr_si f0 (by decide) (fun h9 => absurd h9 (by decide))
        have k_12 : (gi σ7 74 0).toInt = (gi σ0 74 0).toInt := by rw [eσ7]; exact congrArg Int32.toInt (gi_si_ne (Or.inl (by decide)))
        have k_13 : (gi σ7 74 46).toInt = (gi σ0 74 46).toInt := by rw [eσ7]; exact congrArg Int32.toInt (gi_si_ne (Or.inl (by decide)))
        intro σ8 eσ8
        have t_14 := MI_f46 mσ7
        have t_15 : ((gi σ7 74 46) + (1 : Int32)).toInt = (gi σ7 74 46).toInt + 1 := i_add (x := (gi σ7 74 46)) (y := (1 : Int32)) (by show (_ : Int) ≤ (gi σ7 74 46).toInt + 1; omega) (by show (gi σ7 74 46).toInt + 1 ≤ (_ : Int); omega)
        have mσ8 : MI σ8 := by rw [eσ8]; exact MIs_f46 mσ7 (by omega) (by omega)
        have fσ8 : Fr [74, 148] [46] σ0 σ8 := by rw [eσ8]; exact Fr_si fσ7 (by decide) (fun _ => by decide)
        have k_16 : (gi σ8 74 0).toInt = (gi σ7 74 0).toInt := by rw [eσ8]; exact congrArg Int32.toInt (gi_si_ne (Or.inr (by decide)))
        have k_17 : (gi σ8 74 46).toInt = ((gi σ7 74 46) + (1 : Int32)).toInt := by rw [eσ8]; exact congrArg Int32.toInt gi_si_eq
        exact h9ret (gi σ8 74 46) σ8 mσ8 fσ8
      · intro q_8
        have t_18 := MI_f46 m0
        have b_19 : (gi σ0 74 46).toInt = 8 := congrArg Int32.toInt q_8
        have z_20 : (-4 : Int32).toInt = -4 := rfl
        exact h9ret (-4 : Int32) σ0 m0 f0
    · intro q_6
      have b_21 : r3.toInt = 0 := congrArg Int32.toInt q_6
      have z_22 : (-1 : Int32).toInt = -1 := rfl
      exact h9ret (-1 : Int32) σ0 m0 f0
  · intro q_1
    have w_23 := Int32.toInt_lt a1
    have w_24 := Int32.le_toInt a1
    have b_25 : a1.toInt = (-1) := congrArg Int32.toInt q_1
    intro σ9 eσ9
    have z_26 : (0 : Int32).toInt = 0 := rfl
    have mσ9 : MI σ9 := by rw [eσ9]; exact MIs_f46 m0 (by omega) (by omega)
    have fσ9 : Fr [74, 148] [46] σ0 σ9 := by rw [eσ9]; exact Fr_si f0 (by decide) (fun _ => by decide)
    exact h9ret (0 : Int32) σ9 mσ9 fσ9
set_option maxRecDepth 100000 in
set_option maxHeartbeats 4000000 in
theorem k_X12_apart {l : Launch} {V : Vx} {a1 : Int32} {a2 : Int32} {σ0 : Sg} {Qk : Int32 → Sg → Prop} (m0 : MI σ0) (pre0 : (gi σ0 74 1).toInt ≤ 9999) (h9ret : ∀ (r : Int32) (σ' : Sg), MI σ' → Fr [74, 105, 106, 107, 108, 129, 131, 132, 134, 135, 136, 137] [1, 28, 30, 33] σ0 σ' → ((gi σ' 74 1).toInt = (gi σ0 74 1).toInt) → Qk r σ') : K_X12_apart l V a1 a2 σ0 Qk := by
  refine e_X12_apart (fun M hl hV hN C => ?_)
  subst hl
  subst hV
  have T : ∀ n : Nat, (∀ (x1 : Int32) (x2 : Int32) (x3 : Int32) (x4 : Int32) (x5 : Int32) (σ : Sg), MI σ → Fr [74, 105, 106, 107, 108, 129, 131, 132, 134, 135, 136, 137] [1, 28, 30, 33] σ0 σ → (1 ≤ x1.toInt) → (x1.toInt ≤ 60) → (0 ≤ x5.toInt) → (x5.toInt ≤ 10) → ((gi σ 74 1).toInt = (gi σ0 74 1).toInt) → (11 - x5.toInt).toNat < n → PS M 34 [(0, .ref 74), (1, .int x1), (2, .int x2), (3, .int x3), (4, .int x4), (5, .int x5)] [] σ (0, 0)) := by
    intro n
    induction n with
    | zero => exact fun _ _ _ _ _ _ _ _ _ _ _ _ _ h8 => absurd h8 (Nat.not_lt_zero _)
    | succ n ih =>
      have ih34 := ih
      · intro x1 x2 x3 x4 x5 σ mσ fσ lx1 ux1 lx5 ux5 i0 hmu
        refine s_X12_apart_34 C hN ?_
        refine ⟨?_, ?_⟩
        · intro q_1
          have b_2 : (10 : Int) ≤ x5.toInt := Int32.le_iff_toInt_le.mp q_1
          intro σ2 eσ2
          have mσ2 : MI σ2 := by rw [eσ2]; exact MIs_fu mσ (by decide)
          have fσ2 : Fr [74, 105, 106, 107, 108, 129, 131, 132, 134, 135, 136, 137] [1, 28, 30, 33] σ0 σ2 := by rw [eσ2]; exact Fr_si fσ (by decide) (fun _ => by decide)
          have k_3 : (gi σ2 74 1).toInt = (gi σ 74 1).toInt := by rw [eσ2]; exact congrArg Int32.toInt (gi_si_ne (Or.inr (by decide)))
          refine ⟨?_, ?_⟩
          · intro q_4
            have w_5 := Int32.toInt_lt x2
            have w_6 := Int32.le_toInt x2
            have b_7 : ¬ x2.toInt = 0 := fun h9 => q_4 (Int32.toInt_inj.mp h9)
            exact h9ret x4 σ2 mσ2 fσ2 (by first | omega | assumption | rfl)
          · intro q_4
            have w_8 := Int32.toInt_lt x2
            have w_9 := Int32.le_toInt x2
            have b_10 : x2.toInt = 0 := congrArg Int32.toInt q_4
            exact h9ret x3 σ2 mσ2 fσ2 (by first | omega | assumption | rfl)
        · intro q_1
          have b_11 : ¬ (10 : Int) ≤ x5.toInt := fun h9 => q_1 (Int32.le_iff_toInt_le.mpr h9)
          intro σ4 eσ4
          have mσ4 : MI σ4 := by rw [eσ4]; exact MIs_fu mσ (by decide)
          have fσ4 : Fr [74, 105, 106, 107, 108, 129, 131, 132, 134, 135, 136, 137] [1, 28, 30, 33] σ0 σ4 := by rw [eσ4]; exact Fr_si fσ (by decide) (fun _ => by decide)
          have k_12 : (gi σ4 74 1).toInt = (gi σ 74 1).toInt := by rw [eσ4]; exact congrArg Int32.toInt (gi_si_ne (Or.inr (by decide)))
          refine k_X12_allBehind mσ4 (by omega) (by omega) (by first | omega | assumption | rfl) (fun r6 σ5 mσ5 cσ5 plσ5 phσ5 (pσ5_0 : (gi σ5 74 1).toInt = (gi σ4 74 1).toInt) => ?_)
          have fσ5 : Fr [74, 105, 106, 107, 108, 129, 131, 132, 134, 135, 136, 137] [1, 28, 30, 33] σ0 σ5 := Fr_tr fσ4 cσ5 (by decide) (by decide)
          refine ⟨?_, ?_⟩
          · intro q_13
            have w_14 := Int32.toInt_lt x4
            have w_15 := Int32.le_toInt x4
            have b_16 : x4.toInt < r6.toInt := Int32.lt_iff_toInt_lt.mp q_13
            intro v8 ev8
            have t_17 : (x5 + (1 : Int32)).toInt = x5.toInt + 1 := i_add (x := x5) (y := (1 : Int32)) (by show (_ : Int) ≤ x5.toInt + 1; omega) (by show x5.toInt + 1 ≤ (_ : Int); omega)
            have t_18 : v8.toInt = (x5 + (1 : Int32)).toInt := congrArg Int32.toInt ev8
            exact ih34 x1 x2 x5 r6 v8 σ5 mσ5 fσ5 (by omega) (by omega) (by omega) (by omega) (by first | omega | assumption | rfl) (by omega)
          · intro q_13
            have w_19 := Int32.toInt_lt x4
            have w_20 := Int32.le_toInt x4
            have b_21 : ¬ x4.toInt < r6.toInt := fun h9 => q_13 (Int32.lt_iff_toInt_lt.mpr h9)
            intro v9 ev9
            have t_22 : (x5 + (1 : Int32)).toInt = x5.toInt + 1 := i_add (x := x5) (y := (1 : Int32)) (by show (_ : Int) ≤ x5.toInt + 1; omega) (by show x5.toInt + 1 ≤ (_ : Int); omega)
            have t_23 : v9.toInt = (x5 + (1 : Int32)).toInt := congrArg Int32.toInt ev9
            exact ih34 x1 x2 x3 x4 v9 σ5 mσ5 fσ5 (by omega) (by omega) (by omega) (by omega) (by first | omega | assumption | rfl) (by omega)
  have U34 := T 20
  have f0 : Fr [74, 105, 106, 107, 108, 129, 131, 132, 134, 135, 136, 137] [1, 28, 30, 33] σ0 σ0 := Fr_rf
  refine s_X12_apart_0 C hN ?_
  refine k_X12_in m0  (fun r2 σ1 mσ1 cσ1 plσ1 phσ1 (pσ1_0 : (r2.toInt = 1 ∧ (0 : Int) ≤ a2.toInt ∧ a2.toInt ≤ (1 : Int)) ∨ (r2.toInt = 0 ∧ (a2.toInt < (0 : Int) ∨ (1 : Int) < a2.toInt))) => ?_)
  obtain rfl := Fr_nil cσ1
  refine ⟨?_, ?_⟩
  · intro q_24
    have b_25 : ¬ r2.toInt = 0 := fun h9 => q_24 (Int32.toInt_inj.mp h9)
    refine k_X12_in m0  (fun r5 σ4 mσ4 cσ4 plσ4 phσ4 (pσ4_0 : (r5.toInt = 1 ∧ (1 : Int) ≤ a1.toInt ∧ a1.toInt ≤ (60 : Int)) ∨ (r5.toInt = 0 ∧ (a1.toInt < (1 : Int) ∨ (60 : Int) < a1.toInt))) => ?_)
    obtain rfl := Fr_nil cσ4
    refine ⟨?_, ?_⟩
    · intro q_26
      have b_27 : ¬ r5.toInt = 0 := fun h9 => q_26 (Int32.toInt_inj.mp h9)
      have z_28 : (0 : Int32).toInt = 0 := rfl
      have z_29 : (-1 : Int32).toInt = -1 := rfl
      exact U34 a1 a2 (0 : Int32) (-1 : Int32) (0 : Int32) σ0 m0 f0 (by omega) (by omega) (by omega) (by omega) (by first | omega | assumption | rfl) (by omega)
    · intro q_26
      have b_30 : r5.toInt = 0 := congrArg Int32.toInt q_26
      have z_31 : (-2 : Int32).toInt = -2 := rfl
      exact h9ret (-2 : Int32) σ0 m0 f0 (by first | omega | assumption | rfl)
  · intro q_24
    have b_32 : r2.toInt = 0 := congrArg Int32.toInt q_24
    have z_33 : (-1 : Int32).toInt = -1 := rfl
    exact h9ret (-1 : Int32) σ0 m0 f0 (by first | omega | assumption | rfl)
set_option maxRecDepth 100000 in
set_option maxHeartbeats 4000000 in
theorem k_X12_looked {l : Launch} {V : Vx} {σ0 : Sg} {Qk : Int32 → Sg → Prop} (m0 : MI σ0) (pre0 : (gi σ0 74 1).toInt ≤ 9999) (h9ret : ∀ (r : Int32) (σ' : Sg), MI σ' → Fr [74, 105, 106, 107, 108, 129, 131, 132, 134, 135, 136, 137] [1, 30, 33] σ0 σ' → ((gi σ' 74 1).toInt = (gi σ0 74 1).toInt) → Qk r σ') : K_X12_looked l V σ0 Qk := by
  refine e_X12_looked (fun M hl hV hN C => ?_)
  subst hl
  subst hV
  have T : ∀ n : Nat, (∀ (x1 : Int32) (x2 : Int32) (σ : Sg), MI σ → Fr [74, 105, 106, 107, 108, 129, 131, 132, 134, 135, 136, 137] [1, 30, 33] σ0 σ → (0 ≤ x2.toInt) → (x2.toInt ≤ 8) → ((gi σ 74 1).toInt = (gi σ0 74 1).toInt) → (9 - x2.toInt).toNat < n → PS M 15 [(0, .ref 74), (1, .int x1), (2, .int x2)] [] σ (0, 0)) := by
    intro n
    induction n with
    | zero => exact fun _ _ _ _ _ _ _ _ h8 => absurd h8 (Nat.not_lt_zero _)
    | succ n ih =>
      have ih15 := ih
      · intro x1 x2 σ mσ fσ lx2 ux2 i0 hmu
        refine s_X12_looked_15 C hN ?_
        refine ⟨?_, ?_⟩
        · intro q_1
          have t_2 := MI_f46 mσ
          have b_3 : (gi σ 74 46).toInt ≤ x2.toInt := Int32.le_iff_toInt_le.mp q_1
          have z_4 : (-5 : Int32).toInt = -5 := rfl
          exact h9ret (-5 : Int32) σ mσ fσ (by first | omega | assumption | rfl)
        · intro q_1
          have t_5 := MI_f46 mσ
          have b_6 : ¬ (gi σ 74 46).toInt ≤ x2.toInt := fun h9 => q_1 (Int32.le_iff_toInt_le.mpr h9)
          have hv_7 : vp_in x2 8 := vp_in_iff.mpr ⟨by omega, by omega⟩
          refine ⟨hv_7, ?_⟩
          refine k_X12_has mσ  (fun r4 σ3 mσ3 cσ3 plσ3 phσ3 => ?_)
          obtain rfl := Fr_nil cσ3
          refine ⟨?_, ?_⟩
          · intro q_8
            have b_9 : ¬ r4.toInt = 0 := fun h9 => q_8 (Int32.toInt_inj.mp h9)
            intro v6 ev6
            have t_10 : (x2 + (1 : Int32)).toInt = x2.toInt + 1 := i_add (x := x2) (y := (1 : Int32)) (by show (_ : Int) ≤ x2.toInt + 1; omega) (by show x2.toInt + 1 ≤ (_ : Int); omega)
            have t_11 : v6.toInt = (x2 + (1 : Int32)).toInt := congrArg Int32.toInt ev6
            exact ih15 x1 v6 σ mσ fσ (by omega) (by omega) (by first | omega | assumption | rfl) (by omega)
          · intro q_8
            have b_12 : r4.toInt = 0 := congrArg Int32.toInt q_8
            exact h9ret x2 σ mσ fσ (by first | omega | assumption | rfl)
  have U15 := T 20
  have f0 : Fr [74, 105, 106, 107, 108, 129, 131, 132, 134, 135, 136, 137] [1, 30, 33] σ0 σ0 := Fr_rf
  refine s_X12_looked_0 C hN ?_
  refine k_X12_save m0  (fun σ1 mσ1 cσ1 (pσ1_0 : (gi σ1 74 33).toInt = (gi σ0 74 1).toInt) => ?_)
  have fσ1 : Fr [74, 105, 106, 107, 108, 129, 131, 132, 134, 135, 136, 137] [1, 30, 33] σ0 σ1 := Fr_tr f0 cσ1 (by decide) (by decide)
  have k_13 : (gi σ1 74 1).toInt = (gi σ0 74 1).toInt := congrArg Int32.toInt (cσ1.2.1 1 (by decide))
  refine k_X12_goMinute mσ1 (by first | omega | assumption | rfl) (fun r3 σ2 mσ2 cσ2 (pσ2_0 : (gi σ2 74 1).toInt = (gi σ1 74 1).toInt + 1) => ?_)
  have fσ2 : Fr [74, 105, 106, 107, 108, 129, 131, 132, 134, 135, 136, 137] [1, 30, 33] σ0 σ2 := Fr_tr fσ1 cσ2 (by decide) (by decide)
  have k_14 : (gi σ2 74 33).toInt = (gi σ1 74 33).toInt := congrArg Int32.toInt (cσ2.2.1 33 (by decide))
  refine k_X12_putBack mσ2  (fun σ4 mσ4 cσ4 (pσ4_0 : (gi σ4 74 1).toInt = (gi σ2 74 33).toInt) => ?_)
  have fσ4 : Fr [74, 105, 106, 107, 108, 129, 131, 132, 134, 135, 136, 137] [1, 30, 33] σ0 σ4 := Fr_tr fσ2 cσ4 (by decide) (by decide)
  have k_15 : (gi σ4 74 33).toInt = (gi σ2 74 33).toInt := congrArg Int32.toInt (cσ4.2.1 33 (by decide))
  have z_16 : (0 : Int32).toInt = 0 := rfl
  exact U15 r3 (0 : Int32) σ4 mσ4 fσ4 (by omega) (by omega) (by first | omega | assumption | rfl) (by omega)
set_option maxRecDepth 100000 in
set_option maxHeartbeats 4000000 in
theorem k_X12_allStopped {l : Launch} {V : Vx} {a1 : Int32} {a2 : Int32} {a3 : Int32} {σ0 : Sg} {Qk : Int32 → Sg → Prop} (m0 : MI σ0) (l_a1 : 0 ≤ a1.toInt) (u_a1 : a1.toInt ≤ 5) (l_a3 : 0 ≤ a3.toInt) (u_a3 : a3.toInt ≤ 60) (pre0 : (gi σ0 74 1).toInt ≤ 9999) (h9ret : ∀ (r : Int32) (σ' : Sg), MI σ' → Fr [74, 105, 106, 107, 108, 129, 131, 132, 134, 135, 136, 137] [1, 30, 33] σ0 σ' → ((gi σ' 74 1).toInt = (gi σ0 74 1).toInt) → Qk r σ') : K_X12_allStopped l V a1 a2 a3 σ0 Qk := by
  refine e_X12_allStopped (fun M hl hV hN C => ?_)
  subst hl
  subst hV
  have f0 : Fr [74, 105, 106, 107, 108, 129, 131, 132, 134, 135, 136, 137] [1, 30, 33] σ0 σ0 := Fr_rf
  refine s_X12_allStopped_0 C hN ?_
  refine k_X12_save m0  (fun σ1 mσ1 cσ1 (pσ1_0 : (gi σ1 74 33).toInt = (gi σ0 74 1).toInt) => ?_)
  have fσ1 : Fr [74, 105, 106, 107, 108, 129, 131, 132, 134, 135, 136, 137] [1, 30, 33] σ0 σ1 := Fr_tr f0 cσ1 (by decide) (by decide)
  have k_1 : (gi σ1 74 1).toInt = (gi σ0 74 1).toInt := congrArg Int32.toInt (cσ1.2.1 1 (by decide))
  have hv_2 : vp_in a1 6 := vp_in_iff.mpr ⟨by omega, by omega⟩
  refine ⟨hv_2, ?_⟩
  refine ⟨hv_2, ?_⟩
  intro σ4 eσ4
  have mσ4 : MI σ4 := by rw [eσ4]; exact MIs_au (a := 108) mσ1 rfl rfl
  have fσ4 : Fr [74, 105, 106, 107, 108, 129, 131, 132, 134, 135, 136, 137] [1, 30, 33] σ0 σ4 := by rw [eσ4]; exact Fr_si fσ1 (by decide) (fun h9 => absurd h9 (by decide))
  have k_3 : (gi σ4 74 1).toInt = (gi σ1 74 1).toInt := by rw [eσ4]; exact congrArg Int32.toInt (gi_si_ne (Or.inl (by decide)))
  have k_4 : (gi σ4 74 33).toInt = (gi σ1 74 33).toInt := by rw [eσ4]; exact congrArg Int32.toInt (gi_si_ne (Or.inl (by decide)))
  refine k_X12_goMinutes mσ4 (by omega) (by omega) (by first | omega | assumption | rfl) (fun σ5 mσ5 cσ5 (pσ5_0 : (a3.toInt ≤ 0 ∧ (gi σ5 74 1).toInt = (gi σ4 74 1).toInt) ∨ (0 ≤ a3.toInt ∧ (gi σ5 74 1).toInt = (gi σ4 74 1).toInt + a3.toInt)) => ?_)
  have fσ5 : Fr [74, 105, 106, 107, 108, 129, 131, 132, 134, 135, 136, 137] [1, 30, 33] σ0 σ5 := Fr_tr fσ4 cσ5 (by decide) (by decide)
  have k_5 : (gi σ5 74 33).toInt = (gi σ4 74 33).toInt := congrArg Int32.toInt (cσ5.2.1 33 (by decide))
  refine k_X12_all mσ5  (fun r7 σ6 mσ6 cσ6 plσ6 phσ6 => ?_)
  obtain rfl := Fr_nil cσ6
  refine k_X12_putBack mσ5  (fun σ8 mσ8 cσ8 (pσ8_0 : (gi σ8 74 1).toInt = (gi σ5 74 33).toInt) => ?_)
  have fσ8 : Fr [74, 105, 106, 107, 108, 129, 131, 132, 134, 135, 136, 137] [1, 30, 33] σ0 σ8 := Fr_tr fσ5 cσ8 (by decide) (by decide)
  have k_6 : (gi σ8 74 33).toInt = (gi σ5 74 33).toInt := congrArg Int32.toInt (cσ8.2.1 33 (by decide))
  exact h9ret r7 σ8 mσ8 fσ8 (by first | omega | assumption | rfl)
set_option maxRecDepth 100000 in
set_option maxHeartbeats 4000000 in
theorem k_X12_rest {l : Launch} {V : Vx} {a1 : Int32} {a2 : Int32} {σ0 : Sg} {Qk : Int32 → Sg → Prop} (m0 : MI σ0) (pre0 : (gi σ0 74 1).toInt ≤ 9999) (h9ret : ∀ (r : Int32) (σ' : Sg), MI σ' → Fr [74, 105, 106, 107, 108, 129, 131, 132, 134, 135, 136, 137] [1, 30, 33] σ0 σ' → ((gi σ' 74 1).toInt = (gi σ0 74 1).toInt) → Qk r σ') : K_X12_rest l V a1 a2 σ0 Qk := by
  refine e_X12_rest (fun M hl hV hN C => ?_)
  subst hl
  subst hV
  have T : ∀ n : Nat, (∀ (x1 : Int32) (x2 : Int32) (x3 : Int32) (x4 : Int32) (x5 : Int32) (σ : Sg), MI σ → Fr [74, 105, 106, 107, 108, 129, 131, 132, 134, 135, 136, 137] [1, 30, 33] σ0 σ → (1 ≤ x1.toInt) → (x1.toInt ≤ 60) → (0 ≤ x5.toInt) → (x5.toInt ≤ 6) → ((gi σ 74 1).toInt = (gi σ0 74 1).toInt) → (7 - x5.toInt).toNat < n → PS M 39 [(0, .ref 74), (1, .int x1), (2, .int x2), (3, .int x3), (4, .int x4), (5, .int x5)] [] σ (0, 0)) := by
    intro n
    induction n with
    | zero => exact fun _ _ _ _ _ _ _ _ _ _ _ _ _ h8 => absurd h8 (Nat.not_lt_zero _)
    | succ n ih =>
      have ih39 := ih
      · intro x1 x2 x3 x4 x5 σ mσ fσ lx1 ux1 lx5 ux5 i0 hmu
        refine s_X12_rest_39 C hN ?_
        refine ⟨?_, ?_⟩
        · intro q_1
          have t_2 := MI_f0 mσ
          have b_3 : (gi σ 74 0).toInt ≤ x5.toInt := Int32.le_iff_toInt_le.mp q_1
          refine ⟨?_, ?_⟩
          · intro q_4
            have w_5 := Int32.toInt_lt x4
            have w_6 := Int32.le_toInt x4
            have b_7 : x4.toInt < 0 := Int32.lt_iff_toInt_lt.mp q_4
            exact h9ret x4 σ mσ fσ (by first | omega | assumption | rfl)
          · intro q_4
            have w_8 := Int32.toInt_lt x4
            have w_9 := Int32.le_toInt x4
            have b_10 : ¬ x4.toInt < 0 := fun h9 => q_4 (Int32.lt_iff_toInt_lt.mpr h9)
            refine ⟨?_, ?_⟩
            · intro q_11
              have w_12 := Int32.toInt_lt x2
              have w_13 := Int32.le_toInt x2
              have b_14 : ¬ x2.toInt = 0 := fun h9 => q_11 (Int32.toInt_inj.mp h9)
              exact h9ret x3 σ mσ fσ (by first | omega | assumption | rfl)
            · intro q_11
              have w_15 := Int32.toInt_lt x2
              have w_16 := Int32.le_toInt x2
              have b_17 : x2.toInt = 0 := congrArg Int32.toInt q_11
              exact h9ret x4 σ mσ fσ (by first | omega | assumption | rfl)
        · intro q_1
          have t_18 := MI_f0 mσ
          have b_19 : ¬ (gi σ 74 0).toInt ≤ x5.toInt := fun h9 => q_1 (Int32.le_iff_toInt_le.mpr h9)
          refine k_X12_allStopped mσ (by omega) (by omega) (by omega) (by omega) (by first | omega | assumption | rfl) (fun r5 σ4 mσ4 cσ4 (pσ4_0 : (gi σ4 74 1).toInt = (gi σ 74 1).toInt) => ?_)
          have fσ4 : Fr [74, 105, 106, 107, 108, 129, 131, 132, 134, 135, 136, 137] [1, 30, 33] σ0 σ4 := Fr_tr fσ cσ4 (by decide) (by decide)
          have k_20 : (gi σ4 74 0).toInt = (gi σ 74 0).toInt := congrArg Int32.toInt (cσ4.2.1 0 (by decide))
          refine ⟨?_, ?_⟩
          · intro q_21
            have w_22 := Int32.toInt_lt x3
            have w_23 := Int32.le_toInt x3
            have w_24 := Int32.toInt_lt r5
            have w_25 := Int32.le_toInt r5
            have b_26 : x3.toInt < r5.toInt := Int32.lt_iff_toInt_lt.mp q_21
            intro v7 ev7
            have t_27 : (x5 + (1 : Int32)).toInt = x5.toInt + 1 := i_add (x := x5) (y := (1 : Int32)) (by show (_ : Int) ≤ x5.toInt + 1; omega) (by show x5.toInt + 1 ≤ (_ : Int); omega)
            have t_28 : v7.toInt = (x5 + (1 : Int32)).toInt := congrArg Int32.toInt ev7
            exact ih39 x1 x2 r5 x5 v7 σ4 mσ4 fσ4 (by omega) (by omega) (by omega) (by omega) (by first | omega | assumption | rfl) (by omega)
          · intro q_21
            have w_29 := Int32.toInt_lt x3
            have w_30 := Int32.le_toInt x3
            have w_31 := Int32.toInt_lt r5
            have w_32 := Int32.le_toInt r5
            have b_33 : ¬ x3.toInt < r5.toInt := fun h9 => q_21 (Int32.lt_iff_toInt_lt.mpr h9)
            intro v8 ev8
            have t_34 : (x5 + (1 : Int32)).toInt = x5.toInt + 1 := i_add (x := x5) (y := (1 : Int32)) (by show (_ : Int) ≤ x5.toInt + 1; omega) (by show x5.toInt + 1 ≤ (_ : Int); omega)
            have t_35 : v8.toInt = (x5 + (1 : Int32)).toInt := congrArg Int32.toInt ev8
            exact ih39 x1 x2 x3 x4 v8 σ4 mσ4 fσ4 (by omega) (by omega) (by omega) (by omega) (by first | omega | assumption | rfl) (by omega)
  have U39 := T 20
  have f0 : Fr [74, 105, 106, 107, 108, 129, 131, 132, 134, 135, 136, 137] [1, 30, 33] σ0 σ0 := Fr_rf
  refine s_X12_rest_0 C hN ?_
  refine k_X12_in m0  (fun r2 σ1 mσ1 cσ1 plσ1 phσ1 (pσ1_0 : (r2.toInt = 1 ∧ (0 : Int) ≤ a2.toInt ∧ a2.toInt ≤ (1 : Int)) ∨ (r2.toInt = 0 ∧ (a2.toInt < (0 : Int) ∨ (1 : Int) < a2.toInt))) => ?_)
  obtain rfl := Fr_nil cσ1
  refine ⟨?_, ?_⟩
  · intro q_36
    have b_37 : ¬ r2.toInt = 0 := fun h9 => q_36 (Int32.toInt_inj.mp h9)
    refine k_X12_in m0  (fun r5 σ4 mσ4 cσ4 plσ4 phσ4 (pσ4_0 : (r5.toInt = 1 ∧ (1 : Int) ≤ a1.toInt ∧ a1.toInt ≤ (60 : Int)) ∨ (r5.toInt = 0 ∧ (a1.toInt < (1 : Int) ∨ (60 : Int) < a1.toInt))) => ?_)
    obtain rfl := Fr_nil cσ4
    refine ⟨?_, ?_⟩
    · intro q_38
      have b_39 : ¬ r5.toInt = 0 := fun h9 => q_38 (Int32.toInt_inj.mp h9)
      refine k_X12_allBehind m0 (by omega) (by omega) (by first | omega | assumption | rfl) (fun r8 σ7 mσ7 cσ7 plσ7 phσ7 (pσ7_0 : (gi σ7 74 1).toInt = (gi σ0 74 1).toInt) => ?_)
      have fσ7 : Fr [74, 105, 106, 107, 108, 129, 131, 132, 134, 135, 136, 137] [1, 30, 33] σ0 σ7 := Fr_tr f0 cσ7 (by decide) (by decide)
      have z_40 : (-5 : Int32).toInt = -5 := rfl
      have z_41 : (0 : Int32).toInt = 0 := rfl
      exact U39 a1 a2 r8 (-5 : Int32) (0 : Int32) σ7 mσ7 fσ7 (by omega) (by omega) (by omega) (by omega) (by first | omega | assumption | rfl) (by omega)
    · intro q_38
      have b_42 : r5.toInt = 0 := congrArg Int32.toInt q_38
      have z_43 : (-2 : Int32).toInt = -2 := rfl
      exact h9ret (-2 : Int32) σ0 m0 f0 (by first | omega | assumption | rfl)
  · intro q_36
    have b_44 : r2.toInt = 0 := congrArg Int32.toInt q_36
    have z_45 : (-1 : Int32).toInt = -1 := rfl
    exact h9ret (-1 : Int32) σ0 m0 f0 (by first | omega | assumption | rfl)
set_option maxRecDepth 100000 in
set_option maxHeartbeats 4000000 in
theorem k_X12_isSeen {l : Launch} {V : Vx} {a1 : Int32} {a2 : Int32} {σ0 : Sg} {Qk : Int32 → Sg → Prop} (m0 : MI σ0) (l_a1 : 0 ≤ a1.toInt) (u_a1 : a1.toInt ≤ 5) (l_a2 : 0 ≤ a2.toInt) (u_a2 : a2.toInt ≤ 5) (pre0 : (gi σ0 74 1).toInt ≤ 9999) (h9ret : ∀ (r : Int32) (σ' : Sg), MI σ' → Fr [74, 105, 106, 107, 108, 129, 131, 132, 134, 135, 136, 137] [1, 30, 33] σ0 σ' → (0 ≤ r.toInt) → (r.toInt ≤ 1) → ((gi σ' 74 1).toInt = (gi σ0 74 1).toInt) → Qk r σ') : K_X12_isSeen l V a1 a2 σ0 Qk := by
  refine e_X12_isSeen (fun M hl hV hN C => ?_)
  subst hl
  subst hV
  have f0 : Fr [74, 105, 106, 107, 108, 129, 131, 132, 134, 135, 136, 137] [1, 30, 33] σ0 σ0 := Fr_rf
  refine s_X12_isSeen_0 C hN ?_
  refine k_X12_save m0  (fun σ1 mσ1 cσ1 (pσ1_0 : (gi σ1 74 33).toInt = (gi σ0 74 1).toInt) => ?_)
  have fσ1 : Fr [74, 105, 106, 107, 108, 129, 131, 132, 134, 135, 136, 137] [1, 30, 33] σ0 σ1 := Fr_tr f0 cσ1 (by decide) (by decide)
  have k_1 : (gi σ1 74 1).toInt = (gi σ0 74 1).toInt := congrArg Int32.toInt (cσ1.2.1 1 (by decide))
  have hv_2 : vp_in a1 6 := vp_in_iff.mpr ⟨by omega, by omega⟩
  refine ⟨hv_2, ?_⟩
  refine ⟨hv_2, ?_⟩
  intro σ4 eσ4
  have mσ4 : MI σ4 := by rw [eσ4]; exact MIs_au (a := 108) mσ1 rfl rfl
  have fσ4 : Fr [74, 105, 106, 107, 108, 129, 131, 132, 134, 135, 136, 137] [1, 30, 33] σ0 σ4 := by rw [eσ4]; exact Fr_si fσ1 (by decide) (fun h9 => absurd h9 (by decide))
  have k_3 : (gi σ4 74 1).toInt = (gi σ1 74 1).toInt := by rw [eσ4]; exact congrArg Int32.toInt (gi_si_ne (Or.inl (by decide)))
  have k_4 : (gi σ4 74 33).toInt = (gi σ1 74 33).toInt := by rw [eσ4]; exact congrArg Int32.toInt (gi_si_ne (Or.inl (by decide)))
  have hv_5 : vp_in a2 6 := vp_in_iff.mpr ⟨by omega, by omega⟩
  refine ⟨hv_5, ?_⟩
  have t_6 := MI_a143 mσ4 hv_5
  refine k_X12_goMinutes mσ4 (by omega) (by omega) (by first | omega | assumption | rfl) (fun σ6 mσ6 cσ6 (pσ6_0 : ((gi σ4 143 a2.toNatClampNeg).toInt ≤ 0 ∧ (gi σ6 74 1).toInt = (gi σ4 74 1).toInt) ∨ (0 ≤ (gi σ4 143 a2.toNatClampNeg).toInt ∧ (gi σ6 74 1).toInt = (gi σ4 74 1).toInt + (gi σ4 143 a2.toNatClampNeg).toInt)) => ?_)
  have fσ6 : Fr [74, 105, 106, 107, 108, 129, 131, 132, 134, 135, 136, 137] [1, 30, 33] σ0 σ6 := Fr_tr fσ4 cσ6 (by decide) (by decide)
  have k_7 : (gi σ6 74 33).toInt = (gi σ4 74 33).toInt := congrArg Int32.toInt (cσ6.2.1 33 (by decide))
  refine ⟨hv_5, ?_⟩
  have t_8 := MI_a142 mσ6 hv_5
  have hv_9 : vp_in (gi σ6 142 a2.toNatClampNeg) 6 := vp_in_iff.mpr ⟨by omega, by omega⟩
  refine ⟨hv_9, ?_⟩
  refine ⟨hv_5, ?_⟩
  refine ⟨?_, ?_⟩
  · intro q_10
    have t_11 := MI_a105 mσ6 hv_9
    have b_12 : ¬ (gi σ6 105 (gi σ6 142 a2.toNatClampNeg).toNatClampNeg).toInt = (gi σ6 144 a2.toNatClampNeg).toInt := fun h9 => q_10 (Int32.toInt_inj.mp h9)
    refine k_X12_putBack mσ6  (fun σ11 mσ11 cσ11 (pσ11_0 : (gi σ11 74 1).toInt = (gi σ6 74 33).toInt) => ?_)
    have fσ11 : Fr [74, 105, 106, 107, 108, 129, 131, 132, 134, 135, 136, 137] [1, 30, 33] σ0 σ11 := Fr_tr fσ6 cσ11 (by decide) (by decide)
    have k_13 : (gi σ11 74 33).toInt = (gi σ6 74 33).toInt := congrArg Int32.toInt (cσ11.2.1 33 (by decide))
    have z_14 : (0 : Int32).toInt = 0 := rfl
    exact h9ret (0 : Int32) σ11 mσ11 fσ11 (by omega) (by omega) (by first | omega | assumption | rfl)
  · intro q_10
    have t_15 := MI_a105 mσ6 hv_9
    have b_16 : (gi σ6 105 (gi σ6 142 a2.toNatClampNeg).toNatClampNeg).toInt = (gi σ6 144 a2.toNatClampNeg).toInt := congrArg Int32.toInt q_10
    refine k_X12_putBack mσ6  (fun σ12 mσ12 cσ12 (pσ12_0 : (gi σ12 74 1).toInt = (gi σ6 74 33).toInt) => ?_)
    have fσ12 : Fr [74, 105, 106, 107, 108, 129, 131, 132, 134, 135, 136, 137] [1, 30, 33] σ0 σ12 := Fr_tr fσ6 cσ12 (by decide) (by decide)
    have k_17 : (gi σ12 74 33).toInt = (gi σ6 74 33).toInt := congrArg Int32.toInt (cσ12.2.1 33 (by decide))
    have z_18 : (1 : Int32).toInt = 1 := rfl
    exact h9ret (1 : Int32) σ12 mσ12 fσ12 (by omega) (by omega) (by first | omega | assumption | rfl)
