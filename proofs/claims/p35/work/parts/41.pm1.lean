set_option maxRecDepth 100000 in
set_option maxHeartbeats 4000000 in
theorem k_X12_in {l : Launch} {V : Vx} {a1 : Int32} {a2 : Int32} {a3 : Int32} {σ0 : Sg} {Qk : Int32 → Sg → Prop} (m0 : MI σ0) (h9ret : ∀ (r : Int32) (σ' : Sg), MI σ' → Fr [] [] σ0 σ' → (0 ≤ r.toInt) → (r.toInt ≤ 1) → ((r.toInt = 1 ∧ a2.toInt ≤ a1.toInt ∧ a1.toInt ≤ a3.toInt) ∨ (r.toInt = 0 ∧ (a1.toInt < a2.toInt ∨ a3.toInt < a1.toInt))) → Qk r σ') : K_X12_in l V a1 a2 a3 σ0 Qk := by
  refine e_X12_in (fun M hl hV hN C => ?_)
  subst hl
  subst hV
  have f0 : Fr [] [] σ0 σ0 := Fr_rf
  refine s_X12_in_0 C hN ?_
  refine ⟨?_, ?_⟩
  · intro q_1
    have w_2 := Int32.toInt_lt a1
    have w_3 := Int32.le_toInt a1
    have w_4 := Int32.toInt_lt a2
    have w_5 := Int32.le_toInt a2
    have b_6 : a1.toInt < a2.toInt := Int32.lt_iff_toInt_lt.mp q_1
    have z_7 : (0 : Int32).toInt = 0 := rfl
    exact h9ret (0 : Int32) σ0 m0 f0 (by omega) (by omega) (by first | omega | assumption | rfl)
  · intro q_1
    have w_8 := Int32.toInt_lt a1
    have w_9 := Int32.le_toInt a1
    have w_10 := Int32.toInt_lt a2
    have w_11 := Int32.le_toInt a2
    have b_12 : ¬ a1.toInt < a2.toInt := fun h9 => q_1 (Int32.lt_iff_toInt_lt.mpr h9)
    refine ⟨?_, ?_⟩
    · intro q_13
      have w_14 := Int32.toInt_lt a3
      have w_15 := Int32.le_toInt a3
      have b_16 : a3.toInt < a1.toInt := Int32.lt_iff_toInt_lt.mp q_13
      have z_17 : (0 : Int32).toInt = 0 := rfl
      exact h9ret (0 : Int32) σ0 m0 f0 (by omega) (by omega) (by first | omega | assumption | rfl)
    · intro q_13
      have w_18 := Int32.toInt_lt a3
      have w_19 := Int32.le_toInt a3
      have b_20 : ¬ a3.toInt < a1.toInt := fun h9 => q_13 (Int32.lt_iff_toInt_lt.mpr h9)
      have z_21 : (1 : Int32).toInt = 1 := rfl
      exact h9ret (1 : Int32) σ0 m0 f0 (by omega) (by omega) (by first | omega | assumption | rfl)
set_option maxRecDepth 100000 in
set_option maxHeartbeats 4000000 in
theorem k_X12_has {l : Launch} {V : Vx} {a1 : Int32} {a2 : Int32} {σ0 : Sg} {Qk : Int32 → Sg → Prop} (m0 : MI σ0) (h9ret : ∀ (r : Int32) (σ' : Sg), MI σ' → Fr [] [] σ0 σ' → (0 ≤ r.toInt) → (r.toInt ≤ 1) → Qk r σ') : K_X12_has l V a1 a2 σ0 Qk := by
  refine e_X12_has (fun M hl hV hN C => ?_)
  subst hl
  subst hV
  have f0 : Fr [] [] σ0 σ0 := Fr_rf
  refine s_X12_has_0 C hN ?_
  refine ⟨?_, ?_⟩
  · intro q_1
    have w_2 := Int32.toInt_lt a1
    have w_3 := Int32.le_toInt a1
    have w_4 := Int32.toInt_lt a2
    have w_5 := Int32.le_toInt a2
    have b_6 : ¬ ((a1 >>> (a2 &&& (31 : Int32))) &&& (1 : Int32)).toInt = 1 := fun h9 => q_1 (Int32.toInt_inj.mp h9)
    have z_7 : (0 : Int32).toInt = 0 := rfl
    exact h9ret (0 : Int32) σ0 m0 f0 (by omega) (by omega)
  · intro q_1
    have w_8 := Int32.toInt_lt a1
    have w_9 := Int32.le_toInt a1
    have w_10 := Int32.toInt_lt a2
    have w_11 := Int32.le_toInt a2
    have b_12 : ((a1 >>> (a2 &&& (31 : Int32))) &&& (1 : Int32)).toInt = 1 := congrArg Int32.toInt q_1
    have z_13 : (1 : Int32).toInt = 1 := rfl
    exact h9ret (1 : Int32) σ0 m0 f0 (by omega) (by omega)
set_option maxRecDepth 100000 in
set_option maxHeartbeats 4000000 in
theorem k_X12_least {l : Launch} {V : Vx} {a1 : Int32} {a2 : Int32} {σ0 : Sg} {Qk : Int32 → Sg → Prop} (m0 : MI σ0) (h9ret : ∀ (r : Int32) (σ' : Sg), MI σ' → Fr [] [] σ0 σ' → (r.toInt ≤ a1.toInt ∧ r.toInt ≤ a2.toInt ∧ (r.toInt = a1.toInt ∨ r.toInt = a2.toInt)) → Qk r σ') : K_X12_least l V a1 a2 σ0 Qk := by
  refine e_X12_least (fun M hl hV hN C => ?_)
  subst hl
  subst hV
  have f0 : Fr [] [] σ0 σ0 := Fr_rf
  refine s_X12_least_0 C hN ?_
  refine ⟨?_, ?_⟩
  · intro q_1
    have w_2 := Int32.toInt_lt a2
    have w_3 := Int32.le_toInt a2
    have w_4 := Int32.toInt_lt a1
    have w_5 := Int32.le_toInt a1
    have b_6 : a2.toInt ≤ a1.toInt := Int32.le_iff_toInt_le.mp q_1
    exact h9ret a2 σ0 m0 f0 (by first | omega | assumption | rfl)
  · intro q_1
    have w_7 := Int32.toInt_lt a2
    have w_8 := Int32.le_toInt a2
    have w_9 := Int32.toInt_lt a1
    have w_10 := Int32.le_toInt a1
    have b_11 : ¬ a2.toInt ≤ a1.toInt := fun h9 => q_1 (Int32.le_iff_toInt_le.mpr h9)
    exact h9ret a1 σ0 m0 f0 (by first | omega | assumption | rfl)
set_option maxRecDepth 100000 in
set_option maxHeartbeats 4000000 in
theorem k_X12_most {l : Launch} {V : Vx} {a1 : Int32} {a2 : Int32} {σ0 : Sg} {Qk : Int32 → Sg → Prop} (m0 : MI σ0) (h9ret : ∀ (r : Int32) (σ' : Sg), MI σ' → Fr [] [] σ0 σ' → (a1.toInt ≤ r.toInt ∧ a2.toInt ≤ r.toInt ∧ (r.toInt = a1.toInt ∨ r.toInt = a2.toInt)) → Qk r σ') : K_X12_most l V a1 a2 σ0 Qk := by
  refine e_X12_most (fun M hl hV hN C => ?_)
  subst hl
  subst hV
  have f0 : Fr [] [] σ0 σ0 := Fr_rf
  refine s_X12_most_0 C hN ?_
  refine ⟨?_, ?_⟩
  · intro q_1
    have w_2 := Int32.toInt_lt a1
    have w_3 := Int32.le_toInt a1
    have w_4 := Int32.toInt_lt a2
    have w_5 := Int32.le_toInt a2
    have b_6 : a1.toInt ≤ a2.toInt := Int32.le_iff_toInt_le.mp q_1
    exact h9ret a2 σ0 m0 f0 (by first | omega | assumption | rfl)
  · intro q_1
    have w_7 := Int32.toInt_lt a1
    have w_8 := Int32.le_toInt a1
    have w_9 := Int32.toInt_lt a2
    have w_10 := Int32.le_toInt a2
    have b_11 : ¬ a1.toInt ≤ a2.toInt := fun h9 => q_1 (Int32.le_iff_toInt_le.mpr h9)
    exact h9ret a1 σ0 m0 f0 (by first | omega | assumption | rfl)
set_option maxRecDepth 100000 in
set_option maxHeartbeats 4000000 in
theorem k_X12_isMower {l : Launch} {V : Vx} {a1 : Int32} {σ0 : Sg} {Qk : Int32 → Sg → Prop} (m0 : MI σ0) (h9ret : ∀ (r : Int32) (σ' : Sg), MI σ' → Fr [] [] σ0 σ' → (0 ≤ r.toInt) → (r.toInt ≤ 1) → ((r.toInt = 1 ∧ 0 ≤ a1.toInt ∧ a1.toInt < (gi σ0 74 0).toInt) ∨ (r.toInt = 0 ∧ (a1.toInt < 0 ∨ (gi σ0 74 0).toInt ≤ a1.toInt))) → Qk r σ') : K_X12_isMower l V a1 σ0 Qk := by
  refine e_X12_isMower (fun M hl hV hN C => ?_)
  subst hl
  subst hV
  have f0 : Fr [] [] σ0 σ0 := Fr_rf
  refine s_X12_isMower_0 C hN ?_
  have t_1 := MI_f0 m0
  have t_2 : ((gi σ0 74 0) - (1 : Int32)).toInt = (gi σ0 74 0).toInt - 1 := i_sub (x := (gi σ0 74 0)) (y := (1 : Int32)) (by show (_ : Int) ≤ (gi σ0 74 0).toInt - 1; omega) (by show (gi σ0 74 0).toInt - 1 ≤ (_ : Int); omega)
  refine k_X12_in m0  (fun r2 σ1 mσ1 cσ1 plσ1 phσ1 (pσ1_0 : (r2.toInt = 1 ∧ (0 : Int) ≤ a1.toInt ∧ a1.toInt ≤ ((gi σ0 74 0) - (1 : Int32)).toInt) ∨ (r2.toInt = 0 ∧ (a1.toInt < (0 : Int) ∨ ((gi σ0 74 0) - (1 : Int32)).toInt < a1.toInt))) => ?_)
  obtain rfl := Fr_nil cσ1
  refine ⟨i_bool (by omega) (by omega), ?_⟩
  have t_3 := MI_f0 m0
  exact h9ret r2 σ0 m0 f0 (by omega) (by omega) (by first | omega | assumption | rfl)
set_option maxRecDepth 100000 in
set_option maxHeartbeats 4000000 in
theorem k_X12_row {l : Launch} {V : Vx} {a1 : Int32} {a2 : Int32} {a3 : Int32} {σ0 : Sg} {Qk : Int32 → Sg → Prop} (m0 : MI σ0) (h9ret : ∀ (r : Int32) (σ' : Sg), MI σ' → Fr [109] [] σ0 σ' → Qk r σ') : K_X12_row l V a1 a2 a3 σ0 Qk := by
  refine e_X12_row (fun M hl hV hN C => ?_)
  subst hl
  subst hV
  have f0 : Fr [109] [] σ0 σ0 := Fr_rf
  refine s_X12_row_0 C hN ?_
  refine k_X12_isMower m0  (fun r2 σ1 mσ1 cσ1 plσ1 phσ1 (pσ1_0 : (r2.toInt = 1 ∧ 0 ≤ a1.toInt ∧ a1.toInt < (gi σ0 74 0).toInt) ∨ (r2.toInt = 0 ∧ (a1.toInt < 0 ∨ (gi σ0 74 0).toInt ≤ a1.toInt))) => ?_)
  obtain rfl := Fr_nil cσ1
  have t_1 := MI_f0 m0
  refine ⟨?_, ?_⟩
  · intro q_2
    have b_3 : r2.toInt = 0 := congrArg Int32.toInt q_2
    have z_4 : (-1 : Int32).toInt = -1 := rfl
    exact h9ret (-1 : Int32) σ0 m0 f0
  · intro q_2
    have b_5 : ¬ r2.toInt = 0 := fun h9 => q_2 (Int32.toInt_inj.mp h9)
    refine k_X12_in m0  (fun r5 σ4 mσ4 cσ4 plσ4 phσ4 (pσ4_0 : (r5.toInt = 1 ∧ (0 : Int) ≤ a2.toInt ∧ a2.toInt ≤ (3 : Int)) ∨ (r5.toInt = 0 ∧ (a2.toInt < (0 : Int) ∨ (3 : Int) < a2.toInt))) => ?_)
    obtain rfl := Fr_nil cσ4
    refine ⟨?_, ?_⟩
    · intro q_6
      have b_7 : ¬ r5.toInt = 0 := fun h9 => q_6 (Int32.toInt_inj.mp h9)
      refine k_X12_in m0  (fun r8 σ7 mσ7 cσ7 plσ7 phσ7 (pσ7_0 : (r8.toInt = 1 ∧ (0 : Int) ≤ a3.toInt ∧ a3.toInt ≤ (9 : Int)) ∨ (r8.toInt = 0 ∧ (a3.toInt < (0 : Int) ∨ (9 : Int) < a3.toInt))) => ?_)
      obtain rfl := Fr_nil cσ7
      refine ⟨?_, ?_⟩
      · intro q_8
        have b_9 : ¬ r8.toInt = 0 := fun h9 => q_8 (Int32.toInt_inj.mp h9)
        have w_10 := Int32.toInt_lt a1
        have w_11 := Int32.le_toInt a1
        have hv_12 : vp_in a1 6 := vp_in_iff.mpr ⟨by omega, by omega⟩
        refine ⟨hv_12, ?_⟩
        refine ⟨?_, ?_⟩
        · intro q_13
          have b_14 : (gi σ0 103 a1.toNatClampNeg).toInt = 6 := congrArg Int32.toInt q_13
          try have t_15 : ((4 : Int32) * a1).toInt = 4 * a1.toInt := i_mull rfl (by omega) (by omega)
          have w_16 := Int32.toInt_lt a2
          have w_17 := Int32.le_toInt a2
          try have t_18 : (((4 : Int32) * a1) + a2).toInt = ((4 : Int32) * a1).toInt + a2.toInt := i_add (x := ((4 : Int32) * a1)) (y := a2) (by show (_ : Int) ≤ ((4 : Int32) * a1).toInt + a2.toInt; omega) (by show ((4 : Int32) * a1).toInt + a2.toInt ≤ (_ : Int); omega)
          have hv_19 : vp_in (((4 : Int32) * a1) + a2) 24 := vp_in_iff.mpr ⟨by omega, by omega⟩
          refine ⟨hv_19, ?_⟩
          intro v13 ev13
          refine ⟨hv_19, ?_⟩
          intro σ15 eσ15
          have mσ15 : MI σ15 := by rw [eσ15]; exact MIs_au (a := 109) m0 rfl rfl
          have fσ15 : Fr [109] [] σ0 σ15 := by rw [eσ15]; exact Fr_si f0 (by decide) (fun h9 => absurd h9 (by decide))
          have k_20 : (gi σ15 74 0).toInt = (gi σ0 74 0).toInt := by rw [eσ15]; exact congrArg Int32.toInt (gi_si_ne (Or.inl (by decide)))
          exact h9ret v13 σ15 mσ15 fσ15
        · intro q_13
          have b_21 : ¬ (gi σ0 103 a1.toNatClampNeg).toInt = 6 := fun h9 => q_13 (Int32.toInt_inj.mp h9)
          have z_22 : (-3 : Int32).toInt = -3 := rfl
          exact h9ret (-3 : Int32) σ0 m0 f0
      · intro q_8
        have b_23 : r8.toInt = 0 := congrArg Int32.toInt q_8
        have z_24 : (-2 : Int32).toInt = -2 := rfl
        exact h9ret (-2 : Int32) σ0 m0 f0
    · intro q_6
      have b_25 : r5.toInt = 0 := congrArg Int32.toInt q_6
      have z_26 : (-1 : Int32).toInt = -1 := rfl
      exact h9ret (-1 : Int32) σ0 m0 f0
set_option maxRecDepth 100000 in
set_option maxHeartbeats 4000000 in
theorem k_X12_feed {l : Launch} {V : Vx} {a1 : Int32} {σ0 : Sg} {Qk : Int32 → Sg → Prop} (m0 : MI σ0) (h9ret : ∀ (r : Int32) (σ' : Sg), MI σ' → Fr [74, 116] [13] σ0 σ' → Qk r σ') : K_X12_feed l V a1 σ0 Qk := by
  refine e_X12_feed (fun M hl hV hN C => ?_)
  subst hl
  subst hV
  have f0 : Fr [74, 116] [13] σ0 σ0 := Fr_rf
  refine s_X12_feed_0 C hN ?_
  refine k_X12_in m0  (fun r2 σ1 mσ1 cσ1 plσ1 phσ1 (pσ1_0 : (r2.toInt = 1 ∧ (0 : Int) ≤ a1.toInt ∧ a1.toInt ≤ (127 : Int)) ∨ (r2.toInt = 0 ∧ (a1.toInt < (0 : Int) ∨ (127 : Int) < a1.toInt))) => ?_)
  obtain rfl := Fr_nil cσ1
  refine ⟨?_, ?_⟩
  · intro q_1
    have b_2 : ¬ r2.toInt = 0 := fun h9 => q_1 (Int32.toInt_inj.mp h9)
    refine ⟨?_, ?_⟩
    · intro q_3
      have t_4 := MI_f13 m0
      have b_5 : ¬ (gi σ0 74 13).toInt = 100 := fun h9 => q_3 (Int32.toInt_inj.mp h9)
      have hv_6 : vp_in (gi σ0 74 13) 100 := vp_in_iff.mpr ⟨by omega, by omega⟩
      refine ⟨hv_6, ?_⟩
      intro σ6 eσ6
      have w_7 := Int32.toInt_lt a1
      have w_8 := Int32.le_toInt a1
      have mσ6 : MI σ6 := by rw [eσ6]; exact MIs_a116 m0 (by omega) (by omega)
      have fσ6 : Fr [74, 116] [13] σ0 σ6 := by rw [eσ6]; exact Fr_si f0 (by decide) (fun h9 => absurd h9 (by decide))
      have k_9 : (gi σ6 74 13).toInt = (gi σ0 74 13).toInt := by rw [eσ6]; exact congrArg Int32.toInt (gi_si_ne (Or.inl (by decide)))
      intro σ7 eσ7
      have t_10 := MI_f13 mσ6
      have t_11 : ((gi σ6 74 13) + (1 : Int32)).toInt = (gi σ6 74 13).toInt + 1 := i_add (x := (gi σ6 74 13)) (y := (1 : Int32)) (by show (_ : Int) ≤ (gi σ6 74 13).toInt + 1; omega) (by show (gi σ6 74 13).toInt + 1 ≤ (_ : Int); omega)
      have mσ7 : MI σ7 := by rw [eσ7]; exact MIs_f13 mσ6 (by omega) (by omega)
      have fσ7 : Fr [74, 116] [13] σ0 σ7 := by rw [eσ7]; exact Fr_si fσ6 (by decide) (fun _ => by decide)
      have k_12 : (gi σ7 74 13).toInt = ((gi σ6 74 13) + (1 : Int32)).toInt := by rw [eσ7]; exact congrArg Int32.toInt gi_si_eq
      exact h9ret (gi σ7 74 13) σ7 mσ7 fσ7
    · intro q_3
      have t_13 := MI_f13 m0
      have b_14 : (gi σ0 74 13).toInt = 100 := congrArg Int32.toInt q_3
      have z_15 : (-4 : Int32).toInt = -4 := rfl
      exact h9ret (-4 : Int32) σ0 m0 f0
  · intro q_1
    have b_16 : r2.toInt = 0 := congrArg Int32.toInt q_1
    have z_17 : (-2 : Int32).toInt = -2 := rfl
    exact h9ret (-2 : Int32) σ0 m0 f0
set_option maxRecDepth 100000 in
set_option maxHeartbeats 4000000 in
theorem k_X12_next {l : Launch} {V : Vx} {σ0 : Sg} {Qk : Int32 → Sg → Prop} (m0 : MI σ0) (h9ret : ∀ (r : Int32) (σ' : Sg), MI σ' → Fr [] [] σ0 σ' → (r.toInt = (nxt σ0).toInt) → Qk r σ') : K_X12_next l V σ0 Qk := by
  refine e_X12_next (fun M hl hV hN C => ?_)
  subst hl
  subst hV
  have f0 : Fr [] [] σ0 σ0 := Fr_rf
  refine s_X12_next_0 C hN ?_
  refine ⟨?_, ?_⟩
  · intro q_1
    have t_2 := MI_f13 m0
    have t_3 := MI_f14 m0
    have b_4 : (gi σ0 74 13).toInt ≤ (gi σ0 74 14).toInt := Int32.le_iff_toInt_le.mp q_1
    have z_5 : (-1 : Int32).toInt = -1 := rfl
    exact h9ret (-1 : Int32) σ0 m0 f0 (by first | exact congrArg Int32.toInt (nxt_a (by assumption)).symm | exact congrArg Int32.toInt (nxt_b (by assumption)).symm)
  · intro q_1
    have t_6 := MI_f13 m0
    have t_7 := MI_f14 m0
    have b_8 : ¬ (gi σ0 74 13).toInt ≤ (gi σ0 74 14).toInt := fun h9 => q_1 (Int32.le_iff_toInt_le.mpr h9)
    have hv_9 : vp_in (gi σ0 74 14) 100 := vp_in_iff.mpr ⟨by omega, by omega⟩
    refine ⟨hv_9, ?_⟩
    have t_10 := MI_a116 m0 hv_9
    exact h9ret (gi σ0 116 (gi σ0 74 14).toNatClampNeg) σ0 m0 f0 (by first | exact congrArg Int32.toInt (nxt_a (by assumption)).symm | exact congrArg Int32.toInt (nxt_b (by assumption)).symm)
set_option maxRecDepth 100000 in
set_option maxHeartbeats 4000000 in
theorem k_X12_begin {l : Launch} {V : Vx} {σ0 : Sg} {Qk : Int32 → Sg → Prop} (m0 : MI σ0) (h9ret : ∀ (r : Int32) (σ' : Sg), MI σ' → Fr [] [] σ0 σ' → (0 ≤ r.toInt) → (r.toInt ≤ 50) → (((gi σ0 74 12).toInt < 0 ∧ r.toInt = 0) ∨ (0 ≤ (gi σ0 74 12).toInt ∧ r.toInt = 10 * (gi σ0 74 12).toInt)) → Qk r σ') : K_X12_begin l V σ0 Qk := by
  refine e_X12_begin (fun M hl hV hN C => ?_)
  subst hl
  subst hV
  have f0 : Fr [] [] σ0 σ0 := Fr_rf
  refine s_X12_begin_0 C hN ?_
  refine ⟨?_, ?_⟩
  · intro q_1
    have t_2 := MI_f12 m0
    have b_3 : (0 : Int) ≤ (gi σ0 74 12).toInt := Int32.le_iff_toInt_le.mp q_1
    have t_4 : ((10 : Int32) * (gi σ0 74 12)).toInt = 10 * (gi σ0 74 12).toInt := i_mull rfl (by omega) (by omega)
    have t_5 := MI_f12 m0
    exact h9ret ((10 : Int32) * (gi σ0 74 12)) σ0 m0 f0 (by omega) (by omega) (by first | omega | assumption | rfl)
  · intro q_1
    have t_6 := MI_f12 m0
    have b_7 : ¬ (0 : Int) ≤ (gi σ0 74 12).toInt := fun h9 => q_1 (Int32.le_iff_toInt_le.mpr h9)
    have z_8 : (0 : Int32).toInt = 0 := rfl
    have t_9 := MI_f12 m0
    exact h9ret (0 : Int32) σ0 m0 f0 (by omega) (by omega) (by first | omega | assumption | rfl)
set_option maxRecDepth 100000 in
set_option maxHeartbeats 4000000 in
theorem k_X12_behind {l : Launch} {V : Vx} {σ0 : Sg} {Qk : Int32 → Sg → Prop} (m0 : MI σ0) (h9ret : ∀ (r : Int32) (σ' : Sg), MI σ' → Fr [] [] σ0 σ' → (0 ≤ r.toInt) → (r.toInt ≤ 60) → (((gi σ0 74 12).toInt < 0 ∧ r.toInt = 0) ∨ (0 ≤ (gi σ0 74 12).toInt ∧ r.toInt = 10 * (gi σ0 74 12).toInt + (gi σ0 117 (gi σ0 74 12).toNatClampNeg).toInt)) → Qk r σ') : K_X12_behind l V σ0 Qk := by
  refine e_X12_behind (fun M hl hV hN C => ?_)
  subst hl
  subst hV
  have f0 : Fr [] [] σ0 σ0 := Fr_rf
  refine s_X12_behind_0 C hN ?_
  refine ⟨?_, ?_⟩
  · intro q_1
    have t_2 := MI_f12 m0
    have b_3 : (0 : Int) ≤ (gi σ0 74 12).toInt := Int32.le_iff_toInt_le.mp q_1
    have hv_4 : vp_in (gi σ0 74 12) 6 := vp_in_iff.mpr ⟨by omega, by omega⟩
    refine ⟨hv_4, ?_⟩
    have t_5 : ((10 : Int32) * (gi σ0 74 12)).toInt = 10 * (gi σ0 74 12).toInt := i_mull rfl (by omega) (by omega)
    have t_6 := MI_a117 m0 hv_4
    have t_7 : (((10 : Int32) * (gi σ0 74 12)) + (gi σ0 117 (gi σ0 74 12).toNatClampNeg)).toInt = ((10 : Int32) * (gi σ0 74 12)).toInt + (gi σ0 117 (gi σ0 74 12).toNatClampNeg).toInt := i_add (x := ((10 : Int32) * (gi σ0 74 12))) (y := (gi σ0 117 (gi σ0 74 12).toNatClampNeg)) (by show (_ : Int) ≤ ((10 : Int32) * (gi σ0 74 12)).toInt + (gi σ0 117 (gi σ0 74 12).toNatClampNeg).toInt; omega) (by show ((10 : Int32) * (gi σ0 74 12)).toInt + (gi σ0 117 (gi σ0 74 12).toNatClampNeg).toInt ≤ (_ : Int); omega)
    have t_8 := MI_f12 m0
    exact h9ret (((10 : Int32) * (gi σ0 74 12)) + (gi σ0 117 (gi σ0 74 12).toNatClampNeg)) σ0 m0 f0 (by omega) (by omega) (by first | omega | assumption | rfl)
  · intro q_1
    have t_9 := MI_f12 m0
    have b_10 : ¬ (0 : Int) ≤ (gi σ0 74 12).toInt := fun h9 => q_1 (Int32.le_iff_toInt_le.mpr h9)
    have z_11 : (0 : Int32).toInt = 0 := rfl
    have t_12 := MI_f12 m0
    exact h9ret (0 : Int32) σ0 m0 f0 (by omega) (by omega) (by first | omega | assumption | rfl)
set_option maxRecDepth 100000 in
set_option maxHeartbeats 4000000 in
theorem k_X12_save {l : Launch} {V : Vx} {σ0 : Sg} {Qk : Sg → Prop} (m0 : MI σ0) (h9ret : ∀ (σ' : Sg), MI σ' → Fr [74, 132, 134, 135, 136, 137] [33] σ0 σ' → ((gi σ' 74 33).toInt = (gi σ0 74 1).toInt) → Qk σ') : K_X12_save l V σ0 Qk := by
  refine e_X12_save (fun M hl hV hN C => ?_)
  subst hl
  subst hV
  have T : ∀ n : Nat, (∀ (x1 : Int32) (σ : Sg), MI σ → Fr [74, 132, 134, 135, 136, 137] [33] σ0 σ → (0 ≤ x1.toInt) → (x1.toInt ≤ 6) → ((gi σ 74 33).toInt = (gi σ0 74 1).toInt) → (7 - x1.toInt).toNat < n → PS M 10 [(0, .ref 74), (1, .int x1)] [] σ (0, 0)) := by
    intro n
    induction n with
    | zero => exact fun _ _ _ _ _ _ _ h8 => absurd h8 (Nat.not_lt_zero _)
    | succ n ih =>
      have ih10 := ih
      · intro x1 σ mσ fσ lx1 ux1 i0 hmu
        refine s_X12_save_10 C hN ?_
        refine ⟨?_, ?_⟩
        · intro q_1
          have b_2 : (6 : Int) ≤ x1.toInt := Int32.le_iff_toInt_le.mp q_1
          exact h9ret σ mσ fσ (by first | omega | assumption | rfl)
        · intro q_1
          have b_3 : ¬ (6 : Int) ≤ x1.toInt := fun h9 => q_1 (Int32.le_iff_toInt_le.mpr h9)
          have hv_4 : vp_in x1 6 := vp_in_iff.mpr ⟨by omega, by omega⟩
          refine ⟨hv_4, ?_⟩
          refine ⟨hv_4, ?_⟩
          intro σ4 eσ4
          have t_5 := MI_a105 mσ hv_4
          have mσ4 : MI σ4 := by rw [eσ4]; exact MIs_a134 mσ (by omega) (by omega)
          have fσ4 : Fr [74, 132, 134, 135, 136, 137] [33] σ0 σ4 := by rw [eσ4]; exact Fr_si fσ (by decide) (fun h9 => absurd h9 (by decide))
          have k_6 : (gi σ4 74 1).toInt = (gi σ 74 1).toInt := by rw [eσ4]; exact congrArg Int32.toInt (gi_si_ne (Or.inl (by decide)))
          have k_7 : (gi σ4 74 33).toInt = (gi σ 74 33).toInt := by rw [eσ4]; exact congrArg Int32.toInt (gi_si_ne (Or.inl (by decide)))
          refine ⟨hv_4, ?_⟩
          refine ⟨hv_4, ?_⟩
          intro σ7 eσ7
          have mσ7 : MI σ7 := by rw [eσ7]; exact MIs_au (a := 135) mσ4 rfl rfl
          have fσ7 : Fr [74, 132, 134, 135, 136, 137] [33] σ0 σ7 := by rw [eσ7]; exact Fr_si fσ4 (by decide) (fun h9 => absurd h9 (by decide))
          have k_8 : (gi σ7 74 1).toInt = (gi σ4 74 1).toInt := by rw [eσ7]; exact congrArg Int32.toInt (gi_si_ne (Or.inl (by decide)))
          have k_9 : (gi σ7 74 33).toInt = (gi σ4 74 33).toInt := by rw [eσ7]; exact congrArg Int32.toInt (gi_si_ne (Or.inl (by decide)))
          refine ⟨hv_4, ?_⟩
          refine ⟨hv_4, ?_⟩
          intro σ10 eσ10
          have mσ10 : MI σ10 := by rw [eσ10]; exact MIs_au (a := 136) mσ7 rfl rfl
          have fσ10 : Fr [74, 132, 134, 135, 136, 137] [33] σ0 σ10 := by rw [eσ10]; exact Fr_si fσ7 (by decide) (fun h9 => absurd h9 (by decide))
          have k_10 : (gi σ10 74 1).toInt = (gi σ7 74 1).toInt := by rw [eσ10]; exact congrArg Int32.toInt (gi_si_ne (Or.inl (by decide)))
          have k_11 : (gi σ10 74 33).toInt = (gi σ7 74 33).toInt := by rw [eσ10]; exact congrArg Int32.toInt (gi_si_ne (Or.inl (by decide)))
          refine ⟨hv_4, ?_⟩
          refine ⟨hv_4, ?_⟩
          intro σ13 eσ13
          have mσ13 : MI σ13 := by rw [eσ13]; exact MIs_au (a := 137) mσ10 rfl rfl
          have fσ13 : Fr [74, 132, 134, 135, 136, 137] [33] σ0 σ13 := by rw [eσ13]; exact Fr_si fσ10 (by decide) (fun h9 => absurd h9 (by decide))
          have k_12 : (gi σ13 74 1).toInt = (gi σ10 74 1).toInt := by rw [eσ13]; exact congrArg Int32.toInt (gi_si_ne (Or.inl (by decide)))
          have k_13 : (gi σ13 74 33).toInt = (gi σ10 74 33).toInt := by rw [eσ13]; exact congrArg Int32.toInt (gi_si_ne (Or.inl (by decide)))
          refine ⟨hv_4, ?_⟩
          intro σ15 eσ15
          have mσ15 : MI σ15 := by rw [eσ15]; exact MIs_au (a := 132) mσ13 rfl rfl
          have fσ15 : Fr [74, 132, 134, 135, 136, 137] [33] σ0 σ15 := by rw [eσ15]; exact Fr_si fσ13 (by decide) (fun h9 => absurd h9 (by decide))
          have k_14 : (gi σ15 74 1).toInt = (gi σ13 74 1).toInt := by rw [eσ15]; exact congrArg Int32.toInt (gi_si_ne (Or.inl (by decide)))
          have k_15 : (gi σ15 74 33).toInt = (gi σ13 74 33).toInt := by rw [eσ15]; exact congrArg Int32.toInt (gi_si_ne (Or.inl (by decide)))
          intro v16 ev16
          have t_16 : (x1 + (1 : Int32)).toInt = x1.toInt + 1 := i_add (x := x1) (y := (1 : Int32)) (by show (_ : Int) ≤ x1.toInt + 1; omega) (by show x1.toInt + 1 ≤ (_ : Int); omega)
          have t_17 : v16.toInt = (x1 + (1 : Int32)).toInt := congrArg Int32.toInt ev16
          exact ih10 v16 σ15 mσ15 fσ15 (by omega) (by omega) (by first | omega | assumption | rfl) (by omega)
  have U10 := T 9
  have f0 : Fr [74, 132, 134, 135, 136, 137] [33] σ0 σ0 := Fr_rf
  refine s_X12_save_0 C hN ?_
  intro σ1 eσ1
  have t_18 := MI_f1 m0
  have mσ1 : MI σ1 := by rw [eσ1]; exact MIs_f33 m0 (by omega) (by omega)
  have fσ1 : Fr [74, 132, 134, 135, 136, 137] [33] σ0 σ1 := by rw [eσ1]; exact Fr_si f0 (by decide) (fun _ => by decide)
  have k_19 : (gi σ1 74 1).toInt = (gi σ0 74 1).toInt := by rw [eσ1]; exact congrArg Int32.toInt (gi_si_ne (Or.inr (by decide)))
  have k_20 : (gi σ1 74 33).toInt = (gi σ0 74 1).toInt := by rw [eσ1]; exact congrArg Int32.toInt gi_si_eq
  have z_21 : (0 : Int32).toInt = 0 := rfl
  exact U10 (0 : Int32) σ1 mσ1 fσ1 (by omega) (by omega) (by first | omega | assumption | rfl) (by omega)
set_option maxRecDepth 100000 in
set_option maxHeartbeats 4000000 in
theorem k_X12_putBack {l : Launch} {V : Vx} {σ0 : Sg} {Qk : Sg → Prop} (m0 : MI σ0) (h9ret : ∀ (σ' : Sg), MI σ' → Fr [74, 105, 106, 107, 108] [1] σ0 σ' → ((gi σ' 74 1).toInt = (gi σ0 74 33).toInt) → Qk σ') : K_X12_putBack l V σ0 Qk := by
  refine e_X12_putBack (fun M hl hV hN C => ?_)
  subst hl
  subst hV
  have T : ∀ n : Nat, (∀ (x1 : Int32) (σ : Sg), MI σ → Fr [74, 105, 106, 107, 108] [1] σ0 σ → (0 ≤ x1.toInt) → (x1.toInt ≤ 6) → ((gi σ 74 1).toInt = (gi σ0 74 33).toInt) → (7 - x1.toInt).toNat < n → PS M 10 [(0, .ref 74), (1, .int x1)] [] σ (0, 0)) := by
    intro n
    induction n with
    | zero => exact fun _ _ _ _ _ _ _ h8 => absurd h8 (Nat.not_lt_zero _)
    | succ n ih =>
      have ih10 := ih
      · intro x1 σ mσ fσ lx1 ux1 i0 hmu
        refine s_X12_putBack_10 C hN ?_
        refine ⟨?_, ?_⟩
        · intro q_1
          have b_2 : (6 : Int) ≤ x1.toInt := Int32.le_iff_toInt_le.mp q_1
          exact h9ret σ mσ fσ (by first | omega | assumption | rfl)
        · intro q_1
          have b_3 : ¬ (6 : Int) ≤ x1.toInt := fun h9 => q_1 (Int32.le_iff_toInt_le.mpr h9)
          have hv_4 : vp_in x1 6 := vp_in_iff.mpr ⟨by omega, by omega⟩
          refine ⟨hv_4, ?_⟩
          refine ⟨hv_4, ?_⟩
          intro σ4 eσ4
          have t_5 := MI_a134 mσ hv_4
          have mσ4 : MI σ4 := by rw [eσ4]; exact MIs_a105 mσ (by omega) (by omega)
          have fσ4 : Fr [74, 105, 106, 107, 108] [1] σ0 σ4 := by rw [eσ4]; exact Fr_si fσ (by decide) (fun h9 => absurd h9 (by decide))
          have k_6 : (gi σ4 74 1).toInt = (gi σ 74 1).toInt := by rw [eσ4]; exact congrArg Int32.toInt (gi_si_ne (Or.inl (by decide)))
          have k_7 : (gi σ4 74 33).toInt = (gi σ 74 33).toInt := by rw [eσ4]; exact congrArg Int32.toInt (gi_si_ne (Or.inl (by decide)))
          refine ⟨hv_4, ?_⟩
          refine ⟨hv_4, ?_⟩
          intro σ7 eσ7
          have mσ7 : MI σ7 := by rw [eσ7]; exact MIs_au (a := 106) mσ4 rfl rfl
          have fσ7 : Fr [74, 105, 106, 107, 108] [1] σ0 σ7 := by rw [eσ7]; exact Fr_si fσ4 (by decide) (fun h9 => absurd h9 (by decide))
          have k_8 : (gi σ7 74 1).toInt = (gi σ4 74 1).toInt := by rw [eσ7]; exact congrArg Int32.toInt (gi_si_ne (Or.inl (by decide)))
          have k_9 : (gi σ7 74 33).toInt = (gi σ4 74 33).toInt := by rw [eσ7]; exact congrArg Int32.toInt (gi_si_ne (Or.inl (by decide)))
          refine ⟨hv_4, ?_⟩
          refine ⟨hv_4, ?_⟩
          intro σ10 eσ10
          have mσ10 : MI σ10 := by rw [eσ10]; exact MIs_au (a := 107) mσ7 rfl rfl
          have fσ10 : Fr [74, 105, 106, 107, 108] [1] σ0 σ10 := by rw [eσ10]; exact Fr_si fσ7 (by decide) (fun h9 => absurd h9 (by decide))
          have k_10 : (gi σ10 74 1).toInt = (gi σ7 74 1).toInt := by rw [eσ10]; exact congrArg Int32.toInt (gi_si_ne (Or.inl (by decide)))
          have k_11 : (gi σ10 74 33).toInt = (gi σ7 74 33).toInt := by rw [eσ10]; exact congrArg Int32.toInt (gi_si_ne (Or.inl (by decide)))
          refine ⟨hv_4, ?_⟩
          refine ⟨hv_4, ?_⟩
          intro σ13 eσ13
          have mσ13 : MI σ13 := by rw [eσ13]; exact MIs_au (a := 108) mσ10 rfl rfl
          have fσ13 : Fr [74, 105, 106, 107, 108] [1] σ0 σ13 := by rw [eσ13]; exact Fr_si fσ10 (by decide) (fun h9 => absurd h9 (by decide))
          have k_12 : (gi σ13 74 1).toInt = (gi σ10 74 1).toInt := by rw [eσ13]; exact congrArg Int32.toInt (gi_si_ne (Or.inl (by decide)))
          have k_13 : (gi σ13 74 33).toInt = (gi σ10 74 33).toInt := by rw [eσ13]; exact congrArg Int32.toInt (gi_si_ne (Or.inl (by decide)))
          intro v14 ev14
          have t_14 : (x1 + (1 : Int32)).toInt = x1.toInt + 1 := i_add (x := x1) (y := (1 : Int32)) (by show (_ : Int) ≤ x1.toInt + 1; omega) (by show x1.toInt + 1 ≤ (_ : Int); omega)
          have t_15 : v14.toInt = (x1 + (1 : Int32)).toInt := congrArg Int32.toInt ev14
          exact ih10 v14 σ13 mσ13 fσ13 (by omega) (by omega) (by first | omega | assumption | rfl) (by omega)
  have U10 := T 9
  have f0 : Fr [74, 105, 106, 107, 108] [1] σ0 σ0 := Fr_rf
  refine s_X12_putBack_0 C hN ?_
  intro σ1 eσ1
  have t_16 := MI_f33 m0
  have mσ1 : MI σ1 := by rw [eσ1]; exact MIs_f1 m0 (by omega) (by omega)
  have fσ1 : Fr [74, 105, 106, 107, 108] [1] σ0 σ1 := by rw [eσ1]; exact Fr_si f0 (by decide) (fun _ => by decide)
  have k_17 : (gi σ1 74 1).toInt = (gi σ0 74 33).toInt := by rw [eσ1]; exact congrArg Int32.toInt gi_si_eq
  have k_18 : (gi σ1 74 33).toInt = (gi σ0 74 33).toInt := by rw [eσ1]; exact congrArg Int32.toInt (gi_si_ne (Or.inr (by decide)))
  have z_19 : (0 : Int32).toInt = 0 := rfl
  exact U10 (0 : Int32) σ1 mσ1 fσ1 (by omega) (by omega) (by first | omega | assumption | rfl) (by omega)
set_option maxRecDepth 100000 in
set_option maxHeartbeats 4000000 in
theorem k_X12_all {l : Launch} {V : Vx} {σ0 : Sg} {Qk : Int32 → Sg → Prop} (m0 : MI σ0) (h9ret : ∀ (r : Int32) (σ' : Sg), MI σ' → Fr [] [] σ0 σ' → (0 ≤ r.toInt) → (r.toInt ≤ 59994) → Qk r σ') : K_X12_all l V σ0 Qk := by
  refine e_X12_all (fun M hl hV hN C => ?_)
  subst hl
  subst hV
  have T : ∀ n : Nat, (∀ (x1 : Int32) (x2 : Int32) (σ : Sg), MI σ → Fr [] [] σ0 σ → (0 ≤ x1.toInt) → (x1.toInt ≤ 59994) → (0 ≤ x2.toInt) → (x2.toInt ≤ 6) → (x1.toInt ≤ 9999 * x2.toInt) → (7 - x2.toInt).toNat < n → PS M 4 [(0, .ref 74), (1, .int x1), (2, .int x2)] [] σ (0, 0)) := by
    intro n
    induction n with
    | zero => exact fun _ _ _ _ _ _ _ _ _ _ h8 => absurd h8 (Nat.not_lt_zero _)
    | succ n ih =>
      have ih4 := ih
      · intro x1 x2 σ mσ fσ lx1 ux1 lx2 ux2 i0 hmu
        refine s_X12_all_4 C hN ?_
        refine ⟨?_, ?_⟩
        · intro q_1
          have t_2 := MI_f0 mσ
          have b_3 : (gi σ 74 0).toInt ≤ x2.toInt := Int32.le_iff_toInt_le.mp q_1
          exact h9ret x1 σ mσ fσ (by omega) (by omega)
        · intro q_1
          have t_4 := MI_f0 mσ
          have b_5 : ¬ (gi σ 74 0).toInt ≤ x2.toInt := fun h9 => q_1 (Int32.le_iff_toInt_le.mpr h9)
          have hv_6 : vp_in x2 6 := vp_in_iff.mpr ⟨by omega, by omega⟩
          refine ⟨hv_6, ?_⟩
          intro v3 ev3
          have t_7 := MI_a105 mσ hv_6
          have t_8 : (x1 + (gi σ 105 x2.toNatClampNeg)).toInt = x1.toInt + (gi σ 105 x2.toNatClampNeg).toInt := i_add (x := x1) (y := (gi σ 105 x2.toNatClampNeg)) (by show (_ : Int) ≤ x1.toInt + (gi σ 105 x2.toNatClampNeg).toInt; omega) (by show x1.toInt + (gi σ 105 x2.toNatClampNeg).toInt ≤ (_ : Int); omega)
          have t_9 : v3.toInt = (x1 + (gi σ 105 x2.toNatClampNeg)).toInt := congrArg Int32.toInt ev3
          intro v4 ev4
          have t_10 : (x2 + (1 : Int32)).toInt = x2.toInt + 1 := i_add (x := x2) (y := (1 : Int32)) (by show (_ : Int) ≤ x2.toInt + 1; omega) (by show x2.toInt + 1 ≤ (_ : Int); omega)
          have t_11 : v4.toInt = (x2 + (1 : Int32)).toInt := congrArg Int32.toInt ev4
          exact ih4 v3 v4 σ mσ fσ (by omega) (by omega) (by omega) (by omega) (by first | omega | assumption | rfl) (by omega)
  have U4 := T 9
  have f0 : Fr [] [] σ0 σ0 := Fr_rf
  refine s_X12_all_0 C hN ?_
  have z_12 : (0 : Int32).toInt = 0 := rfl
  exact U4 (0 : Int32) (0 : Int32) σ0 m0 f0 (by omega) (by omega) (by omega) (by omega) (by first | omega | assumption | rfl) (by omega)
set_option maxRecDepth 100000 in
set_option maxHeartbeats 4000000 in
theorem k_X12_set {l : Launch} {V : Vx} {a1 : Int32} {a2 : Int32} {a3 : Int32} {σ0 : Sg} {Qk : Int32 → Sg → Prop} (m0 : MI σ0) (h9ret : ∀ (r : Int32) (σ' : Sg), MI σ' → Fr [105, 106, 107, 108] [] σ0 σ' → Qk r σ') : K_X12_set l V a1 a2 a3 σ0 Qk := by
  refine e_X12_set (fun M hl hV hN C => ?_)
  subst hl
  subst hV
  have T : ∀ n : Nat, (∀ (x1 : Int32) (x2 : Int32) (x3 : Int32) (z0 : Int32) (z1 : Int32) (z2 : Int32) (σ : Sg), MI σ → Fr [105, 106, 107, 108] [] σ0 σ → (0 ≤ x1.toInt) → (x1.toInt ≤ 5) → (z1.toInt = 0) → (z2.toInt = x3.toInt) → ((x2.toInt = 0 ∧ z0.toInt = 9999) ∨ (¬ x2.toInt = 0 ∧ z0.toInt ≤ 99)) → 3 < n → PS M 45 [(0, .ref 74), (1, .int x1), (2, .int x2), (3, .int x3)] [.int z0, .int z1, .int z2, .ref 74] σ (0, 0)) ∧ (∀ (x1 : Int32) (x2 : Int32) (x3 : Int32) (x4 : Int32) (σ : Sg), MI σ → Fr [105, 106, 107, 108] [] σ0 σ → (0 ≤ x1.toInt) → (x1.toInt ≤ 5) → 2 < n → PS M 114 [(0, .ref 74), (1, .int x1), (2, .int x2), (3, .int x3), (4, .int x4)] [] σ (0, 0)) ∧ (∀ (x1 : Int32) (x2 : Int32) (x3 : Int32) (x4 : Int32) (σ : Sg), MI σ → Fr [105, 106, 107, 108] [] σ0 σ → (0 ≤ x1.toInt) → (x1.toInt ≤ 5) → 1 < n → PS M 138 [(0, .ref 74), (1, .int x1), (2, .int x2), (3, .int x3), (4, .int x4)] [] σ (0, 0)) := by
    intro n
    induction n with
    | zero => exact ⟨fun _ _ _ _ _ _ _ _ _ _ _ _ _ _ h8 => absurd h8 (Nat.not_lt_zero _), fun _ _ _ _ _ _ _ _ _ h8 => absurd h8 (Nat.not_lt_zero _), fun _ _ _ _ _ _ _ _ _ h8 => absurd h8 (Nat.not_lt_zero _)⟩
    | succ n ih =>
      obtain ⟨ih45, ih114, ih138⟩ := ih
      refine ⟨?_, ?_, ?_⟩
      · intro x1 x2 x3 z0 z1 z2 σ mσ fσ lx1 ux1 i0 i1 i2 hmu
        refine s_X12_set_45 C hN ?_
        refine k_X12_in mσ  (fun r2 σ1 mσ1 cσ1 plσ1 phσ1 (pσ1_0 : (r2.toInt = 1 ∧ z1.toInt ≤ z2.toInt ∧ z2.toInt ≤ z0.toInt) ∨ (r2.toInt = 0 ∧ (z2.toInt < z1.toInt ∨ z0.toInt < z2.toInt))) => ?_)
        obtain rfl := Fr_nil cσ1
        refine ⟨?_, ?_⟩
        · intro q_1
          have b_2 : ¬ r2.toInt = 0 := fun h9 => q_1 (Int32.toInt_inj.mp h9)
          refine ⟨?_, ?_⟩
          · intro q_3
            have w_4 := Int32.toInt_lt x2
            have w_5 := Int32.le_toInt x2
            have b_6 : ¬ x2.toInt = 0 := fun h9 => q_3 (Int32.toInt_inj.mp h9)
            refine ⟨?_, ?_⟩
            · intro q_7
              have b_8 : ¬ x2.toInt = 1 := fun h9 => q_7 (Int32.toInt_inj.mp h9)
              refine ⟨?_, ?_⟩
              · intro q_9
                have b_10 : ¬ x2.toInt = 2 := fun h9 => q_9 (Int32.toInt_inj.mp h9)
                have hv_11 : vp_in x1 6 := vp_in_iff.mpr ⟨by omega, by omega⟩
                refine ⟨hv_11, ?_⟩
                intro v8 ev8
                refine ⟨?_, ?_⟩
                · intro q_12
                  have b_13 : ¬ x2.toInt = 0 := fun h9 => q_12 (Int32.toInt_inj.mp h9)
                  exact ih114 x1 x2 x3 v8 σ mσ fσ (by omega) (by omega) (by omega)
                · intro q_12
                  have b_14 : x2.toInt = 0 := congrArg Int32.toInt q_12
                  refine ⟨hv_11, ?_⟩
                  intro σ11 eσ11
                  have w_15 := Int32.toInt_lt x3
                  have w_16 := Int32.le_toInt x3
                  have mσ11 : MI σ11 := by rw [eσ11]; exact MIs_a105 mσ (by omega) (by omega)
                  have fσ11 : Fr [105, 106, 107, 108] [] σ0 σ11 := by rw [eσ11]; exact Fr_si fσ (by decide) (fun h9 => absurd h9 (by decide))
                  exact ih114 x1 x2 x3 v8 σ11 mσ11 fσ11 (by omega) (by omega) (by omega)
              · intro q_9
                have b_17 : x2.toInt = 2 := congrArg Int32.toInt q_9
                have hv_18 : vp_in x1 6 := vp_in_iff.mpr ⟨by omega, by omega⟩
                refine ⟨hv_18, ?_⟩
                intro v13 ev13
                refine ⟨?_, ?_⟩
                · intro q_19
                  have b_20 : ¬ x2.toInt = 0 := fun h9 => q_19 (Int32.toInt_inj.mp h9)
                  exact ih114 x1 x2 x3 v13 σ mσ fσ (by omega) (by omega) (by omega)
                · intro q_19
                  have b_21 : x2.toInt = 0 := congrArg Int32.toInt q_19
                  refine ⟨hv_18, ?_⟩
                  intro σ16 eσ16
                  have w_22 := Int32.toInt_lt x3
                  have w_23 := Int32.le_toInt x3
                  have mσ16 : MI σ16 := by rw [eσ16]; exact MIs_a105 mσ (by omega) (by omega)
                  have fσ16 : Fr [105, 106, 107, 108] [] σ0 σ16 := by rw [eσ16]; exact Fr_si fσ (by decide) (fun h9 => absurd h9 (by decide))
                  exact ih114 x1 x2 x3 v13 σ16 mσ16 fσ16 (by omega) (by omega) (by omega)
            · intro q_7
              have b_24 : x2.toInt = 1 := congrArg Int32.toInt q_7
              have hv_25 : vp_in x1 6 := vp_in_iff.mpr ⟨by omega, by omega⟩
              refine ⟨hv_25, ?_⟩
              intro v18 ev18
              refine ⟨?_, ?_⟩
              · intro q_26
                have b_27 : ¬ x2.toInt = 0 := fun h9 => q_26 (Int32.toInt_inj.mp h9)
                exact ih114 x1 x2 x3 v18 σ mσ fσ (by omega) (by omega) (by omega)
              · intro q_26
                have b_28 : x2.toInt = 0 := congrArg Int32.toInt q_26
                refine ⟨hv_25, ?_⟩
                intro σ21 eσ21
                have w_29 := Int32.toInt_lt x3
                have w_30 := Int32.le_toInt x3
                have mσ21 : MI σ21 := by rw [eσ21]; exact MIs_a105 mσ (by omega) (by omega)
                have fσ21 : Fr [105, 106, 107, 108] [] σ0 σ21 := by rw [eσ21]; exact Fr_si fσ (by decide) (fun h9 => absurd h9 (by decide))
                exact ih114 x1 x2 x3 v18 σ21 mσ21 fσ21 (by omega) (by omega) (by omega)
          · intro q_3
            have w_31 := Int32.toInt_lt x2
            have w_32 := Int32.le_toInt x2
            have b_33 : x2.toInt = 0 := congrArg Int32.toInt q_3
            have hv_34 : vp_in x1 6 := vp_in_iff.mpr ⟨by omega, by omega⟩
            refine ⟨hv_34, ?_⟩
            intro v23 ev23
            have t_35 := MI_a105 mσ hv_34
            have t_36 : v23.toInt = (gi σ 105 x1.toNatClampNeg).toInt := congrArg Int32.toInt ev23
            refine ⟨?_, ?_⟩
            · intro q_37
              have b_38 : ¬ x2.toInt = 0 := fun h9 => q_37 (Int32.toInt_inj.mp h9)
              exact ih114 x1 x2 x3 v23 σ mσ fσ (by omega) (by omega) (by omega)
            · intro q_37
              have b_39 : x2.toInt = 0 := congrArg Int32.toInt q_37
              refine ⟨hv_34, ?_⟩
              intro σ26 eσ26
              have w_40 := Int32.toInt_lt x3
              have w_41 := Int32.le_toInt x3
              have mσ26 : MI σ26 := by rw [eσ26]; exact MIs_a105 mσ (by omega) (by omega)
              have fσ26 : Fr [105, 106, 107, 108] [] σ0 σ26 := by rw [eσ26]; exact Fr_si fσ (by decide) (fun h9 => absurd h9 (by decide))
              exact ih114 x1 x2 x3 v23 σ26 mσ26 fσ26 (by omega) (by omega) (by omega)
        · intro q_1
          have b_42 : r2.toInt = 0 := congrArg Int32.toInt q_1
          have z_43 : (-2 : Int32).toInt = -2 := rfl
          exact h9ret (-2 : Int32) σ mσ fσ
      · intro x1 x2 x3 x4 σ mσ fσ lx1 ux1 hmu
        refine s_X12_set_114 C hN ?_
        refine ⟨?_, ?_⟩
        · intro q_44
          have w_45 := Int32.toInt_lt x2
          have w_46 := Int32.le_toInt x2
          have b_47 : ¬ x2.toInt = 1 := fun h9 => q_44 (Int32.toInt_inj.mp h9)
          refine ⟨?_, ?_⟩
          · intro q_48
            have b_49 : ¬ x2.toInt = 2 := fun h9 => q_48 (Int32.toInt_inj.mp h9)
            exact ih138 x1 x2 x3 x4 σ mσ fσ (by omega) (by omega) (by omega)
          · intro q_48
            have b_50 : x2.toInt = 2 := congrArg Int32.toInt q_48
            have hv_51 : vp_in x1 6 := vp_in_iff.mpr ⟨by omega, by omega⟩
            refine ⟨hv_51, ?_⟩
            intro σ4 eσ4
            have mσ4 : MI σ4 := by rw [eσ4]; exact MIs_au (a := 107) mσ rfl rfl
            have fσ4 : Fr [105, 106, 107, 108] [] σ0 σ4 := by rw [eσ4]; exact Fr_si fσ (by decide) (fun h9 => absurd h9 (by decide))
            exact ih138 x1 x2 x3 x4 σ4 mσ4 fσ4 (by omega) (by omega) (by omega)
        · intro q_44
          have w_52 := Int32.toInt_lt x2
          have w_53 := Int32.le_toInt x2
          have b_54 : x2.toInt = 1 := congrArg Int32.toInt q_44
          have hv_55 : vp_in x1 6 := vp_in_iff.mpr ⟨by omega, by omega⟩
          refine ⟨hv_55, ?_⟩
          intro σ6 eσ6
          have mσ6 : MI σ6 := by rw [eσ6]; exact MIs_au (a := 106) mσ rfl rfl
          have fσ6 : Fr [105, 106, 107, 108] [] σ0 σ6 := by rw [eσ6]; exact Fr_si fσ (by decide) (fun h9 => absurd h9 (by decide))
          refine ⟨?_, ?_⟩
          · intro q_56
            have b_57 : ¬ x2.toInt = 2 := fun h9 => q_56 (Int32.toInt_inj.mp h9)
            exact ih138 x1 x2 x3 x4 σ6 mσ6 fσ6 (by omega) (by omega) (by omega)
          · intro q_56
            have b_58 : x2.toInt = 2 := congrArg Int32.toInt q_56
            refine ⟨hv_55, ?_⟩
            intro σ9 eσ9
            have mσ9 : MI σ9 := by rw [eσ9]; exact MIs_au (a := 107) mσ6 rfl rfl
            have fσ9 : Fr [105, 106, 107, 108] [] σ0 σ9 := by rw [eσ9]; exact Fr_si fσ6 (by decide) (fun h9 => absurd h9 (by decide))
            exact ih138 x1 x2 x3 x4 σ9 mσ9 fσ9 (by omega) (by omega) (by omega)
      · intro x1 x2 x3 x4 σ mσ fσ lx1 ux1 hmu
        refine s_X12_set_138 C hN ?_
        refine ⟨?_, ?_⟩
        · intro q_59
          have w_60 := Int32.toInt_lt x2
          have w_61 := Int32.le_toInt x2
          have b_62 : ¬ x2.toInt = 3 := fun h9 => q_59 (Int32.toInt_inj.mp h9)
          exact h9ret x4 σ mσ fσ
        · intro q_59
          have w_63 := Int32.toInt_lt x2
          have w_64 := Int32.le_toInt x2
          have b_65 : x2.toInt = 3 := congrArg Int32.toInt q_59
          have hv_66 : vp_in x1 6 := vp_in_iff.mpr ⟨by omega, by omega⟩
          refine ⟨hv_66, ?_⟩
          intro σ3 eσ3
          have mσ3 : MI σ3 := by rw [eσ3]; exact MIs_au (a := 108) mσ rfl rfl
          have fσ3 : Fr [105, 106, 107, 108] [] σ0 σ3 := by rw [eσ3]; exact Fr_si fσ (by decide) (fun h9 => absurd h9 (by decide))
          exact h9ret x4 σ3 mσ3 fσ3
  obtain ⟨U45, U114, U138⟩ := T 9
  have f0 : Fr [105, 106, 107, 108] [] σ0 σ0 := Fr_rf
  refine s_X12_set_0 C hN ?_
  refine k_X12_isMower m0  (fun r2 σ1 mσ1 cσ1 plσ1 phσ1 (pσ1_0 : (r2.toInt = 1 ∧ 0 ≤ a1.toInt ∧ a1.toInt < (gi σ0 74 0).toInt) ∨ (r2.toInt = 0 ∧ (a1.toInt < 0 ∨ (gi σ0 74 0).toInt ≤ a1.toInt))) => ?_)
  obtain rfl := Fr_nil cσ1
  have t_67 := MI_f0 m0
  refine ⟨?_, ?_⟩
  · intro q_68
    have b_69 : r2.toInt = 0 := congrArg Int32.toInt q_68
    have z_70 : (-1 : Int32).toInt = -1 := rfl
    exact h9ret (-1 : Int32) σ0 m0 f0
  · intro q_68
    have b_71 : ¬ r2.toInt = 0 := fun h9 => q_68 (Int32.toInt_inj.mp h9)
    refine k_X12_in m0  (fun r5 σ4 mσ4 cσ4 plσ4 phσ4 (pσ4_0 : (r5.toInt = 1 ∧ (0 : Int) ≤ a2.toInt ∧ a2.toInt ≤ (3 : Int)) ∨ (r5.toInt = 0 ∧ (a2.toInt < (0 : Int) ∨ (3 : Int) < a2.toInt))) => ?_)
    obtain rfl := Fr_nil cσ4
    refine ⟨?_, ?_⟩
    · intro q_72
      have b_73 : ¬ r5.toInt = 0 := fun h9 => q_72 (Int32.toInt_inj.mp h9)
      refine ⟨?_, ?_⟩
      · intro q_74
        have w_75 := Int32.toInt_lt a2
        have w_76 := Int32.le_toInt a2
        have b_77 : ¬ a2.toInt = 0 := fun h9 => q_74 (Int32.toInt_inj.mp h9)
        refine ⟨?_, ?_⟩
        · intro q_78
          have b_79 : ¬ a2.toInt = 1 := fun h9 => q_78 (Int32.toInt_inj.mp h9)
          have z_80 : (99 : Int32).toInt = 99 := rfl
          have z_81 : (0 : Int32).toInt = 0 := rfl
          exact U45 a1 a2 a3 (99 : Int32) (0 : Int32) a3 σ0 m0 f0 (by omega) (by omega) (by first | omega | assumption | rfl) (by first | omega | assumption | rfl) (by first | omega | assumption | rfl) (by omega)
        · intro q_78
          have b_82 : a2.toInt = 1 := congrArg Int32.toInt q_78
          have z_83 : (10 : Int32).toInt = 10 := rfl
          have z_84 : (0 : Int32).toInt = 0 := rfl
          exact U45 a1 a2 a3 (10 : Int32) (0 : Int32) a3 σ0 m0 f0 (by omega) (by omega) (by first | omega | assumption | rfl) (by first | omega | assumption | rfl) (by first | omega | assumption | rfl) (by omega)
      · intro q_74
        have w_85 := Int32.toInt_lt a2
        have w_86 := Int32.le_toInt a2
        have b_87 : a2.toInt = 0 := congrArg Int32.toInt q_74
        have z_88 : (9999 : Int32).toInt = 9999 := rfl
        have z_89 : (0 : Int32).toInt = 0 := rfl
        exact U45 a1 a2 a3 (9999 : Int32) (0 : Int32) a3 σ0 m0 f0 (by omega) (by omega) (by first | omega | assumption | rfl) (by first | omega | assumption | rfl) (by first | omega | assumption | rfl) (by omega)
    · intro q_72
      have b_90 : r5.toInt = 0 := congrArg Int32.toInt q_72
      have z_91 : (-1 : Int32).toInt = -1 := rfl
      exact h9ret (-1 : Int32) σ0 m0 f0
set_option maxRecDepth 100000 in
set_option maxHeartbeats 4000000 in
theorem k_X12_lastOf {l : Launch} {V : Vx} {a1 : Int32} {a2 : Int32} {σ0 : Sg} {Qk : Int32 → Sg → Prop} (m0 : MI σ0) (h9ret : ∀ (r : Int32) (σ' : Sg), MI σ' → Fr [] [] σ0 σ' → Qk r σ') : K_X12_lastOf l V a1 a2 σ0 Qk := by
  refine e_X12_lastOf (fun M hl hV hN C => ?_)
  subst hl
  subst hV
  have T : ∀ n : Nat, (∀ (x1 : Int32) (x3 : Int32) (x4 : Int32) (σ : Sg), MI σ → Fr [] [] σ0 σ → (0 ≤ x4.toInt) → (x4.toInt ≤ 60) → (61 - x4.toInt).toNat < n → PS M 8 [(0, .ref 74), (1, .int x1), (3, .int x3), (4, .int x4)] [] σ (0, 0)) := by
    intro n
    induction n with
    | zero => exact fun _ _ _ _ _ _ _ _ h8 => absurd h8 (Nat.not_lt_zero _)
    | succ n ih =>
      have ih8 := ih
      · intro x1 x3 x4 σ mσ fσ lx4 ux4 hmu
        refine s_X12_lastOf_8 C hN ?_
        refine k_X12_behind mσ  (fun r2 σ1 mσ1 cσ1 plσ1 phσ1 (pσ1_0 : ((gi σ 74 12).toInt < 0 ∧ r2.toInt = 0) ∨ (0 ≤ (gi σ 74 12).toInt ∧ r2.toInt = 10 * (gi σ 74 12).toInt + (gi σ 117 (gi σ 74 12).toNatClampNeg).toInt)) => ?_)
        obtain rfl := Fr_nil cσ1
        have t_1 := MI_f12 mσ
        refine ⟨?_, ?_⟩
        · intro q_2
          have b_3 : r2.toInt ≤ x4.toInt := Int32.le_iff_toInt_le.mp q_2
          exact h9ret x3 σ mσ fσ
        · intro q_2
          have b_4 : ¬ r2.toInt ≤ x4.toInt := fun h9 => q_2 (Int32.le_iff_toInt_le.mpr h9)
          have hv_5 : vp_in x4 60 := vp_in_iff.mpr ⟨by omega, by omega⟩
          refine ⟨hv_5, ?_⟩
          refine ⟨?_, ?_⟩
          · intro q_6
            have w_7 := Int32.toInt_lt x1
            have w_8 := Int32.le_toInt x1
            have b_9 : ¬ (gi σ 118 x4.toNatClampNeg).toInt = x1.toInt := fun h9 => q_6 (Int32.toInt_inj.mp h9)
            intro v6 ev6
            have t_10 : (x4 + (1 : Int32)).toInt = x4.toInt + 1 := i_add (x := x4) (y := (1 : Int32)) (by show (_ : Int) ≤ x4.toInt + 1; omega) (by show x4.toInt + 1 ≤ (_ : Int); omega)
            have t_11 : v6.toInt = (x4 + (1 : Int32)).toInt := congrArg Int32.toInt ev6
            exact ih8 x1 x3 v6 σ mσ fσ (by omega) (by omega) (by omega)
          · intro q_6
            have w_12 := Int32.toInt_lt x1
            have w_13 := Int32.le_toInt x1
            have b_14 : (gi σ 118 x4.toNatClampNeg).toInt = x1.toInt := congrArg Int32.toInt q_6
            refine ⟨hv_5, ?_⟩
            intro v8 ev8
            intro v9 ev9
            have t_15 : (x4 + (1 : Int32)).toInt = x4.toInt + 1 := i_add (x := x4) (y := (1 : Int32)) (by show (_ : Int) ≤ x4.toInt + 1; omega) (by show x4.toInt + 1 ≤ (_ : Int); omega)
            have t_16 : v9.toInt = (x4 + (1 : Int32)).toInt := congrArg Int32.toInt ev9
            exact ih8 x1 v8 v9 σ mσ fσ (by omega) (by omega) (by omega)
  have U8 := T 90
  have f0 : Fr [] [] σ0 σ0 := Fr_rf
  refine s_X12_lastOf_0 C hN ?_
  refine k_X12_begin m0  (fun r2 σ1 mσ1 cσ1 plσ1 phσ1 (pσ1_0 : ((gi σ0 74 12).toInt < 0 ∧ r2.toInt = 0) ∨ (0 ≤ (gi σ0 74 12).toInt ∧ r2.toInt = 10 * (gi σ0 74 12).toInt)) => ?_)
  obtain rfl := Fr_nil cσ1
  have t_17 := MI_f12 m0
  exact U8 a1 a2 r2 σ0 m0 f0 (by omega) (by omega) (by omega)
set_option maxRecDepth 100000 in
set_option maxHeartbeats 4000000 in
theorem k_X12_gap {l : Launch} {V : Vx} {σ0 : Sg} {Qk : Int32 → Sg → Prop} (m0 : MI σ0) (h9ret : ∀ (r : Int32) (σ' : Sg), MI σ' → Fr [] [] σ0 σ' → Qk r σ') : K_X12_gap l V σ0 Qk := by
  refine e_X12_gap (fun M hl hV hN C => ?_)
  subst hl
  subst hV
  have f0 : Fr [] [] σ0 σ0 := Fr_rf
  refine s_X12_gap_0 C hN ?_
  refine ⟨?_, ?_⟩
  · intro q_1
    have b_2 : (0 : Int) ≤ (gi σ0 74 28).toInt := Int32.le_iff_toInt_le.mp q_1
    exact h9ret (gi σ0 74 28) σ0 m0 f0
  · intro q_1
    have b_3 : ¬ (0 : Int) ≤ (gi σ0 74 28).toInt := fun h9 => q_1 (Int32.le_iff_toInt_le.mpr h9)
    refine k_X12_lastOf m0  (fun r3 σ2 mσ2 cσ2 => ?_)
    obtain rfl := Fr_nil cσ2
    exact h9ret r3 σ0 m0 f0
set_option maxRecDepth 100000 in
set_option maxHeartbeats 4000000 in
theorem k_X12_fieldLong {l : Launch} {V : Vx} {σ0 : Sg} {Qk : Int32 → Sg → Prop} (m0 : MI σ0) (h9ret : ∀ (r : Int32) (σ' : Sg), MI σ' → Fr [] [] σ0 σ' → Qk r σ') : K_X12_fieldLong l V σ0 Qk := by
  refine e_X12_fieldLong (fun M hl hV hN C => ?_)
  subst hl
  subst hV
  have f0 : Fr [] [] σ0 σ0 := Fr_rf
  refine s_X12_fieldLong_0 C hN ?_
  refine k_X12_lastOf m0  (fun r2 σ1 mσ1 cσ1 => ?_)
  obtain rfl := Fr_nil cσ1
  refine k_X12_most m0  (fun r4 σ3 mσ3 cσ3 (pσ3_0 : (1 : Int) ≤ r4.toInt ∧ r2.toInt ≤ r4.toInt ∧ (r4.toInt = (1 : Int) ∨ r4.toInt = r2.toInt)) => ?_)
  obtain rfl := Fr_nil cσ3
  exact h9ret r4 σ0 m0 f0
set_option maxRecDepth 100000 in
set_option maxHeartbeats 4000000 in
theorem k_X12_factOf {l : Launch} {V : Vx} {a1 : Int32} {a2 : Int32} {σ0 : Sg} {Qk : Int32 → Sg → Prop} (m0 : MI σ0) (l_a2 : 0 ≤ a2.toInt) (u_a2 : a2.toInt ≤ 5) (h9ret : ∀ (r : Int32) (σ' : Sg), MI σ' → Fr [] [] σ0 σ' → Qk r σ') : K_X12_factOf l V a1 a2 σ0 Qk := by
  refine e_X12_factOf (fun M hl hV hN C => ?_)
  subst hl
  subst hV
  have f0 : Fr [] [] σ0 σ0 := Fr_rf
  refine s_X12_factOf_0 C hN ?_
  refine ⟨?_, ?_, ?_, ?_, ?_, ?_⟩
  · intro q_1
    exact h9ret ((gi σ0 74 1) - (gi σ0 74 1) / (10 : Int32) * (10 : Int32)) σ0 m0 f0
  · intro q_1
    exact h9ret a2 σ0 m0 f0
  · intro q_1
    have hv_2 : vp_in a2 6 := vp_in_iff.mpr ⟨by omega, by omega⟩
    refine ⟨hv_2, ?_⟩
    exact h9ret (gi σ0 103 a2.toNatClampNeg) σ0 m0 f0
  · intro q_1
    exact h9ret (gi σ0 74 30) σ0 m0 f0
  · intro q_1
    have hv_3 : vp_in a2 6 := vp_in_iff.mpr ⟨by omega, by omega⟩
    refine ⟨hv_3, ?_⟩
    exact h9ret (gi σ0 106 a2.toNatClampNeg) σ0 m0 f0
  · intro q_1
    have hv_4 : vp_in a2 6 := vp_in_iff.mpr ⟨by omega, by omega⟩
    refine ⟨hv_4, ?_⟩
    exact h9ret ((gi σ0 107 a2.toNatClampNeg) / (10 : Int32)) σ0 m0 f0
set_option maxRecDepth 100000 in
set_option maxHeartbeats 4000000 in
theorem k_X12_hasty {l : Launch} {V : Vx} {a1 : Int32} {a2 : Int32} {σ0 : Sg} {Qk : Int32 → Sg → Prop} (m0 : MI σ0) (l_a1 : 0 ≤ a1.toInt) (u_a1 : a1.toInt ≤ 5) (h9ret : ∀ (r : Int32) (σ' : Sg), MI σ' → Fr [] [] σ0 σ' → Qk r σ') : K_X12_hasty l V a1 a2 σ0 Qk := by
  refine e_X12_hasty (fun M hl hV hN C => ?_)
  subst hl
  subst hV
  have f0 : Fr [] [] σ0 σ0 := Fr_rf
  refine s_X12_hasty_0 C hN ?_
  have hv_1 : vp_in a1 6 := vp_in_iff.mpr ⟨by omega, by omega⟩
  refine ⟨hv_1, ?_⟩
  refine ⟨?_, ?_⟩
  · intro q_2
    have b_3 : (gi σ0 106 a1.toNatClampNeg).toInt ≤ 5 := Int32.le_iff_toInt_le.mp q_2
    exact h9ret a2 σ0 m0 f0
  · intro q_2
    have b_4 : ¬ (gi σ0 106 a1.toNatClampNeg).toInt ≤ 5 := fun h9 => q_2 (Int32.le_iff_toInt_le.mpr h9)
    refine ⟨hv_1, ?_⟩
    exact h9ret (a2 + (gi σ0 104 a1.toNatClampNeg)) σ0 m0 f0
set_option maxRecDepth 100000 in
set_option maxHeartbeats 4000000 in
theorem k_X12_isPressed {l : Launch} {V : Vx} {a1 : Int32} {σ0 : Sg} {Qk : Int32 → Sg → Prop} (m0 : MI σ0) (l_a1 : 0 ≤ a1.toInt) (u_a1 : a1.toInt ≤ 5) (h9ret : ∀ (r : Int32) (σ' : Sg), MI σ' → Fr [] [] σ0 σ' → (0 ≤ r.toInt) → (r.toInt ≤ 1) → Qk r σ') : K_X12_isPressed l V a1 σ0 Qk := by
  refine e_X12_isPressed (fun M hl hV hN C => ?_)
  subst hl
  subst hV
  have f0 : Fr [] [] σ0 σ0 := Fr_rf
  refine s_X12_isPressed_0 C hN ?_
  refine ⟨?_, ?_⟩
  · intro q_1
    have t_2 := MI_f2 m0
    have t_3 : (a1 + (1 : Int32)).toInt = a1.toInt + 1 := i_add (x := a1) (y := (1 : Int32)) (by show (_ : Int) ≤ a1.toInt + 1; omega) (by show a1.toInt + 1 ≤ (_ : Int); omega)
    have b_4 : (gi σ0 74 2).toInt ≤ (a1 + (1 : Int32)).toInt := Int32.le_iff_toInt_le.mp q_1
    have z_5 : (0 : Int32).toInt = 0 := rfl
    exact h9ret (0 : Int32) σ0 m0 f0 (by omega) (by omega)
  · intro q_1
    have t_6 := MI_f2 m0
    have t_7 : (a1 + (1 : Int32)).toInt = a1.toInt + 1 := i_add (x := a1) (y := (1 : Int32)) (by show (_ : Int) ≤ a1.toInt + 1; omega) (by show a1.toInt + 1 ≤ (_ : Int); omega)
    have b_8 : ¬ (gi σ0 74 2).toInt ≤ (a1 + (1 : Int32)).toInt := fun h9 => q_1 (Int32.le_iff_toInt_le.mpr h9)
    have hv_9 : vp_in a1 6 := vp_in_iff.mpr ⟨by omega, by omega⟩
    refine ⟨hv_9, ?_⟩
    have t_10 := MI_a110 m0 hv_9
    have hv_11 : vp_in (gi σ0 110 a1.toNatClampNeg) 6 := vp_in_iff.mpr ⟨by omega, by omega⟩
    refine ⟨hv_11, ?_⟩
    have hv_12 : vp_in (a1 + (1 : Int32)) 6 := vp_in_iff.mpr ⟨by omega, by omega⟩
    refine ⟨hv_12, ?_⟩
    have t_13 := MI_a110 m0 hv_12
    have hv_14 : vp_in (gi σ0 110 (a1 + (1 : Int32)).toNatClampNeg) 6 := vp_in_iff.mpr ⟨by omega, by omega⟩
    refine ⟨hv_14, ?_⟩
    refine k_X12_gap m0  (fun r7 σ6 mσ6 cσ6 => ?_)
    obtain rfl := Fr_nil cσ6
    refine ⟨?_, ?_⟩
    · intro q_15
      have w_16 := Int32.toInt_lt r7
      have w_17 := Int32.le_toInt r7
      try have t_18 : (r7 + (3 : Int32)).toInt = r7.toInt + 3 := i_add (x := r7) (y := (3 : Int32)) (by show (_ : Int) ≤ r7.toInt + 3; omega) (by show r7.toInt + 3 ≤ (_ : Int); omega)
      have t_19 := MI_a105 m0 hv_11
      have t_20 := MI_a105 m0 hv_14
      have t_21 : ((gi σ0 105 (gi σ0 110 a1.toNatClampNeg).toNatClampNeg) - (gi σ0 105 (gi σ0 110 (a1 + (1 : Int32)).toNatClampNeg).toNatClampNeg)).toInt = (gi σ0 105 (gi σ0 110 a1.toNatClampNeg).toNatClampNeg).toInt - (gi σ0 105 (gi σ0 110 (a1 + (1 : Int32)).toNatClampNeg).toNatClampNeg).toInt := i_sub (x := (gi σ0 105 (gi σ0 110 a1.toNatClampNeg).toNatClampNeg)) (y := (gi σ0 105 (gi σ0 110 (a1 + (1 : Int32)).toNatClampNeg).toNatClampNeg)) (by show (_ : Int) ≤ (gi σ0 105 (gi σ0 110 a1.toNatClampNeg).toNatClampNeg).toInt - (gi σ0 105 (gi σ0 110 (a1 + (1 : Int32)).toNatClampNeg).toNatClampNeg).toInt; omega) (by show (gi σ0 105 (gi σ0 110 a1.toNatClampNeg).toNatClampNeg).toInt - (gi σ0 105 (gi σ0 110 (a1 + (1 : Int32)).toNatClampNeg).toNatClampNeg).toInt ≤ (_ : Int); omega)
      have b_22 : (r7 + (3 : Int32)).toInt ≤ ((gi σ0 105 (gi σ0 110 a1.toNatClampNeg).toNatClampNeg) - (gi σ0 105 (gi σ0 110 (a1 + (1 : Int32)).toNatClampNeg).toNatClampNeg)).toInt := Int32.le_iff_toInt_le.mp q_15
      have z_23 : (0 : Int32).toInt = 0 := rfl
      exact h9ret (0 : Int32) σ0 m0 f0 (by omega) (by omega)
    · intro q_15
      have w_24 := Int32.toInt_lt r7
      have w_25 := Int32.le_toInt r7
      try have t_26 : (r7 + (3 : Int32)).toInt = r7.toInt + 3 := i_add (x := r7) (y := (3 : Int32)) (by show (_ : Int) ≤ r7.toInt + 3; omega) (by show r7.toInt + 3 ≤ (_ : Int); omega)
      have t_27 := MI_a105 m0 hv_11
      have t_28 := MI_a105 m0 hv_14
      have t_29 : ((gi σ0 105 (gi σ0 110 a1.toNatClampNeg).toNatClampNeg) - (gi σ0 105 (gi σ0 110 (a1 + (1 : Int32)).toNatClampNeg).toNatClampNeg)).toInt = (gi σ0 105 (gi σ0 110 a1.toNatClampNeg).toNatClampNeg).toInt - (gi σ0 105 (gi σ0 110 (a1 + (1 : Int32)).toNatClampNeg).toNatClampNeg).toInt := i_sub (x := (gi σ0 105 (gi σ0 110 a1.toNatClampNeg).toNatClampNeg)) (y := (gi σ0 105 (gi σ0 110 (a1 + (1 : Int32)).toNatClampNeg).toNatClampNeg)) (by show (_ : Int) ≤ (gi σ0 105 (gi σ0 110 a1.toNatClampNeg).toNatClampNeg).toInt - (gi σ0 105 (gi σ0 110 (a1 + (1 : Int32)).toNatClampNeg).toNatClampNeg).toInt; omega) (by show (gi σ0 105 (gi σ0 110 a1.toNatClampNeg).toNatClampNeg).toInt - (gi σ0 105 (gi σ0 110 (a1 + (1 : Int32)).toNatClampNeg).toNatClampNeg).toInt ≤ (_ : Int); omega)
      have b_30 : ¬ (r7 + (3 : Int32)).toInt ≤ ((gi σ0 105 (gi σ0 110 a1.toNatClampNeg).toNatClampNeg) - (gi σ0 105 (gi σ0 110 (a1 + (1 : Int32)).toNatClampNeg).toNatClampNeg)).toInt := fun h9 => q_15 (Int32.le_iff_toInt_le.mpr h9)
      have z_31 : (1 : Int32).toInt = 1 := rfl
      exact h9ret (1 : Int32) σ0 m0 f0 (by omega) (by omega)
set_option maxRecDepth 100000 in
set_option maxHeartbeats 4000000 in
theorem k_X12_strideOf {l : Launch} {V : Vx} {a1 : Int32} {a2 : Int32} {a3 : Int32} {σ0 : Sg} {Qk : Int32 → Sg → Prop} (m0 : MI σ0) (l_a1 : 0 ≤ a1.toInt) (u_a1 : a1.toInt ≤ 5) (l_a2 : 0 ≤ a2.toInt) (u_a2 : a2.toInt ≤ 5) (h9ret : ∀ (r : Int32) (σ' : Sg), MI σ' → Fr [] [] σ0 σ' → Qk r σ') : K_X12_strideOf l V a1 a2 a3 σ0 Qk := by
  refine e_X12_strideOf (fun M hl hV hN C => ?_)
  subst hl
  subst hV
  have f0 : Fr [] [] σ0 σ0 := Fr_rf
  refine s_X12_strideOf_0 C hN ?_
  have hv_1 : vp_in a2 6 := vp_in_iff.mpr ⟨by omega, by omega⟩
  refine ⟨hv_1, ?_⟩
  refine k_X12_most m0  (fun r3 σ2 mσ2 cσ2 (pσ2_0 : (0 : Int) ≤ r3.toInt ∧ (a3 - ((gi σ0 107 a2.toNatClampNeg) / (20 : Int32))).toInt ≤ r3.toInt ∧ (r3.toInt = (0 : Int) ∨ r3.toInt = (a3 - ((gi σ0 107 a2.toNatClampNeg) / (20 : Int32))).toInt)) => ?_)
  obtain rfl := Fr_nil cσ2
  refine ⟨hv_1, ?_⟩
  refine ⟨?_, ?_, ?_, ?_, ?_, ?_, ?_⟩
  · intro q_2
    exact h9ret r3 σ0 m0 f0
  · intro q_2
    exact h9ret a3 σ0 m0 f0
  · intro q_2
    refine k_X12_hasty m0 (by omega) (by omega) (fun r7 σ6 mσ6 cσ6 => ?_)
    obtain rfl := Fr_nil cσ6
    exact h9ret r7 σ0 m0 f0
  · intro q_2
    exact h9ret (r3 / (2 : Int32)) σ0 m0 f0
  · intro q_2
    refine ⟨hv_1, ?_⟩
    exact h9ret (a3 - ((gi σ0 104 a2.toNatClampNeg) / (3 : Int32))) σ0 m0 f0
  · intro q_2
    refine k_X12_hasty m0 (by omega) (by omega) (fun r10 σ9 mσ9 cσ9 => ?_)
    obtain rfl := Fr_nil cσ9
    refine k_X12_isPressed m0 (by omega) (by omega) (fun r12 σ11 mσ11 cσ11 plσ11 phσ11 => ?_)
    obtain rfl := Fr_nil cσ11
    refine ⟨?_, ?_⟩
    · intro q_3
      have b_4 : r12.toInt = 0 := congrArg Int32.toInt q_3
      exact h9ret (r10 + (0 : Int32)) σ0 m0 f0
    · intro q_3
      have b_5 : ¬ r12.toInt = 0 := fun h9 => q_3 (Int32.toInt_inj.mp h9)
      exact h9ret (r10 + (2 : Int32)) σ0 m0 f0
  · intro q_2
    have t_6 : ((4 : Int32) * a2).toInt = 4 * a2.toInt := i_mull rfl (by omega) (by omega)
    have t_7 := MI_f1 m0
    have t_8 : ((gi σ0 74 1) - (((gi σ0 74 1) / (4 : Int32)) * (4 : Int32))).toInt = (gi σ0 74 1).toInt % 4 := i_rem (by omega) (by decide) rfl
    have t_9 : (((4 : Int32) * a2) + ((gi σ0 74 1) - (((gi σ0 74 1) / (4 : Int32)) * (4 : Int32)))).toInt = ((4 : Int32) * a2).toInt + ((gi σ0 74 1) - (((gi σ0 74 1) / (4 : Int32)) * (4 : Int32))).toInt := i_add (x := ((4 : Int32) * a2)) (y := ((gi σ0 74 1) - (((gi σ0 74 1) / (4 : Int32)) * (4 : Int32)))) (by show (_ : Int) ≤ ((4 : Int32) * a2).toInt + ((gi σ0 74 1) - (((gi σ0 74 1) / (4 : Int32)) * (4 : Int32))).toInt; omega) (by show ((4 : Int32) * a2).toInt + ((gi σ0 74 1) - (((gi σ0 74 1) / (4 : Int32)) * (4 : Int32))).toInt ≤ (_ : Int); omega)
    have hv_10 : vp_in (((4 : Int32) * a2) + ((gi σ0 74 1) - (gi σ0 74 1) / (4 : Int32) * (4 : Int32))) 24 := vp_in_iff.mpr ⟨by omega, by omega⟩
    refine ⟨hv_10, ?_⟩
    exact h9ret ((r3 / (2 : Int32)) + (gi σ0 109 (((4 : Int32) * a2) + ((gi σ0 74 1) - (gi σ0 74 1) / (4 : Int32) * (4 : Int32))).toNatClampNeg)) σ0 m0 f0
set_option maxRecDepth 100000 in
set_option maxHeartbeats 4000000 in
theorem k_X12_goWhet {l : Launch} {V : Vx} {σ0 : Sg} {Qk : Sg → Prop} (m0 : MI σ0) (pre0 : (gi σ0 74 1).toInt ≤ 18000) (h9ret : ∀ (σ' : Sg), MI σ' → Fr [74, 106, 107, 108] [1] σ0 σ' → ((gi σ' 74 1).toInt = (gi σ0 74 1).toInt + 1) → Qk σ') : K_X12_goWhet l V σ0 Qk := by
  refine e_X12_goWhet (fun M hl hV hN C => ?_)
  subst hl
  subst hV
  have T : ∀ n : Nat, (∀ (x1 : Int32) (σ : Sg), MI σ → Fr [74, 106, 107, 108] [1] σ0 σ → (0 ≤ x1.toInt) → (x1.toInt ≤ 6) → ((gi σ 74 1).toInt = (gi σ0 74 1).toInt) → (7 - x1.toInt).toNat < n → PS M 2 [(0, .ref 74), (1, .int x1)] [] σ (0, 0)) := by
    intro n
    induction n with
    | zero => exact fun _ _ _ _ _ _ _ h8 => absurd h8 (Nat.not_lt_zero _)
    | succ n ih =>
      have ih2 := ih
      · intro x1 σ mσ fσ lx1 ux1 i0 hmu
        refine s_X12_goWhet_2 C hN ?_
        refine ⟨?_, ?_⟩
        · intro q_1
          have t_2 := MI_f0 mσ
          have b_3 : (gi σ 74 0).toInt ≤ x1.toInt := Int32.le_iff_toInt_le.mp q_1
          intro σ2 eσ2
          have t_4 := MI_f1 mσ
          have t_5 : ((gi σ 74 1) + (1 : Int32)).toInt = (gi σ 74 1).toInt + 1 := i_add (x := (gi σ 74 1)) (y := (1 : Int32)) (by show (_ : Int) ≤ (gi σ 74 1).toInt + 1; omega) (by show (gi σ 74 1).toInt + 1 ≤ (_ : Int); omega)
          have mσ2 : MI σ2 := by rw [eσ2]; exact MIs_f1 mσ (by omega) (by omega)
          have fσ2 : Fr [74, 106, 107, 108] [1] σ0 σ2 := by rw [eσ2]; exact Fr_si fσ (by decide) (fun _ => by decide)
          have k_6 : (gi σ2 74 0).toInt = (gi σ 74 0).toInt := by rw [eσ2]; exact congrArg Int32.toInt (gi_si_ne (Or.inr (by decide)))
          have k_7 : (gi σ2 74 1).toInt = ((gi σ 74 1) + (1 : Int32)).toInt := by rw [eσ2]; exact congrArg Int32.toInt gi_si_eq
          exact h9ret σ2 mσ2 fσ2 (by first | omega | assumption | rfl)
        · intro q_1
          have t_8 := MI_f0 mσ
          have b_9 : ¬ (gi σ 74 0).toInt ≤ x1.toInt := fun h9 => q_1 (Int32.le_iff_toInt_le.mpr h9)
          have hv_10 : vp_in x1 6 := vp_in_iff.mpr ⟨by omega, by omega⟩
          refine ⟨hv_10, ?_⟩
          intro σ4 eσ4
          have mσ4 : MI σ4 := by rw [eσ4]; exact MIs_au (a := 106) mσ rfl rfl
          have fσ4 : Fr [74, 106, 107, 108] [1] σ0 σ4 := by rw [eσ4]; exact Fr_si fσ (by decide) (fun h9 => absurd h9 (by decide))
          have k_11 : (gi σ4 74 0).toInt = (gi σ 74 0).toInt := by rw [eσ4]; exact congrArg Int32.toInt (gi_si_ne (Or.inl (by decide)))
          have k_12 : (gi σ4 74 1).toInt = (gi σ 74 1).toInt := by rw [eσ4]; exact congrArg Int32.toInt (gi_si_ne (Or.inl (by decide)))
          refine ⟨hv_10, ?_⟩
          refine k_X12_most mσ4  (fun r7 σ6 mσ6 cσ6 (pσ6_0 : (0 : Int) ≤ r7.toInt ∧ ((gi σ4 107 x1.toNatClampNeg) - (1 : Int32)).toInt ≤ r7.toInt ∧ (r7.toInt = (0 : Int) ∨ r7.toInt = ((gi σ4 107 x1.toNatClampNeg) - (1 : Int32)).toInt)) => ?_)
          obtain rfl := Fr_nil cσ6
          refine ⟨hv_10, ?_⟩
          intro σ9 eσ9
          have mσ9 : MI σ9 := by rw [eσ9]; exact MIs_au (a := 107) mσ4 rfl rfl
          have fσ9 : Fr [74, 106, 107, 108] [1] σ0 σ9 := by rw [eσ9]; exact Fr_si fσ4 (by decide) (fun h9 => absurd h9 (by decide))
          have k_13 : (gi σ9 74 0).toInt = (gi σ4 74 0).toInt := by rw [eσ9]; exact congrArg Int32.toInt (gi_si_ne (Or.inl (by decide)))
          have k_14 : (gi σ9 74 1).toInt = (gi σ4 74 1).toInt := by rw [eσ9]; exact congrArg Int32.toInt (gi_si_ne (Or.inl (by decide)))
          refine ⟨hv_10, ?_⟩
          refine k_X12_most mσ9  (fun r12 σ11 mσ11 cσ11 (pσ11_0 : (0 : Int) ≤ r12.toInt ∧ ((gi σ9 108 x1.toNatClampNeg) - (1 : Int32)).toInt ≤ r12.toInt ∧ (r12.toInt = (0 : Int) ∨ r12.toInt = ((gi σ9 108 x1.toNatClampNeg) - (1 : Int32)).toInt)) => ?_)
          obtain rfl := Fr_nil cσ11
          refine ⟨hv_10, ?_⟩
          intro σ14 eσ14
          have mσ14 : MI σ14 := by rw [eσ14]; exact MIs_au (a := 108) mσ9 rfl rfl
          have fσ14 : Fr [74, 106, 107, 108] [1] σ0 σ14 := by rw [eσ14]; exact Fr_si fσ9 (by decide) (fun h9 => absurd h9 (by decide))
          have k_15 : (gi σ14 74 0).toInt = (gi σ9 74 0).toInt := by rw [eσ14]; exact congrArg Int32.toInt (gi_si_ne (Or.inl (by decide)))
          have k_16 : (gi σ14 74 1).toInt = (gi σ9 74 1).toInt := by rw [eσ14]; exact congrArg Int32.toInt (gi_si_ne (Or.inl (by decide)))
          intro v15 ev15
          have t_17 : (x1 + (1 : Int32)).toInt = x1.toInt + 1 := i_add (x := x1) (y := (1 : Int32)) (by show (_ : Int) ≤ x1.toInt + 1; omega) (by show x1.toInt + 1 ≤ (_ : Int); omega)
          have t_18 : v15.toInt = (x1 + (1 : Int32)).toInt := congrArg Int32.toInt ev15
          exact ih2 v15 σ14 mσ14 fσ14 (by omega) (by omega) (by first | omega | assumption | rfl) (by omega)
  have U2 := T 9
  have f0 : Fr [74, 106, 107, 108] [1] σ0 σ0 := Fr_rf
  refine s_X12_goWhet_0 C hN ?_
  have z_19 : (0 : Int32).toInt = 0 := rfl
  exact U2 (0 : Int32) σ0 m0 f0 (by omega) (by omega) (by first | omega | assumption | rfl) (by omega)
set_option maxRecDepth 100000 in
set_option maxHeartbeats 4000000 in
theorem k_X12_goPause {l : Launch} {V : Vx} {a1 : Int32} {σ0 : Sg} {Qk : Sg → Prop} (m0 : MI σ0) (l_a1 : 0 ≤ a1.toInt) (u_a1 : a1.toInt ≤ 60) (pre0 : (gi σ0 74 1).toInt ≤ 18000) (h9ret : ∀ (σ' : Sg), MI σ' → Fr [74, 107, 108] [1] σ0 σ' → ((gi σ' 74 1).toInt = (gi σ0 74 1).toInt + a1.toInt) → Qk σ') : K_X12_goPause l V a1 σ0 Qk := by
  refine e_X12_goPause (fun M hl hV hN C => ?_)
  subst hl
  subst hV
  have T : ∀ n : Nat, (∀ (x1 : Int32) (x2 : Int32) (σ : Sg), MI σ → Fr [74, 107, 108] [1] σ0 σ → (0 ≤ x1.toInt) → (x1.toInt ≤ 60) → (0 ≤ x2.toInt) → (x2.toInt ≤ 6) → ((gi σ 74 1).toInt = (gi σ0 74 1).toInt) → (x1.toInt = a1.toInt) → (7 - x2.toInt).toNat < n → PS M 2 [(0, .ref 74), (1, .int x1), (2, .int x2)] [] σ (0, 0)) := by
    intro n
    induction n with
    | zero => exact fun _ _ _ _ _ _ _ _ _ _ _ h8 => absurd h8 (Nat.not_lt_zero _)
    | succ n ih =>
      have ih2 := ih
      · intro x1 x2 σ mσ fσ lx1 ux1 lx2 ux2 i0 i1 hmu
        refine s_X12_goPause_2 C hN ?_
        refine ⟨?_, ?_⟩
        · intro q_1
          have t_2 := MI_f0 mσ
          have b_3 : (gi σ 74 0).toInt ≤ x2.toInt := Int32.le_iff_toInt_le.mp q_1
          intro σ2 eσ2
          have t_4 := MI_f1 mσ
          have t_5 : ((gi σ 74 1) + x1).toInt = (gi σ 74 1).toInt + x1.toInt := i_add (x := (gi σ 74 1)) (y := x1) (by show (_ : Int) ≤ (gi σ 74 1).toInt + x1.toInt; omega) (by show (gi σ 74 1).toInt + x1.toInt ≤ (_ : Int); omega)
          have mσ2 : MI σ2 := by rw [eσ2]; exact MIs_f1 mσ (by omega) (by omega)
          have fσ2 : Fr [74, 107, 108] [1] σ0 σ2 := by rw [eσ2]; exact Fr_si fσ (by decide) (fun _ => by decide)
          have k_6 : (gi σ2 74 0).toInt = (gi σ 74 0).toInt := by rw [eσ2]; exact congrArg Int32.toInt (gi_si_ne (Or.inr (by decide)))
          have k_7 : (gi σ2 74 1).toInt = ((gi σ 74 1) + x1).toInt := by rw [eσ2]; exact congrArg Int32.toInt gi_si_eq
          exact h9ret σ2 mσ2 fσ2 (by first | omega | assumption | rfl)
        · intro q_1
          have t_8 := MI_f0 mσ
          have b_9 : ¬ (gi σ 74 0).toInt ≤ x2.toInt := fun h9 => q_1 (Int32.le_iff_toInt_le.mpr h9)
          have hv_10 : vp_in x2 6 := vp_in_iff.mpr ⟨by omega, by omega⟩
          refine ⟨hv_10, ?_⟩
          have t_11 : ((3 : Int32) * x1).toInt = 3 * x1.toInt := i_mull rfl (by omega) (by omega)
          refine k_X12_most mσ  (fun r5 σ4 mσ4 cσ4 (pσ4_0 : (0 : Int) ≤ r5.toInt ∧ ((gi σ 107 x2.toNatClampNeg) - ((3 : Int32) * x1)).toInt ≤ r5.toInt ∧ (r5.toInt = (0 : Int) ∨ r5.toInt = ((gi σ 107 x2.toNatClampNeg) - ((3 : Int32) * x1)).toInt)) => ?_)
          obtain rfl := Fr_nil cσ4
          refine ⟨hv_10, ?_⟩
          intro σ7 eσ7
          have mσ7 : MI σ7 := by rw [eσ7]; exact MIs_au (a := 107) mσ rfl rfl
          have fσ7 : Fr [74, 107, 108] [1] σ0 σ7 := by rw [eσ7]; exact Fr_si fσ (by decide) (fun h9 => absurd h9 (by decide))
          have k_12 : (gi σ7 74 0).toInt = (gi σ 74 0).toInt := by rw [eσ7]; exact congrArg Int32.toInt (gi_si_ne (Or.inl (by decide)))
          have k_13 : (gi σ7 74 1).toInt = (gi σ 74 1).toInt := by rw [eσ7]; exact congrArg Int32.toInt (gi_si_ne (Or.inl (by decide)))
          refine ⟨hv_10, ?_⟩
          refine k_X12_most mσ7  (fun r10 σ9 mσ9 cσ9 (pσ9_0 : (0 : Int) ≤ r10.toInt ∧ ((gi σ7 108 x2.toNatClampNeg) - x1).toInt ≤ r10.toInt ∧ (r10.toInt = (0 : Int) ∨ r10.toInt = ((gi σ7 108 x2.toNatClampNeg) - x1).toInt)) => ?_)
          obtain rfl := Fr_nil cσ9
          refine ⟨hv_10, ?_⟩
          intro σ12 eσ12
          have mσ12 : MI σ12 := by rw [eσ12]; exact MIs_au (a := 108) mσ7 rfl rfl
          have fσ12 : Fr [74, 107, 108] [1] σ0 σ12 := by rw [eσ12]; exact Fr_si fσ7 (by decide) (fun h9 => absurd h9 (by decide))
          have k_14 : (gi σ12 74 0).toInt = (gi σ7 74 0).toInt := by rw [eσ12]; exact congrArg Int32.toInt (gi_si_ne (Or.inl (by decide)))
          have k_15 : (gi σ12 74 1).toInt = (gi σ7 74 1).toInt := by rw [eσ12]; exact congrArg Int32.toInt (gi_si_ne (Or.inl (by decide)))
          intro v13 ev13
          have t_16 : (x2 + (1 : Int32)).toInt = x2.toInt + 1 := i_add (x := x2) (y := (1 : Int32)) (by show (_ : Int) ≤ x2.toInt + 1; omega) (by show x2.toInt + 1 ≤ (_ : Int); omega)
          have t_17 : v13.toInt = (x2 + (1 : Int32)).toInt := congrArg Int32.toInt ev13
          exact ih2 x1 v13 σ12 mσ12 fσ12 (by omega) (by omega) (by omega) (by omega) (by first | omega | assumption | rfl) (by first | omega | assumption | rfl) (by omega)
  have U2 := T 9
  have f0 : Fr [74, 107, 108] [1] σ0 σ0 := Fr_rf
  refine s_X12_goPause_0 C hN ?_
  have z_18 : (0 : Int32).toInt = 0 := rfl
  exact U2 a1 (0 : Int32) σ0 m0 f0 (by omega) (by omega) (by omega) (by omega) (by first | omega | assumption | rfl) (by first | omega | assumption | rfl) (by omega)
set_option maxRecDepth 100000 in
set_option maxHeartbeats 4000000 in
theorem k_X12_isDone {l : Launch} {V : Vx} {σ0 : Sg} {Qk : Int32 → Sg → Prop} (m0 : MI σ0) (h9ret : ∀ (r : Int32) (σ' : Sg), MI σ' → Fr [] [] σ0 σ' → (0 ≤ r.toInt) → (r.toInt ≤ 1) → Qk r σ') : K_X12_isDone l V σ0 Qk := by
  refine e_X12_isDone (fun M hl hV hN C => ?_)
  subst hl
  subst hV
  have T : ∀ n : Nat, (∀ (x1 : Int32) (σ : Sg), MI σ → Fr [] [] σ0 σ → (0 ≤ x1.toInt) → (x1.toInt ≤ 6) → (7 - x1.toInt).toNat < n → PS M 2 [(0, .ref 74), (1, .int x1)] [] σ (0, 0)) := by
    intro n
    induction n with
    | zero => exact fun _ _ _ _ _ _ h8 => absurd h8 (Nat.not_lt_zero _)
    | succ n ih =>
      have ih2 := ih
      · intro x1 σ mσ fσ lx1 ux1 hmu
        refine s_X12_isDone_2 C hN ?_
        refine ⟨?_, ?_⟩
        · intro q_1
          have t_2 := MI_f0 mσ
          have b_3 : (gi σ 74 0).toInt ≤ x1.toInt := Int32.le_iff_toInt_le.mp q_1
          have z_4 : (1 : Int32).toInt = 1 := rfl
          exact h9ret (1 : Int32) σ mσ fσ (by omega) (by omega)
        · intro q_1
          have t_5 := MI_f0 mσ
          have b_6 : ¬ (gi σ 74 0).toInt ≤ x1.toInt := fun h9 => q_1 (Int32.le_iff_toInt_le.mpr h9)
          have hv_7 : vp_in x1 6 := vp_in_iff.mpr ⟨by omega, by omega⟩
          refine ⟨hv_7, ?_⟩
          refine k_X12_fieldLong mσ  (fun r4 σ3 mσ3 cσ3 => ?_)
          obtain rfl := Fr_nil cσ3
          refine ⟨?_, ?_⟩
          · intro q_8
            have w_9 := Int32.toInt_lt r4
            have w_10 := Int32.le_toInt r4
            have t_11 := MI_a105 mσ hv_7
            have b_12 : r4.toInt ≤ (gi σ 105 x1.toNatClampNeg).toInt := Int32.le_iff_toInt_le.mp q_8
            intro v6 ev6
            have t_13 : (x1 + (1 : Int32)).toInt = x1.toInt + 1 := i_add (x := x1) (y := (1 : Int32)) (by show (_ : Int) ≤ x1.toInt + 1; omega) (by show x1.toInt + 1 ≤ (_ : Int); omega)
            have t_14 : v6.toInt = (x1 + (1 : Int32)).toInt := congrArg Int32.toInt ev6
            exact ih2 v6 σ mσ fσ (by omega) (by omega) (by omega)
          · intro q_8
            have w_15 := Int32.toInt_lt r4
            have w_16 := Int32.le_toInt r4
            have t_17 := MI_a105 mσ hv_7
            have b_18 : ¬ r4.toInt ≤ (gi σ 105 x1.toNatClampNeg).toInt := fun h9 => q_8 (Int32.le_iff_toInt_le.mpr h9)
            have z_19 : (0 : Int32).toInt = 0 := rfl
            exact h9ret (0 : Int32) σ mσ fσ (by omega) (by omega)
  have U2 := T 9
  have f0 : Fr [] [] σ0 σ0 := Fr_rf
  refine s_X12_isDone_0 C hN ?_
  have z_20 : (0 : Int32).toInt = 0 := rfl
  exact U2 (0 : Int32) σ0 m0 f0 (by omega) (by omega) (by omega)
set_option maxRecDepth 100000 in
set_option maxHeartbeats 4000000 in
theorem k_X12_isTape {l : Launch} {V : Vx} {a1 : Int32} {σ0 : Sg} {Qk : Int32 → Sg → Prop} (m0 : MI σ0) (h9ret : ∀ (r : Int32) (σ' : Sg), MI σ' → Fr [] [] σ0 σ' → (0 ≤ r.toInt) → (r.toInt ≤ 1) → ((r.toInt = 1 ∧ 0 ≤ a1.toInt ∧ a1.toInt ≤ 5) ∨ (r.toInt = 0 ∧ (a1.toInt < 0 ∨ 5 < a1.toInt))) → Qk r σ') : K_X12_isTape l V a1 σ0 Qk := by
  refine e_X12_isTape (fun M hl hV hN C => ?_)
  subst hl
  subst hV
  have f0 : Fr [] [] σ0 σ0 := Fr_rf
  refine s_X12_isTape_0 C hN ?_
  refine k_X12_in m0  (fun r2 σ1 mσ1 cσ1 plσ1 phσ1 (pσ1_0 : (r2.toInt = 1 ∧ (0 : Int) ≤ a1.toInt ∧ a1.toInt ≤ (5 : Int)) ∨ (r2.toInt = 0 ∧ (a1.toInt < (0 : Int) ∨ (5 : Int) < a1.toInt))) => ?_)
  obtain rfl := Fr_nil cσ1
  refine ⟨i_bool (by omega) (by omega), ?_⟩
  exact h9ret r2 σ0 m0 f0 (by omega) (by omega) (by first | omega | assumption | rfl)
set_option maxRecDepth 100000 in
set_option maxHeartbeats 4000000 in
theorem k_X12_trace {l : Launch} {V : Vx} {a1 : Int32} {σ0 : Sg} {Qk : Int32 → Sg → Prop} (m0 : MI σ0) (h9ret : ∀ (r : Int32) (σ' : Sg), MI σ' → Fr [] [] σ0 σ' → Qk r σ') : K_X12_trace l V a1 σ0 Qk := by
  refine e_X12_trace (fun M hl hV hN C => ?_)
  subst hl
  subst hV
  have f0 : Fr [] [] σ0 σ0 := Fr_rf
  refine s_X12_trace_0 C hN ?_
  refine k_X12_in m0  (fun r2 σ1 mσ1 cσ1 plσ1 phσ1 (pσ1_0 : (r2.toInt = 1 ∧ (0 : Int) ≤ a1.toInt ∧ a1.toInt ≤ (19 : Int)) ∨ (r2.toInt = 0 ∧ (a1.toInt < (0 : Int) ∨ (19 : Int) < a1.toInt))) => ?_)
  obtain rfl := Fr_nil cσ1
  refine ⟨?_, ?_⟩
  · intro q_1
    have b_2 : r2.toInt = 0 := congrArg Int32.toInt q_1
    have z_3 : (-1 : Int32).toInt = -1 := rfl
    exact h9ret (-1 : Int32) σ0 m0 f0
  · intro q_1
    have b_4 : ¬ r2.toInt = 0 := fun h9 => q_1 (Int32.toInt_inj.mp h9)
    refine ⟨?_, ?_⟩
    · intro q_5
      have t_6 := MI_f69 m0
      have w_7 := Int32.toInt_lt a1
      have w_8 := Int32.le_toInt a1
      have b_9 : (gi σ0 74 69).toInt ≤ a1.toInt := Int32.le_iff_toInt_le.mp q_5
      have z_10 : (-1 : Int32).toInt = -1 := rfl
      exact h9ret (-1 : Int32) σ0 m0 f0
    · intro q_5
      have t_11 := MI_f69 m0
      have w_12 := Int32.toInt_lt a1
      have w_13 := Int32.le_toInt a1
      have b_14 : ¬ (gi σ0 74 69).toInt ≤ a1.toInt := fun h9 => q_5 (Int32.le_iff_toInt_le.mpr h9)
      have hv_15 : vp_in a1 20 := vp_in_iff.mpr ⟨by omega, by omega⟩
      refine ⟨hv_15, ?_⟩
      exact h9ret (gi σ0 170 a1.toNatClampNeg) σ0 m0 f0
set_option maxRecDepth 100000 in
set_option maxHeartbeats 4000000 in
theorem k_X12_count {l : Launch} {V : Vx} {a1 : Int32} {σ0 : Sg} {Qk : Int32 → Sg → Prop} (m0 : MI σ0) (h9ret : ∀ (r : Int32) (σ' : Sg), MI σ' → Fr [] [] σ0 σ' → Qk r σ') : K_X12_count l V a1 σ0 Qk := by
  refine e_X12_count (fun M hl hV hN C => ?_)
  subst hl
  subst hV
  have f0 : Fr [] [] σ0 σ0 := Fr_rf
  refine s_X12_count_0 C hN ?_
  refine ⟨?_, ?_, ?_, ?_, ?_, ?_, ?_, ?_⟩
  · intro q_1
    have z_2 : (-2 : Int32).toInt = -2 := rfl
    exact h9ret (-2 : Int32) σ0 m0 f0
  · intro q_1
    exact h9ret (gi σ0 74 0) σ0 m0 f0
  · intro q_1
    exact h9ret (gi σ0 74 11) σ0 m0 f0
  · intro q_1
    exact h9ret (gi σ0 74 41) σ0 m0 f0
  · intro q_1
    exact h9ret (gi σ0 74 45) σ0 m0 f0
  · intro q_1
    exact h9ret (gi σ0 74 46) σ0 m0 f0
  · intro q_1
    exact h9ret (gi σ0 74 13) σ0 m0 f0
  · intro q_1
    exact h9ret (gi σ0 74 69) σ0 m0 f0
set_option maxRecDepth 100000 in
set_option maxHeartbeats 4000000 in
theorem k_X12_narrow {l : Launch} {V : Vx} {a1 : Int32} {a2 : Int64} {σ0 : Sg} {Qk : Int64 → Sg → Prop} (m0 : MI σ0) (h9ret : ∀ (r : Int64) (σ' : Sg), MI σ' → Fr [] [] σ0 σ' → Qk r σ') : K_X12_narrow l V a1 a2 σ0 Qk := by
  refine e_X12_narrow (fun M hl hV hN C => ?_)
  subst hl
  subst hV
  have f0 : Fr [] [] σ0 σ0 := Fr_rf
  refine s_X12_narrow_0 C hN ?_
  refine ⟨?_, ?_⟩
  · intro q_1
    have w_2 := Int32.toInt_lt a1
    have w_3 := Int32.le_toInt a1
    have b_4 : ¬ a1.toInt = 0 := fun h9 => q_1 (Int32.toInt_inj.mp h9)
    refine ⟨?_, ?_⟩
    · intro q_5
      have b_6 : ¬ a1.toInt = 1 := fun h9 => q_5 (Int32.toInt_inj.mp h9)
      refine ⟨?_, ?_⟩
      · intro q_7
        have b_8 : ¬ a1.toInt = 2 := fun h9 => q_7 (Int32.toInt_inj.mp h9)
        refine ⟨?_, ?_⟩
        · intro q_9
          have b_10 : ¬ a1.toInt = 4 := fun h9 => q_9 (Int32.toInt_inj.mp h9)
          exact h9ret a2 σ0 m0 f0
        · intro q_9
          have b_11 : a1.toInt = 4 := congrArg Int32.toInt q_9
          refine ⟨?_, ?_⟩
          · intro q_12
            exact h9ret (0 : Int64) σ0 m0 f0
          · intro q_12
            exact h9ret (1 : Int64) σ0 m0 f0
      · intro q_7
        have b_13 : a1.toInt = 2 := congrArg Int32.toInt q_7
        exact h9ret a2.toInt32.toInt64 σ0 m0 f0
    · intro q_5
      have b_14 : a1.toInt = 1 := congrArg Int32.toInt q_5
      exact h9ret a2.toInt32.toInt16.toInt32.toInt64 σ0 m0 f0
  · intro q_1
    have w_15 := Int32.toInt_lt a1
    have w_16 := Int32.le_toInt a1
    have b_17 : a1.toInt = 0 := congrArg Int32.toInt q_1
    exact h9ret a2.toInt32.toInt8.toInt32.toInt64 σ0 m0 f0
