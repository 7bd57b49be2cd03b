set_option maxRecDepth 100000 in
set_option maxHeartbeats 4000000 in
theorem k_X12_tape {l : Launch} {V : Vx} {a1 : Int32} {a2 : Int32} {a3 : Int32} {σ0 : Sg} {Qk : Int32 → Sg → Prop} (m0 : MI σ0) (h9ret : ∀ (r : Int32) (σ' : Sg), MI σ' → Fr [171, 172, 173] [] σ0 σ' → Qk r σ') : K_X12_tape l V a1 a2 a3 σ0 Qk := by
  refine e_X12_tape (fun M hl hV hN C => ?_)
  subst hl
  subst hV
  have T : ∀ n : Nat, (∀ (x1 : Int32) (x2 : Int32) (x3 : Int32) (σ : Sg), MI σ → Fr [171, 172, 173] [] σ0 σ → (0 ≤ x1.toInt) → (x1.toInt ≤ 5) → (-1 ≤ x2.toInt) → (x2.toInt ≤ 4) → (x2.toInt < 0 ∨ (0 ≤ x3.toInt ∧ x3.toInt ≤ 60)) → 100 < n → PS M 44 [(0, .ref 74), (1, .int x1), (2, .int x2), (3, .int x3)] [] σ (0, 0)) ∧ (∀ (x1 : Int32) (x4 : Int32) (σ : Sg), MI σ → Fr [171, 172, 173] [] σ0 σ → (0 ≤ x1.toInt) → (x1.toInt ≤ 5) → (0 ≤ x4.toInt) → (x4.toInt ≤ 60) → (61 - x4.toInt).toNat < n → PS M 69 [(0, .ref 74), (1, .int x1), (4, .int x4)] [] σ (0, 0)) := by
    intro n
    induction n with
    | zero => exact ⟨fun _ _ _ _ _ _ _ _ _ _ _ h8 => absurd h8 (Nat.not_lt_zero _), fun _ _ _ _ _ _ _ _ _ h8 => absurd h8 (Nat.not_lt_zero _)⟩
    | succ n ih =>
      obtain ⟨ih44, ih69⟩ := ih
      refine ⟨?_, ?_⟩
      · intro x1 x2 x3 σ mσ fσ lx1 ux1 lx2 ux2 i0 hmu
        refine s_X12_tape_44 C hN ?_
        have hv_1 : vp_in x1 6 := vp_in_iff.mpr ⟨by omega, by omega⟩
        refine ⟨hv_1, ?_⟩
        intro σ2 eσ2
        have mσ2 : MI σ2 := by rw [eσ2]; exact MIs_a171 mσ (by omega) (by omega)
        have fσ2 : Fr [171, 172, 173] [] σ0 σ2 := by rw [eσ2]; exact Fr_si fσ (by decide) (fun h9 => absurd h9 (by decide))
        refine ⟨?_, ?_⟩
        · intro q_2
          have b_3 : (0 : Int) ≤ x2.toInt := Int32.le_iff_toInt_le.mp q_2
          refine ⟨hv_1, ?_⟩
          intro σ5 eσ5
          have w_4 := Int32.toInt_lt x3
          have w_5 := Int32.le_toInt x3
          have mσ5 : MI σ5 := by rw [eσ5]; exact MIs_a172 mσ2 (by omega) (by omega)
          have fσ5 : Fr [171, 172, 173] [] σ0 σ5 := by rw [eσ5]; exact Fr_si fσ2 (by decide) (fun h9 => absurd h9 (by decide))
          have z_6 : (0 : Int32).toInt = 0 := rfl
          exact ih69 x1 (0 : Int32) σ5 mσ5 fσ5 (by omega) (by omega) (by omega) (by omega) (by omega)
        · intro q_2
          have b_7 : ¬ (0 : Int) ≤ x2.toInt := fun h9 => q_2 (Int32.le_iff_toInt_le.mpr h9)
          refine ⟨hv_1, ?_⟩
          intro σ7 eσ7
          have z_8 : (0 : Int32).toInt = 0 := rfl
          have mσ7 : MI σ7 := by rw [eσ7]; exact MIs_a172 mσ2 (by omega) (by omega)
          have fσ7 : Fr [171, 172, 173] [] σ0 σ7 := by rw [eσ7]; exact Fr_si fσ2 (by decide) (fun h9 => absurd h9 (by decide))
          exact ih69 x1 (0 : Int32) σ7 mσ7 fσ7 (by omega) (by omega) (by omega) (by omega) (by omega)
      · intro x1 x4 σ mσ fσ lx1 ux1 lx4 ux4 hmu
        refine s_X12_tape_69 C hN ?_
        refine ⟨?_, ?_⟩
        · intro q_9
          have b_10 : (60 : Int) ≤ x4.toInt := Int32.le_iff_toInt_le.mp q_9
          have z_11 : (1 : Int32).toInt = 1 := rfl
          exact h9ret (1 : Int32) σ mσ fσ
        · intro q_9
          have b_12 : ¬ (60 : Int) ≤ x4.toInt := fun h9 => q_9 (Int32.le_iff_toInt_le.mpr h9)
          have t_13 : ((60 : Int32) * x1).toInt = 60 * x1.toInt := i_mull rfl (by omega) (by omega)
          have t_14 : (((60 : Int32) * x1) + x4).toInt = ((60 : Int32) * x1).toInt + x4.toInt := i_add (x := ((60 : Int32) * x1)) (y := x4) (by show (_ : Int) ≤ ((60 : Int32) * x1).toInt + x4.toInt; omega) (by show ((60 : Int32) * x1).toInt + x4.toInt ≤ (_ : Int); omega)
          have hv_15 : vp_in (((60 : Int32) * x1) + x4) 360 := vp_in_iff.mpr ⟨by omega, by omega⟩
          refine ⟨hv_15, ?_⟩
          intro σ3 eσ3
          have mσ3 : MI σ3 := by rw [eσ3]; exact MIs_l mσ
          have fσ3 : Fr [171, 172, 173] [] σ0 σ3 := by rw [eσ3]; exact Fr_sl fσ (by decide)
          intro v4 ev4
          have t_16 : (x4 + (1 : Int32)).toInt = x4.toInt + 1 := i_add (x := x4) (y := (1 : Int32)) (by show (_ : Int) ≤ x4.toInt + 1; omega) (by show x4.toInt + 1 ≤ (_ : Int); omega)
          have t_17 : v4.toInt = (x4 + (1 : Int32)).toInt := congrArg Int32.toInt ev4
          exact ih69 x1 v4 σ3 mσ3 fσ3 (by omega) (by omega) (by omega) (by omega) (by omega)
  obtain ⟨U44, U69⟩ := T 200
  have f0 : Fr [171, 172, 173] [] σ0 σ0 := Fr_rf
  refine s_X12_tape_0 C hN ?_
  refine k_X12_isTape m0  (fun r2 σ1 mσ1 cσ1 plσ1 phσ1 (pσ1_0 : (r2.toInt = 1 ∧ 0 ≤ a1.toInt ∧ a1.toInt ≤ 5) ∨ (r2.toInt = 0 ∧ (a1.toInt < 0 ∨ 5 < a1.toInt))) => ?_)
  obtain rfl := Fr_nil cσ1
  refine ⟨?_, ?_⟩
  · intro q_18
    have b_19 : ¬ r2.toInt = 0 := fun h9 => q_18 (Int32.toInt_inj.mp h9)
    refine k_X12_in m0  (fun r5 σ4 mσ4 cσ4 plσ4 phσ4 (pσ4_0 : (r5.toInt = 1 ∧ ((-1) : Int) ≤ a2.toInt ∧ a2.toInt ≤ (4 : Int)) ∨ (r5.toInt = 0 ∧ (a2.toInt < ((-1) : Int) ∨ (4 : Int) < a2.toInt))) => ?_)
    obtain rfl := Fr_nil cσ4
    refine ⟨?_, ?_⟩
    · intro q_20
      have b_21 : r5.toInt = 0 := congrArg Int32.toInt q_20
      have z_22 : (-2 : Int32).toInt = -2 := rfl
      exact h9ret (-2 : Int32) σ0 m0 f0
    · intro q_20
      have b_23 : ¬ r5.toInt = 0 := fun h9 => q_20 (Int32.toInt_inj.mp h9)
      refine ⟨?_, ?_⟩
      · intro q_24
        have w_25 := Int32.toInt_lt a2
        have w_26 := Int32.le_toInt a2
        have b_27 : a2.toInt < 0 := Int32.lt_iff_toInt_lt.mp q_24
        refine ⟨?_, ?_⟩
        · intro q_28
          have b_29 : a2.toInt < 0 := Int32.lt_iff_toInt_lt.mp q_28
          exact U44 a1 a2 a3 σ0 m0 f0 (by omega) (by omega) (by omega) (by omega) (by first | omega | assumption | rfl) (by omega)
        · intro q_28
          have b_30 : ¬ a2.toInt < 0 := fun h9 => q_28 (Int32.lt_iff_toInt_lt.mpr h9)
          refine ⟨?_, ?_⟩
          · intro q_31
            have w_32 := Int32.toInt_lt a3
            have w_33 := Int32.le_toInt a3
            have b_34 : (0 : Int) ≤ a3.toInt := Int32.le_iff_toInt_le.mp q_31
            exact U44 a1 a2 a3 σ0 m0 f0 (by omega) (by omega) (by omega) (by omega) (by first | omega | assumption | rfl) (by omega)
          · intro q_31
            have w_35 := Int32.toInt_lt a3
            have w_36 := Int32.le_toInt a3
            have b_37 : ¬ (0 : Int) ≤ a3.toInt := fun h9 => q_31 (Int32.le_iff_toInt_le.mpr h9)
            have z_38 : (-14 : Int32).toInt = -14 := rfl
            exact h9ret (-14 : Int32) σ0 m0 f0
      · intro q_24
        have w_39 := Int32.toInt_lt a2
        have w_40 := Int32.le_toInt a2
        have b_41 : ¬ a2.toInt < 0 := fun h9 => q_24 (Int32.lt_iff_toInt_lt.mpr h9)
        refine ⟨?_, ?_⟩
        · intro q_42
          have w_43 := Int32.toInt_lt a3
          have w_44 := Int32.le_toInt a3
          have b_45 : a3.toInt ≤ 60 := Int32.le_iff_toInt_le.mp q_42
          refine ⟨?_, ?_⟩
          · intro q_46
            have b_47 : a2.toInt < 0 := Int32.lt_iff_toInt_lt.mp q_46
            exact U44 a1 a2 a3 σ0 m0 f0 (by omega) (by omega) (by omega) (by omega) (by first | omega | assumption | rfl) (by omega)
          · intro q_46
            have b_48 : ¬ a2.toInt < 0 := fun h9 => q_46 (Int32.lt_iff_toInt_lt.mpr h9)
            refine ⟨?_, ?_⟩
            · intro q_49
              have b_50 : (0 : Int) ≤ a3.toInt := Int32.le_iff_toInt_le.mp q_49
              exact U44 a1 a2 a3 σ0 m0 f0 (by omega) (by omega) (by omega) (by omega) (by first | omega | assumption | rfl) (by omega)
            · intro q_49
              have b_51 : ¬ (0 : Int) ≤ a3.toInt := fun h9 => q_49 (Int32.le_iff_toInt_le.mpr h9)
              have z_52 : (-14 : Int32).toInt = -14 := rfl
              exact h9ret (-14 : Int32) σ0 m0 f0
        · intro q_42
          have w_53 := Int32.toInt_lt a3
          have w_54 := Int32.le_toInt a3
          have b_55 : ¬ a3.toInt ≤ 60 := fun h9 => q_42 (Int32.le_iff_toInt_le.mpr h9)
          have z_56 : (-2 : Int32).toInt = -2 := rfl
          exact h9ret (-2 : Int32) σ0 m0 f0
  · intro q_18
    have b_57 : r2.toInt = 0 := congrArg Int32.toInt q_18
    have z_58 : (-1 : Int32).toInt = -1 := rfl
    exact h9ret (-1 : Int32) σ0 m0 f0
set_option maxRecDepth 100000 in
set_option maxHeartbeats 4000000 in
theorem k_X12_shift {l : Launch} {V : Vx} {a1 : Int32} {a2 : Int32} {a3 : Int32} {a4 : Int32} {a5 : Int32} {σ0 : Sg} {Qk : Int32 → Sg → Prop} (m0 : MI σ0) (h9ret : ∀ (r : Int32) (σ' : Sg), MI σ' → Fr [173, 174] [] σ0 σ' → Qk r σ') : K_X12_shift l V a1 a2 a3 a4 a5 σ0 Qk := by
  refine e_X12_shift (fun M hl hV hN C => ?_)
  subst hl
  subst hV
  have T : ∀ n : Nat, (∀ (x1 : Int32) (x2 : Int32) (x3 : Int32) (x4 : Int32) (x5 : Int32) (x6 : Int32) (σ : Sg), MI σ → Fr [173, 174] [] σ0 σ → (0 ≤ x1.toInt) → (x1.toInt ≤ 5) → (0 ≤ x2.toInt) → (x2.toInt ≤ 60) → (0 ≤ x3.toInt) → (x3.toInt ≤ 5) → (0 ≤ x4.toInt) → (x4.toInt ≤ 60) → (0 ≤ x5.toInt) → (x5.toInt ≤ 60) → (0 ≤ x6.toInt) → (x6.toInt ≤ 60) → (x2.toInt + x5.toInt ≤ 60) → (x4.toInt + x5.toInt ≤ 60) → (61 - x6.toInt).toNat + 100 < n → PS M 104 [(0, .ref 74), (1, .int x1), (2, .int x2), (3, .int x3), (4, .int x4), (5, .int x5), (6, .int x6)] [] σ (0, 0)) ∧ (∀ (x3 : Int32) (x4 : Int32) (x5 : Int32) (x6 : Int32) (σ : Sg), MI σ → Fr [173, 174] [] σ0 σ → (0 ≤ x3.toInt) → (x3.toInt ≤ 5) → (0 ≤ x4.toInt) → (x4.toInt ≤ 60) → (0 ≤ x5.toInt) → (x5.toInt ≤ 60) → (0 ≤ x6.toInt) → (x6.toInt ≤ 60) → (x4.toInt + x5.toInt ≤ 60) → (61 - x6.toInt).toNat < n → PS M 141 [(0, .ref 74), (3, .int x3), (4, .int x4), (5, .int x5), (6, .int x6)] [] σ (0, 0)) := by
    intro n
    induction n with
    | zero => exact ⟨fun _ _ _ _ _ _ _ _ _ _ _ _ _ _ _ _ _ _ _ _ _ _ _ h8 => absurd h8 (Nat.not_lt_zero _), fun _ _ _ _ _ _ _ _ _ _ _ _ _ _ _ _ h8 => absurd h8 (Nat.not_lt_zero _)⟩
    | succ n ih =>
      obtain ⟨ih104, ih141⟩ := ih
      refine ⟨?_, ?_⟩
      · intro x1 x2 x3 x4 x5 x6 σ mσ fσ lx1 ux1 lx2 ux2 lx3 ux3 lx4 ux4 lx5 ux5 lx6 ux6 i0 i1 hmu
        refine s_X12_shift_104 C hN ?_
        refine ⟨?_, ?_⟩
        · intro q_1
          have b_2 : x5.toInt ≤ x6.toInt := Int32.le_iff_toInt_le.mp q_1
          have z_3 : (0 : Int32).toInt = 0 := rfl
          exact ih141 x3 x4 x5 (0 : Int32) σ mσ fσ (by omega) (by omega) (by omega) (by omega) (by omega) (by omega) (by omega) (by omega) (by first | omega | assumption | rfl) (by omega)
        · intro q_1
          have b_4 : ¬ x5.toInt ≤ x6.toInt := fun h9 => q_1 (Int32.le_iff_toInt_le.mpr h9)
          have t_5 : ((60 : Int32) * x1).toInt = 60 * x1.toInt := i_mull rfl (by omega) (by omega)
          have t_6 : (((60 : Int32) * x1) + x2).toInt = ((60 : Int32) * x1).toInt + x2.toInt := i_add (x := ((60 : Int32) * x1)) (y := x2) (by show (_ : Int) ≤ ((60 : Int32) * x1).toInt + x2.toInt; omega) (by show ((60 : Int32) * x1).toInt + x2.toInt ≤ (_ : Int); omega)
          have t_7 : ((((60 : Int32) * x1) + x2) + x6).toInt = (((60 : Int32) * x1) + x2).toInt + x6.toInt := i_add (x := (((60 : Int32) * x1) + x2)) (y := x6) (by show (_ : Int) ≤ (((60 : Int32) * x1) + x2).toInt + x6.toInt; omega) (by show (((60 : Int32) * x1) + x2).toInt + x6.toInt ≤ (_ : Int); omega)
          have hv_8 : vp_in ((((60 : Int32) * x1) + x2) + x6) 360 := vp_in_iff.mpr ⟨by omega, by omega⟩
          refine ⟨hv_8, ?_⟩
          have hv_9 : vp_in x6 60 := vp_in_iff.mpr ⟨by omega, by omega⟩
          refine ⟨hv_9, ?_⟩
          intro σ4 eσ4
          have mσ4 : MI σ4 := by rw [eσ4]; exact MIs_l mσ
          have fσ4 : Fr [173, 174] [] σ0 σ4 := by rw [eσ4]; exact Fr_sl fσ (by decide)
          intro v5 ev5
          have t_10 : (x6 + (1 : Int32)).toInt = x6.toInt + 1 := i_add (x := x6) (y := (1 : Int32)) (by show (_ : Int) ≤ x6.toInt + 1; omega) (by show x6.toInt + 1 ≤ (_ : Int); omega)
          have t_11 : v5.toInt = (x6 + (1 : Int32)).toInt := congrArg Int32.toInt ev5
          exact ih104 x1 x2 x3 x4 x5 v5 σ4 mσ4 fσ4 (by omega) (by omega) (by omega) (by omega) (by omega) (by omega) (by omega) (by omega) (by omega) (by omega) (by omega) (by omega) (by first | omega | assumption | rfl) (by first | omega | assumption | rfl) (by omega)
      · intro x3 x4 x5 x6 σ mσ fσ lx3 ux3 lx4 ux4 lx5 ux5 lx6 ux6 i0 hmu
        refine s_X12_shift_141 C hN ?_
        refine ⟨?_, ?_⟩
        · intro q_12
          have b_13 : x5.toInt ≤ x6.toInt := Int32.le_iff_toInt_le.mp q_12
          exact h9ret x5 σ mσ fσ
        · intro q_12
          have b_14 : ¬ x5.toInt ≤ x6.toInt := fun h9 => q_12 (Int32.le_iff_toInt_le.mpr h9)
          have hv_15 : vp_in x6 60 := vp_in_iff.mpr ⟨by omega, by omega⟩
          refine ⟨hv_15, ?_⟩
          have t_16 : ((60 : Int32) * x3).toInt = 60 * x3.toInt := i_mull rfl (by omega) (by omega)
          have t_17 : (((60 : Int32) * x3) + x4).toInt = ((60 : Int32) * x3).toInt + x4.toInt := i_add (x := ((60 : Int32) * x3)) (y := x4) (by show (_ : Int) ≤ ((60 : Int32) * x3).toInt + x4.toInt; omega) (by show ((60 : Int32) * x3).toInt + x4.toInt ≤ (_ : Int); omega)
          have t_18 : ((((60 : Int32) * x3) + x4) + x6).toInt = (((60 : Int32) * x3) + x4).toInt + x6.toInt := i_add (x := (((60 : Int32) * x3) + x4)) (y := x6) (by show (_ : Int) ≤ (((60 : Int32) * x3) + x4).toInt + x6.toInt; omega) (by show (((60 : Int32) * x3) + x4).toInt + x6.toInt ≤ (_ : Int); omega)
          have hv_19 : vp_in ((((60 : Int32) * x3) + x4) + x6) 360 := vp_in_iff.mpr ⟨by omega, by omega⟩
          refine ⟨hv_19, ?_⟩
          intro σ4 eσ4
          have mσ4 : MI σ4 := by rw [eσ4]; exact MIs_l mσ
          have fσ4 : Fr [173, 174] [] σ0 σ4 := by rw [eσ4]; exact Fr_sl fσ (by decide)
          intro v5 ev5
          have t_20 : (x6 + (1 : Int32)).toInt = x6.toInt + 1 := i_add (x := x6) (y := (1 : Int32)) (by show (_ : Int) ≤ x6.toInt + 1; omega) (by show x6.toInt + 1 ≤ (_ : Int); omega)
          have t_21 : v5.toInt = (x6 + (1 : Int32)).toInt := congrArg Int32.toInt ev5
          exact ih141 x3 x4 x5 v5 σ4 mσ4 fσ4 (by omega) (by omega) (by omega) (by omega) (by omega) (by omega) (by omega) (by omega) (by first | omega | assumption | rfl) (by omega)
  obtain ⟨U104, U141⟩ := T 300
  have f0 : Fr [173, 174] [] σ0 σ0 := Fr_rf
  refine s_X12_shift_0 C hN ?_
  refine k_X12_isTape m0  (fun r2 σ1 mσ1 cσ1 plσ1 phσ1 (pσ1_0 : (r2.toInt = 1 ∧ 0 ≤ a1.toInt ∧ a1.toInt ≤ 5) ∨ (r2.toInt = 0 ∧ (a1.toInt < 0 ∨ 5 < a1.toInt))) => ?_)
  obtain rfl := Fr_nil cσ1
  refine ⟨?_, ?_⟩
  · intro q_22
    have b_23 : r2.toInt = 0 := congrArg Int32.toInt q_22
    have z_24 : (-1 : Int32).toInt = -1 := rfl
    exact h9ret (-1 : Int32) σ0 m0 f0
  · intro q_22
    have b_25 : ¬ r2.toInt = 0 := fun h9 => q_22 (Int32.toInt_inj.mp h9)
    refine k_X12_isTape m0  (fun r5 σ4 mσ4 cσ4 plσ4 phσ4 (pσ4_0 : (r5.toInt = 1 ∧ 0 ≤ a3.toInt ∧ a3.toInt ≤ 5) ∨ (r5.toInt = 0 ∧ (a3.toInt < 0 ∨ 5 < a3.toInt))) => ?_)
    obtain rfl := Fr_nil cσ4
    refine ⟨?_, ?_⟩
    · intro q_26
      have b_27 : ¬ r5.toInt = 0 := fun h9 => q_26 (Int32.toInt_inj.mp h9)
      have w_28 := Int32.toInt_lt a1
      have w_29 := Int32.le_toInt a1
      have hv_30 : vp_in a1 6 := vp_in_iff.mpr ⟨by omega, by omega⟩
      refine ⟨hv_30, ?_⟩
      refine ⟨?_, ?_⟩
      · intro q_31
        have t_32 := MI_a171 m0 hv_30
        have b_33 : (gi σ0 171 a1.toNatClampNeg).toInt < 0 := Int32.lt_iff_toInt_lt.mp q_31
        have z_34 : (-11 : Int32).toInt = -11 := rfl
        exact h9ret (-11 : Int32) σ0 m0 f0
      · intro q_31
        have t_35 := MI_a171 m0 hv_30
        have b_36 : ¬ (gi σ0 171 a1.toNatClampNeg).toInt < 0 := fun h9 => q_31 (Int32.lt_iff_toInt_lt.mpr h9)
        have w_37 := Int32.toInt_lt a3
        have w_38 := Int32.le_toInt a3
        have hv_39 : vp_in a3 6 := vp_in_iff.mpr ⟨by omega, by omega⟩
        refine ⟨hv_39, ?_⟩
        refine ⟨?_, ?_⟩
        · intro q_40
          have t_41 := MI_a171 m0 hv_39
          have b_42 : (0 : Int) ≤ (gi σ0 171 a3.toNatClampNeg).toInt := Int32.le_iff_toInt_le.mp q_40
          refine ⟨hv_30, ?_⟩
          refine ⟨hv_39, ?_⟩
          refine ⟨?_, ?_⟩
          · intro q_43
            have b_44 : (gi σ0 171 a1.toNatClampNeg).toInt = (gi σ0 171 a3.toNatClampNeg).toInt := congrArg Int32.toInt q_43
            refine ⟨?_, ?_⟩
            · intro q_45
              have w_46 := Int32.toInt_lt a5
              have w_47 := Int32.le_toInt a5
              have b_48 : a5.toInt < 0 := Int32.lt_iff_toInt_lt.mp q_45
              have z_49 : (-13 : Int32).toInt = -13 := rfl
              exact h9ret (-13 : Int32) σ0 m0 f0
            · intro q_45
              have w_50 := Int32.toInt_lt a5
              have w_51 := Int32.le_toInt a5
              have b_52 : ¬ a5.toInt < 0 := fun h9 => q_45 (Int32.lt_iff_toInt_lt.mpr h9)
              refine ⟨?_, ?_⟩
              · intro q_53
                have w_54 := Int32.toInt_lt a2
                have w_55 := Int32.le_toInt a2
                have b_56 : a2.toInt < 0 := Int32.lt_iff_toInt_lt.mp q_53
                have z_57 : (-13 : Int32).toInt = -13 := rfl
                exact h9ret (-13 : Int32) σ0 m0 f0
              · intro q_53
                have w_58 := Int32.toInt_lt a2
                have w_59 := Int32.le_toInt a2
                have b_60 : ¬ a2.toInt < 0 := fun h9 => q_53 (Int32.lt_iff_toInt_lt.mpr h9)
                refine ⟨?_, ?_⟩
                · intro q_61
                  have w_62 := Int32.toInt_lt a4
                  have w_63 := Int32.le_toInt a4
                  have b_64 : a4.toInt < 0 := Int32.lt_iff_toInt_lt.mp q_61
                  have z_65 : (-13 : Int32).toInt = -13 := rfl
                  exact h9ret (-13 : Int32) σ0 m0 f0
                · intro q_61
                  have w_66 := Int32.toInt_lt a4
                  have w_67 := Int32.le_toInt a4
                  have b_68 : ¬ a4.toInt < 0 := fun h9 => q_61 (Int32.lt_iff_toInt_lt.mpr h9)
                  refine ⟨hv_30, ?_⟩
                  refine ⟨?_, ?_⟩
                  · intro q_69
                    have t_70 := MI_a172 m0 hv_30
                    try have t_71 : ((gi σ0 172 a1.toNatClampNeg) - a5).toInt = (gi σ0 172 a1.toNatClampNeg).toInt - a5.toInt := i_sub (x := (gi σ0 172 a1.toNatClampNeg)) (y := a5) (by show (_ : Int) ≤ (gi σ0 172 a1.toNatClampNeg).toInt - a5.toInt; omega) (by show (gi σ0 172 a1.toNatClampNeg).toInt - a5.toInt ≤ (_ : Int); omega)
                    have b_72 : ((gi σ0 172 a1.toNatClampNeg) - a5).toInt < a2.toInt := Int32.lt_iff_toInt_lt.mp q_69
                    have z_73 : (-13 : Int32).toInt = -13 := rfl
                    exact h9ret (-13 : Int32) σ0 m0 f0
                  · intro q_69
                    have t_74 := MI_a172 m0 hv_30
                    try have t_75 : ((gi σ0 172 a1.toNatClampNeg) - a5).toInt = (gi σ0 172 a1.toNatClampNeg).toInt - a5.toInt := i_sub (x := (gi σ0 172 a1.toNatClampNeg)) (y := a5) (by show (_ : Int) ≤ (gi σ0 172 a1.toNatClampNeg).toInt - a5.toInt; omega) (by show (gi σ0 172 a1.toNatClampNeg).toInt - a5.toInt ≤ (_ : Int); omega)
                    have b_76 : ¬ ((gi σ0 172 a1.toNatClampNeg) - a5).toInt < a2.toInt := fun h9 => q_69 (Int32.lt_iff_toInt_lt.mpr h9)
                    refine ⟨hv_39, ?_⟩
                    refine ⟨?_, ?_⟩
                    · intro q_77
                      have t_78 := MI_a172 m0 hv_39
                      try have t_79 : ((gi σ0 172 a3.toNatClampNeg) - a5).toInt = (gi σ0 172 a3.toNatClampNeg).toInt - a5.toInt := i_sub (x := (gi σ0 172 a3.toNatClampNeg)) (y := a5) (by show (_ : Int) ≤ (gi σ0 172 a3.toNatClampNeg).toInt - a5.toInt; omega) (by show (gi σ0 172 a3.toNatClampNeg).toInt - a5.toInt ≤ (_ : Int); omega)
                      have b_80 : a4.toInt ≤ ((gi σ0 172 a3.toNatClampNeg) - a5).toInt := Int32.le_iff_toInt_le.mp q_77
                      have z_81 : (0 : Int32).toInt = 0 := rfl
                      exact U104 a1 a2 a3 a4 a5 (0 : Int32) σ0 m0 f0 (by omega) (by omega) (by omega) (by omega) (by omega) (by omega) (by omega) (by omega) (by omega) (by omega) (by omega) (by omega) (by first | omega | assumption | rfl) (by first | omega | assumption | rfl) (by omega)
                    · intro q_77
                      have t_82 := MI_a172 m0 hv_39
                      try have t_83 : ((gi σ0 172 a3.toNatClampNeg) - a5).toInt = (gi σ0 172 a3.toNatClampNeg).toInt - a5.toInt := i_sub (x := (gi σ0 172 a3.toNatClampNeg)) (y := a5) (by show (_ : Int) ≤ (gi σ0 172 a3.toNatClampNeg).toInt - a5.toInt; omega) (by show (gi σ0 172 a3.toNatClampNeg).toInt - a5.toInt ≤ (_ : Int); omega)
                      have b_84 : ¬ a4.toInt ≤ ((gi σ0 172 a3.toNatClampNeg) - a5).toInt := fun h9 => q_77 (Int32.le_iff_toInt_le.mpr h9)
                      have z_85 : (-13 : Int32).toInt = -13 := rfl
                      exact h9ret (-13 : Int32) σ0 m0 f0
          · intro q_43
            have b_86 : ¬ (gi σ0 171 a1.toNatClampNeg).toInt = (gi σ0 171 a3.toNatClampNeg).toInt := fun h9 => q_43 (Int32.toInt_inj.mp h9)
            have z_87 : (-12 : Int32).toInt = -12 := rfl
            exact h9ret (-12 : Int32) σ0 m0 f0
        · intro q_40
          have t_88 := MI_a171 m0 hv_39
          have b_89 : ¬ (0 : Int) ≤ (gi σ0 171 a3.toNatClampNeg).toInt := fun h9 => q_40 (Int32.le_iff_toInt_le.mpr h9)
          have z_90 : (-11 : Int32).toInt = -11 := rfl
          exact h9ret (-11 : Int32) σ0 m0 f0
    · intro q_26
      have b_91 : r5.toInt = 0 := congrArg Int32.toInt q_26
      have z_92 : (-1 : Int32).toInt = -1 := rfl
      exact h9ret (-1 : Int32) σ0 m0 f0
set_option maxRecDepth 100000 in
set_option maxHeartbeats 4000000 in
theorem k_X12_judge {l : Launch} {V : Vx} {a1 : Int32} {a2 : Int32} {σ0 : Sg} {Qk : Int32 → Sg → Prop} (m0 : MI σ0) (h9ret : ∀ (r : Int32) (σ' : Sg), MI σ' → Fr [] [] σ0 σ' → Qk r σ') : K_X12_judge l V a1 a2 σ0 Qk := by
  refine e_X12_judge (fun M hl hV hN C => ?_)
  subst hl
  subst hV
  have T : ∀ n : Nat, (∀ (x1 : Int32) (x2 : Int32) (x3 : Int32) (σ : Sg), MI σ → Fr [] [] σ0 σ → (0 ≤ x1.toInt) → (x1.toInt ≤ 5) → (0 ≤ x3.toInt) → (x3.toInt ≤ 6) → (7 - x3.toInt).toNat < n → PS M 34 [(0, .ref 74), (1, .int x1), (2, .int x2), (3, .int x3)] [] σ (0, 0)) := by
    intro n
    induction n with
    | zero => exact fun _ _ _ _ _ _ _ _ _ _ h8 => absurd h8 (Nat.not_lt_zero _)
    | succ n ih =>
      have ih34 := ih
      · intro x1 x2 x3 σ mσ fσ lx1 ux1 lx3 ux3 hmu
        refine s_X12_judge_34 C hN ?_
        refine ⟨?_, ?_⟩
        · intro q_1
          have t_2 := MI_f0 mσ
          have b_3 : (gi σ 74 0).toInt ≤ x3.toInt := Int32.le_iff_toInt_le.mp q_1
          have z_4 : (-5 : Int32).toInt = -5 := rfl
          exact h9ret (-5 : Int32) σ mσ fσ
        · intro q_1
          have t_5 := MI_f0 mσ
          have b_6 : ¬ (gi σ 74 0).toInt ≤ x3.toInt := fun h9 => q_1 (Int32.le_iff_toInt_le.mpr h9)
          have hv_7 : vp_in x1 6 := vp_in_iff.mpr ⟨by omega, by omega⟩
          refine ⟨hv_7, ?_⟩
          refine ⟨?_, ?_⟩
          · intro q_8
            have t_9 := MI_a171 mσ hv_7
            have b_10 : (gi σ 171 x1.toNatClampNeg).toInt < 0 := Int32.lt_iff_toInt_lt.mp q_8
            exact h9ret ((100 : Int32) + x3) σ mσ fσ
          · intro q_8
            have t_11 := MI_a171 mσ hv_7
            have b_12 : ¬ (gi σ 171 x1.toNatClampNeg).toInt < 0 := fun h9 => q_8 (Int32.lt_iff_toInt_lt.mpr h9)
            refine ⟨?_, ?_⟩
            · intro q_13
              have w_14 := Int32.toInt_lt x2
              have w_15 := Int32.le_toInt x2
              have b_16 : x2.toInt < 0 := Int32.lt_iff_toInt_lt.mp q_13
              exact h9ret ((100 : Int32) + x3) σ mσ fσ
            · intro q_13
              have w_17 := Int32.toInt_lt x2
              have w_18 := Int32.le_toInt x2
              have b_19 : ¬ x2.toInt < 0 := fun h9 => q_13 (Int32.lt_iff_toInt_lt.mpr h9)
              refine ⟨hv_7, ?_⟩
              refine ⟨?_, ?_⟩
              · intro q_20
                have t_21 := MI_a172 mσ hv_7
                have t_22 : ((gi σ 172 x1.toNatClampNeg) - x3).toInt = (gi σ 172 x1.toNatClampNeg).toInt - x3.toInt := i_sub (x := (gi σ 172 x1.toNatClampNeg)) (y := x3) (by show (_ : Int) ≤ (gi σ 172 x1.toNatClampNeg).toInt - x3.toInt; omega) (by show (gi σ 172 x1.toNatClampNeg).toInt - x3.toInt ≤ (_ : Int); omega)
                have t_23 : (((gi σ 172 x1.toNatClampNeg) - x3) - (1 : Int32)).toInt = ((gi σ 172 x1.toNatClampNeg) - x3).toInt - 1 := i_sub (x := ((gi σ 172 x1.toNatClampNeg) - x3)) (y := (1 : Int32)) (by show (_ : Int) ≤ ((gi σ 172 x1.toNatClampNeg) - x3).toInt - 1; omega) (by show ((gi σ 172 x1.toNatClampNeg) - x3).toInt - 1 ≤ (_ : Int); omega)
                have b_24 : x2.toInt ≤ (((gi σ 172 x1.toNatClampNeg) - x3) - (1 : Int32)).toInt := Int32.le_iff_toInt_le.mp q_20
                have t_25 : ((60 : Int32) * x1).toInt = 60 * x1.toInt := i_mull rfl (by omega) (by omega)
                try have t_26 : (((60 : Int32) * x1) + x2).toInt = ((60 : Int32) * x1).toInt + x2.toInt := i_add (x := ((60 : Int32) * x1)) (y := x2) (by show (_ : Int) ≤ ((60 : Int32) * x1).toInt + x2.toInt; omega) (by show ((60 : Int32) * x1).toInt + x2.toInt ≤ (_ : Int); omega)
                try have t_27 : ((((60 : Int32) * x1) + x2) + x3).toInt = (((60 : Int32) * x1) + x2).toInt + x3.toInt := i_add (x := (((60 : Int32) * x1) + x2)) (y := x3) (by show (_ : Int) ≤ (((60 : Int32) * x1) + x2).toInt + x3.toInt; omega) (by show (((60 : Int32) * x1) + x2).toInt + x3.toInt ≤ (_ : Int); omega)
                have hv_28 : vp_in ((((60 : Int32) * x1) + x2) + x3) 360 := vp_in_iff.mpr ⟨by omega, by omega⟩
                refine ⟨hv_28, ?_⟩
                have hv_29 : vp_in x3 6 := vp_in_iff.mpr ⟨by omega, by omega⟩
                refine ⟨hv_29, ?_⟩
                refine ⟨?_, ?_⟩
                · intro q_30
                  intro v10 ev10
                  have t_31 : (x3 + (1 : Int32)).toInt = x3.toInt + 1 := i_add (x := x3) (y := (1 : Int32)) (by show (_ : Int) ≤ x3.toInt + 1; omega) (by show x3.toInt + 1 ≤ (_ : Int); omega)
                  have t_32 : v10.toInt = (x3 + (1 : Int32)).toInt := congrArg Int32.toInt ev10
                  exact ih34 x1 x2 v10 σ mσ fσ (by omega) (by omega) (by omega) (by omega) (by omega)
                · intro q_30
                  exact h9ret x3 σ mσ fσ
              · intro q_20
                have t_33 := MI_a172 mσ hv_7
                have t_34 : ((gi σ 172 x1.toNatClampNeg) - x3).toInt = (gi σ 172 x1.toNatClampNeg).toInt - x3.toInt := i_sub (x := (gi σ 172 x1.toNatClampNeg)) (y := x3) (by show (_ : Int) ≤ (gi σ 172 x1.toNatClampNeg).toInt - x3.toInt; omega) (by show (gi σ 172 x1.toNatClampNeg).toInt - x3.toInt ≤ (_ : Int); omega)
                have t_35 : (((gi σ 172 x1.toNatClampNeg) - x3) - (1 : Int32)).toInt = ((gi σ 172 x1.toNatClampNeg) - x3).toInt - 1 := i_sub (x := ((gi σ 172 x1.toNatClampNeg) - x3)) (y := (1 : Int32)) (by show (_ : Int) ≤ ((gi σ 172 x1.toNatClampNeg) - x3).toInt - 1; omega) (by show ((gi σ 172 x1.toNatClampNeg) - x3).toInt - 1 ≤ (_ : Int); omega)
                have b_36 : ¬ x2.toInt ≤ (((gi σ 172 x1.toNatClampNeg) - x3) - (1 : Int32)).toInt := fun h9 => q_20 (Int32.le_iff_toInt_le.mpr h9)
                exact h9ret ((100 : Int32) + x3) σ mσ fσ
  have U34 := T 20
  have f0 : Fr [] [] σ0 σ0 := Fr_rf
  refine s_X12_judge_0 C hN ?_
  refine k_X12_isTape m0  (fun r2 σ1 mσ1 cσ1 plσ1 phσ1 (pσ1_0 : (r2.toInt = 1 ∧ 0 ≤ a1.toInt ∧ a1.toInt ≤ 5) ∨ (r2.toInt = 0 ∧ (a1.toInt < 0 ∨ 5 < a1.toInt))) => ?_)
  obtain rfl := Fr_nil cσ1
  refine ⟨?_, ?_⟩
  · intro q_37
    have b_38 : ¬ r2.toInt = 0 := fun h9 => q_37 (Int32.toInt_inj.mp h9)
    have w_39 := Int32.toInt_lt a1
    have w_40 := Int32.le_toInt a1
    have hv_41 : vp_in a1 6 := vp_in_iff.mpr ⟨by omega, by omega⟩
    refine ⟨hv_41, ?_⟩
    refine ⟨?_, ?_⟩
    · intro q_42
      have t_43 := MI_a171 m0 hv_41
      have b_44 : (gi σ0 171 a1.toNatClampNeg).toInt < 0 := Int32.lt_iff_toInt_lt.mp q_42
      have z_45 : (0 : Int32).toInt = 0 := rfl
      exact U34 a1 a2 (0 : Int32) σ0 m0 f0 (by omega) (by omega) (by omega) (by omega) (by omega)
    · intro q_42
      have t_46 := MI_a171 m0 hv_41
      have b_47 : ¬ (gi σ0 171 a1.toNatClampNeg).toInt < 0 := fun h9 => q_42 (Int32.lt_iff_toInt_lt.mpr h9)
      refine ⟨hv_41, ?_⟩
      refine ⟨?_, ?_⟩
      · intro q_48
        have b_49 : (gi σ0 171 a1.toNatClampNeg).toInt = 1 := congrArg Int32.toInt q_48
        have z_50 : (0 : Int32).toInt = 0 := rfl
        exact U34 a1 a2 (0 : Int32) σ0 m0 f0 (by omega) (by omega) (by omega) (by omega) (by omega)
      · intro q_48
        have b_51 : ¬ (gi σ0 171 a1.toNatClampNeg).toInt = 1 := fun h9 => q_48 (Int32.toInt_inj.mp h9)
        have z_52 : (-12 : Int32).toInt = -12 := rfl
        exact h9ret (-12 : Int32) σ0 m0 f0
  · intro q_37
    have b_53 : r2.toInt = 0 := congrArg Int32.toInt q_37
    have z_54 : (-1 : Int32).toInt = -1 := rfl
    exact h9ret (-1 : Int32) σ0 m0 f0
