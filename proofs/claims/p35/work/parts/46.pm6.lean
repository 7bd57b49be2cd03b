set_option maxRecDepth 100000 in
set_option maxHeartbeats 4000000 in
theorem k_X12_whetted {l : Launch} {V : Vx} {a1 : Int32} {a2 : Int32} {σ0 : Sg} {Qk : Int32 → Sg → Prop} (m0 : MI σ0) (l_a1 : 1 ≤ a1.toInt) (u_a1 : a1.toInt ≤ 60) (l_a2 : 1 ≤ a2.toInt) (u_a2 : a2.toInt ≤ 16) (pre0 : (gi σ0 74 1).toInt ≤ 9999) (h9ret : ∀ (r : Int32) (σ' : Sg), MI σ' → Fr [74, 105, 106, 107, 108, 129, 131, 132, 134, 135, 136, 137] [1, 30, 33] σ0 σ' → ((gi σ' 74 1).toInt = (gi σ0 74 1).toInt) → Qk r σ') : K_X12_whetted l V a1 a2 σ0 Qk := by
  refine e_X12_whetted (fun M hl hV hN C => ?_)
  subst hl
  subst hV
  have T : ∀ n : Nat, (∀ (x1 : Int32) (x2 : Int32) (x3 : Int32) (σ : Sg), MI σ → Fr [74, 105, 106, 107, 108, 129, 131, 132, 134, 135, 136, 137] [1, 30, 33] σ0 σ → (1 ≤ x1.toInt) → (x1.toInt ≤ 60) → (1 ≤ x2.toInt) → (x2.toInt ≤ 16) → (1 ≤ x3.toInt) → (x3.toInt ≤ 61) → ((gi σ 74 1).toInt ≤ 9999 + 100 * x3.toInt) → ((gi σ 74 33).toInt = (gi σ0 74 1).toInt) → (62 - x3.toInt).toNat < n → PS M 6 [(0, .ref 74), (1, .int x1), (2, .int x2), (3, .int x3)] [] σ (0, 0)) := by
    intro n
    induction n with
    | zero => exact fun _ _ _ _ _ _ _ _ _ _ _ _ _ _ h8 => absurd h8 (Nat.not_lt_zero _)
    | succ n ih =>
      have ih6 := ih
      · intro x1 x2 x3 σ mσ fσ lx1 ux1 lx2 ux2 lx3 ux3 i0 i1 hmu
        refine s_X12_whetted_6 C hN ?_
        refine ⟨?_, ?_⟩
        · intro q_1
          have b_2 : x1.toInt < x3.toInt := Int32.lt_iff_toInt_lt.mp q_1
          refine k_X12_all mσ  (fun r3 σ2 mσ2 cσ2 plσ2 phσ2 => ?_)
          obtain rfl := Fr_nil cσ2
          refine k_X12_putBack mσ  (fun σ4 mσ4 cσ4 (pσ4_0 : (gi σ4 74 1).toInt = (gi σ 74 33).toInt) => ?_)
          have fσ4 : Fr [74, 105, 106, 107, 108, 129, 131, 132, 134, 135, 136, 137] [1, 30, 33] σ0 σ4 := Fr_tr fσ cσ4 (by decide) (by decide)
          have k_3 : (gi σ4 74 33).toInt = (gi σ 74 33).toInt := congrArg Int32.toInt (cσ4.2.1 33 (by decide))
          exact h9ret r3 σ4 mσ4 fσ4 (by first | omega | assumption | rfl)
        · intro q_1
          have b_4 : ¬ x1.toInt < x3.toInt := fun h9 => q_1 (Int32.lt_iff_toInt_lt.mpr h9)
          refine ⟨?_, ?_⟩
          · intro q_5
            have b_6 : (16 : Int) ≤ x2.toInt := Int32.le_iff_toInt_le.mp q_5
            have z_7 : (1 : Int32).toInt = 1 := rfl
            refine k_X12_goMinutes mσ (by omega) (by omega) (by first | omega | assumption | rfl) (fun σ6 mσ6 cσ6 (pσ6_0 : ((1 : Int) ≤ 0 ∧ (gi σ6 74 1).toInt = (gi σ 74 1).toInt) ∨ (0 ≤ (1 : Int) ∧ (gi σ6 74 1).toInt = (gi σ 74 1).toInt + (1 : Int))) => ?_)
            have fσ6 : Fr [74, 105, 106, 107, 108, 129, 131, 132, 134, 135, 136, 137] [1, 30, 33] σ0 σ6 := Fr_tr fσ cσ6 (by decide) (by decide)
            have k_8 : (gi σ6 74 33).toInt = (gi σ 74 33).toInt := congrArg Int32.toInt (cσ6.2.1 33 (by decide))
            intro v7 ev7
            have t_9 : (x3 + (1 : Int32)).toInt = x3.toInt + 1 := i_add (x := x3) (y := (1 : Int32)) (by show (_ : Int) ≤ x3.toInt + 1; omega) (by show x3.toInt + 1 ≤ (_ : Int); omega)
            have t_10 : v7.toInt = (x3 + (1 : Int32)).toInt := congrArg Int32.toInt ev7
            exact ih6 x1 x2 v7 σ6 mσ6 fσ6 (by omega) (by omega) (by omega) (by omega) (by omega) (by omega) (by first | omega | assumption | rfl) (by first | omega | assumption | rfl) (by omega)
          · intro q_5
            have b_11 : ¬ (16 : Int) ≤ x2.toInt := fun h9 => q_5 (Int32.le_iff_toInt_le.mpr h9)
            refine ⟨fun h9 => ?_, ?_⟩
            · have h9 : x2.toInt = 0 := congrArg Int32.toInt h9
              omega
            refine ⟨?_, ?_⟩
            · intro q_12
              try have t_13 : (x3 - ((x3 / x2) * x2)).toInt = x3.toInt - ((x3 / x2) * x2).toInt := i_sub (x := x3) (y := ((x3 / x2) * x2)) (by show (_ : Int) ≤ x3.toInt - ((x3 / x2) * x2).toInt; omega) (by show x3.toInt - ((x3 / x2) * x2).toInt ≤ (_ : Int); omega)
              have b_14 : ¬ (x3 - ((x3 / x2) * x2)).toInt = 0 := fun h9 => q_12 (Int32.toInt_inj.mp h9)
              have z_15 : (1 : Int32).toInt = 1 := rfl
              refine k_X12_goMinutes mσ (by omega) (by omega) (by first | omega | assumption | rfl) (fun σ10 mσ10 cσ10 (pσ10_0 : ((1 : Int) ≤ 0 ∧ (gi σ10 74 1).toInt = (gi σ 74 1).toInt) ∨ (0 ≤ (1 : Int) ∧ (gi σ10 74 1).toInt = (gi σ 74 1).toInt + (1 : Int))) => ?_)
              have fσ10 : Fr [74, 105, 106, 107, 108, 129, 131, 132, 134, 135, 136, 137] [1, 30, 33] σ0 σ10 := Fr_tr fσ cσ10 (by decide) (by decide)
              have k_16 : (gi σ10 74 33).toInt = (gi σ 74 33).toInt := congrArg Int32.toInt (cσ10.2.1 33 (by decide))
              intro v11 ev11
              have t_17 : (x3 + (1 : Int32)).toInt = x3.toInt + 1 := i_add (x := x3) (y := (1 : Int32)) (by show (_ : Int) ≤ x3.toInt + 1; omega) (by show x3.toInt + 1 ≤ (_ : Int); omega)
              have t_18 : v11.toInt = (x3 + (1 : Int32)).toInt := congrArg Int32.toInt ev11
              exact ih6 x1 x2 v11 σ10 mσ10 fσ10 (by omega) (by omega) (by omega) (by omega) (by omega) (by omega) (by first | omega | assumption | rfl) (by first | omega | assumption | rfl) (by omega)
            · intro q_12
              try have t_19 : (x3 - ((x3 / x2) * x2)).toInt = x3.toInt - ((x3 / x2) * x2).toInt := i_sub (x := x3) (y := ((x3 / x2) * x2)) (by show (_ : Int) ≤ x3.toInt - ((x3 / x2) * x2).toInt; omega) (by show x3.toInt - ((x3 / x2) * x2).toInt ≤ (_ : Int); omega)
              have b_20 : (x3 - ((x3 / x2) * x2)).toInt = 0 := congrArg Int32.toInt q_12
              refine k_X12_goWhet mσ (by first | omega | assumption | rfl) (fun σ12 mσ12 cσ12 (pσ12_0 : (gi σ12 74 1).toInt = (gi σ 74 1).toInt + 1) => ?_)
              have fσ12 : Fr [74, 105, 106, 107, 108, 129, 131, 132, 134, 135, 136, 137] [1, 30, 33] σ0 σ12 := Fr_tr fσ cσ12 (by decide) (by decide)
              have k_21 : (gi σ12 74 33).toInt = (gi σ 74 33).toInt := congrArg Int32.toInt (cσ12.2.1 33 (by decide))
              intro v13 ev13
              have t_22 : (x3 + (1 : Int32)).toInt = x3.toInt + 1 := i_add (x := x3) (y := (1 : Int32)) (by show (_ : Int) ≤ x3.toInt + 1; omega) (by show x3.toInt + 1 ≤ (_ : Int); omega)
              have t_23 : v13.toInt = (x3 + (1 : Int32)).toInt := congrArg Int32.toInt ev13
              exact ih6 x1 x2 v13 σ12 mσ12 fσ12 (by omega) (by omega) (by omega) (by omega) (by omega) (by omega) (by first | omega | assumption | rfl) (by first | omega | assumption | rfl) (by omega)
  have U6 := T 90
  have f0 : Fr [74, 105, 106, 107, 108, 129, 131, 132, 134, 135, 136, 137] [1, 30, 33] σ0 σ0 := Fr_rf
  refine s_X12_whetted_0 C hN ?_
  refine k_X12_save m0  (fun σ1 mσ1 cσ1 (pσ1_0 : (gi σ1 74 33).toInt = (gi σ0 74 1).toInt) => ?_)
  have fσ1 : Fr [74, 105, 106, 107, 108, 129, 131, 132, 134, 135, 136, 137] [1, 30, 33] σ0 σ1 := Fr_tr f0 cσ1 (by decide) (by decide)
  have k_24 : (gi σ1 74 1).toInt = (gi σ0 74 1).toInt := congrArg Int32.toInt (cσ1.2.1 1 (by decide))
  have z_25 : (1 : Int32).toInt = 1 := rfl
  exact U6 a1 a2 (1 : Int32) σ1 mσ1 fσ1 (by omega) (by omega) (by omega) (by omega) (by omega) (by omega) (by first | omega | assumption | rfl) (by first | omega | assumption | rfl) (by omega)
set_option maxRecDepth 100000 in
set_option maxHeartbeats 4000000 in
theorem k_X12_whets {l : Launch} {V : Vx} {a1 : Int32} {a2 : Int32} {σ0 : Sg} {Qk : Int32 → Sg → Prop} (m0 : MI σ0) (pre0 : (gi σ0 74 1).toInt ≤ 9999) (h9ret : ∀ (r : Int32) (σ' : Sg), MI σ' → Fr [74, 105, 106, 107, 108, 129, 131, 132, 134, 135, 136, 137] [1, 30, 33] σ0 σ' → ((gi σ' 74 1).toInt = (gi σ0 74 1).toInt) → Qk r σ') : K_X12_whets l V a1 a2 σ0 Qk := by
  refine e_X12_whets (fun M hl hV hN C => ?_)
  subst hl
  subst hV
  have T : ∀ n : Nat, (∀ (x1 : Int32) (x2 : Int32) (x3 : Int32) (x4 : Int32) (x5 : Int32) (σ : Sg), MI σ → Fr [74, 105, 106, 107, 108, 129, 131, 132, 134, 135, 136, 137] [1, 30, 33] σ0 σ → (1 ≤ x1.toInt) → (x1.toInt ≤ 60) → (1 ≤ x5.toInt) → (x5.toInt ≤ 17) → ((gi σ 74 1).toInt = (gi σ0 74 1).toInt) → (18 - x5.toInt).toNat < n → PS M 34 [(0, .ref 74), (1, .int x1), (2, .int x2), (3, .int x3), (4, .int x4), (5, .int x5)] [] σ (0, 0)) := by
    intro n
    induction n with
    | zero => exact fun _ _ _ _ _ _ _ _ _ _ _ _ _ h8 => absurd h8 (Nat.not_lt_zero _)
    | succ n ih =>
      have ih34 := ih
      · intro x1 x2 x3 x4 x5 σ mσ fσ lx1 ux1 lx5 ux5 i0 hmu
        refine s_X12_whets_34 C hN ?_
        refine ⟨?_, ?_⟩
        · intro q_1
          have b_2 : (17 : Int) ≤ x5.toInt := Int32.le_iff_toInt_le.mp q_1
          refine ⟨?_, ?_⟩
          · intro q_3
            have w_4 := Int32.toInt_lt x2
            have w_5 := Int32.le_toInt x2
            have b_6 : ¬ x2.toInt = 0 := fun h9 => q_3 (Int32.toInt_inj.mp h9)
            exact h9ret x4 σ mσ fσ (by first | omega | assumption | rfl)
          · intro q_3
            have w_7 := Int32.toInt_lt x2
            have w_8 := Int32.le_toInt x2
            have b_9 : x2.toInt = 0 := congrArg Int32.toInt q_3
            exact h9ret x3 σ mσ fσ (by first | omega | assumption | rfl)
        · intro q_1
          have b_10 : ¬ (17 : Int) ≤ x5.toInt := fun h9 => q_1 (Int32.le_iff_toInt_le.mpr h9)
          refine k_X12_whetted mσ (by omega) (by omega) (by omega) (by omega) (by first | omega | assumption | rfl) (fun r4 σ3 mσ3 cσ3 (pσ3_0 : (gi σ3 74 1).toInt = (gi σ 74 1).toInt) => ?_)
          have fσ3 : Fr [74, 105, 106, 107, 108, 129, 131, 132, 134, 135, 136, 137] [1, 30, 33] σ0 σ3 := Fr_tr fσ cσ3 (by decide) (by decide)
          refine ⟨?_, ?_⟩
          · intro q_11
            have w_12 := Int32.toInt_lt x4
            have w_13 := Int32.le_toInt x4
            have w_14 := Int32.toInt_lt r4
            have w_15 := Int32.le_toInt r4
            have b_16 : x4.toInt < r4.toInt := Int32.lt_iff_toInt_lt.mp q_11
            intro v6 ev6
            have t_17 : (x5 + (1 : Int32)).toInt = x5.toInt + 1 := i_add (x := x5) (y := (1 : Int32)) (by show (_ : Int) ≤ x5.toInt + 1; omega) (by show x5.toInt + 1 ≤ (_ : Int); omega)
            have t_18 : v6.toInt = (x5 + (1 : Int32)).toInt := congrArg Int32.toInt ev6
            exact ih34 x1 x2 x5 r4 v6 σ3 mσ3 fσ3 (by omega) (by omega) (by omega) (by omega) (by first | omega | assumption | rfl) (by omega)
          · intro q_11
            have w_19 := Int32.toInt_lt x4
            have w_20 := Int32.le_toInt x4
            have w_21 := Int32.toInt_lt r4
            have w_22 := Int32.le_toInt r4
            have b_23 : ¬ x4.toInt < r4.toInt := fun h9 => q_11 (Int32.lt_iff_toInt_lt.mpr h9)
            intro v7 ev7
            have t_24 : (x5 + (1 : Int32)).toInt = x5.toInt + 1 := i_add (x := x5) (y := (1 : Int32)) (by show (_ : Int) ≤ x5.toInt + 1; omega) (by show x5.toInt + 1 ≤ (_ : Int); omega)
            have t_25 : v7.toInt = (x5 + (1 : Int32)).toInt := congrArg Int32.toInt ev7
            exact ih34 x1 x2 x3 x4 v7 σ3 mσ3 fσ3 (by omega) (by omega) (by omega) (by omega) (by first | omega | assumption | rfl) (by omega)
  have U34 := T 20
  have f0 : Fr [74, 105, 106, 107, 108, 129, 131, 132, 134, 135, 136, 137] [1, 30, 33] σ0 σ0 := Fr_rf
  refine s_X12_whets_0 C hN ?_
  refine k_X12_in m0  (fun r2 σ1 mσ1 cσ1 plσ1 phσ1 (pσ1_0 : (r2.toInt = 1 ∧ (0 : Int) ≤ a2.toInt ∧ a2.toInt ≤ (1 : Int)) ∨ (r2.toInt = 0 ∧ (a2.toInt < (0 : Int) ∨ (1 : Int) < a2.toInt))) => ?_)
  obtain rfl := Fr_nil cσ1
  refine ⟨?_, ?_⟩
  · intro q_26
    have b_27 : ¬ r2.toInt = 0 := fun h9 => q_26 (Int32.toInt_inj.mp h9)
    refine k_X12_in m0  (fun r5 σ4 mσ4 cσ4 plσ4 phσ4 (pσ4_0 : (r5.toInt = 1 ∧ (1 : Int) ≤ a1.toInt ∧ a1.toInt ≤ (60 : Int)) ∨ (r5.toInt = 0 ∧ (a1.toInt < (1 : Int) ∨ (60 : Int) < a1.toInt))) => ?_)
    obtain rfl := Fr_nil cσ4
    refine ⟨?_, ?_⟩
    · intro q_28
      have b_29 : ¬ r5.toInt = 0 := fun h9 => q_28 (Int32.toInt_inj.mp h9)
      have z_30 : (0 : Int32).toInt = 0 := rfl
      have z_31 : (-1 : Int32).toInt = -1 := rfl
      have z_32 : (1 : Int32).toInt = 1 := rfl
      exact U34 a1 a2 (0 : Int32) (-1 : Int32) (1 : Int32) σ0 m0 f0 (by omega) (by omega) (by omega) (by omega) (by first | omega | assumption | rfl) (by omega)
    · intro q_28
      have b_33 : r5.toInt = 0 := congrArg Int32.toInt q_28
      have z_34 : (-2 : Int32).toInt = -2 := rfl
      exact h9ret (-2 : Int32) σ0 m0 f0 (by first | omega | assumption | rfl)
  · intro q_26
    have b_35 : r2.toInt = 0 := congrArg Int32.toInt q_26
    have z_36 : (-1 : Int32).toInt = -1 := rfl
    exact h9ret (-1 : Int32) σ0 m0 f0 (by first | omega | assumption | rfl)
set_option maxRecDepth 100000 in
set_option maxHeartbeats 4000000 in
theorem k_X12_on {l : Launch} {V : Vx} {a1 : Int32} {a2 : Int32} {σ0 : Sg} {Qk : Int32 → Sg → Prop} (m0 : MI σ0) (pre0 : (gi σ0 74 1).toInt ≤ 9999) (h9ret : ∀ (r : Int32) (σ' : Sg), MI σ' → Fr [74, 105, 106, 107, 108, 129, 131, 132, 134, 135, 136, 137] [1, 30, 33] σ0 σ' → ((gi σ' 74 1).toInt = (gi σ0 74 1).toInt) → Qk r σ') : K_X12_on l V a1 a2 σ0 Qk := by
  refine e_X12_on (fun M hl hV hN C => ?_)
  subst hl
  subst hV
  have T : ∀ n : Nat, (∀ (x1 : Int32) (x2 : Int32) (σ : Sg), MI σ → Fr [74, 105, 106, 107, 108, 129, 131, 132, 134, 135, 136, 137] [1, 30, 33] σ0 σ → (0 ≤ x2.toInt) → (x2.toInt ≤ 40) → (x2.toInt = 0 ∨ (10 ≤ x2.toInt ∧ x2.toInt ≤ 9 + (gi σ0 74 0).toInt) ∨ (20 ≤ x2.toInt ∧ x2.toInt ≤ 19 + (gi σ0 74 0).toInt)) → ((gi σ 74 1).toInt = (gi σ0 74 1).toInt) → ((gi σ 74 0).toInt = (gi σ0 74 0).toInt) → 1 < n → PS M 40 [(0, .ref 74), (1, .int x1), (2, .int x2)] [] σ (0, 0)) := by
    intro n
    induction n with
    | zero => exact fun _ _ _ _ _ _ _ _ _ _ h8 => absurd h8 (Nat.not_lt_zero _)
    | succ n ih =>
      have ih40 := ih
      · intro x1 x2 σ mσ fσ lx2 ux2 i0 i1 i2 hmu
        have mw := MI_f0 m0
        refine s_X12_on_40 C hN ?_
        refine k_X12_in mσ  (fun r2 σ1 mσ1 cσ1 plσ1 phσ1 (pσ1_0 : (r2.toInt = 1 ∧ (0 : Int) ≤ x1.toInt ∧ x1.toInt ≤ (60 : Int)) ∨ (r2.toInt = 0 ∧ (x1.toInt < (0 : Int) ∨ (60 : Int) < x1.toInt))) => ?_)
        obtain rfl := Fr_nil cσ1
        refine ⟨?_, ?_⟩
        · intro q_1
          have b_2 : ¬ r2.toInt = 0 := fun h9 => q_1 (Int32.toInt_inj.mp h9)
          refine k_X12_save mσ  (fun σ4 mσ4 cσ4 (pσ4_0 : (gi σ4 74 33).toInt = (gi σ 74 1).toInt) => ?_)
          have fσ4 : Fr [74, 105, 106, 107, 108, 129, 131, 132, 134, 135, 136, 137] [1, 30, 33] σ0 σ4 := Fr_tr fσ cσ4 (by decide) (by decide)
          have k_3 : (gi σ4 74 0).toInt = (gi σ 74 0).toInt := congrArg Int32.toInt (cσ4.2.1 0 (by decide))
          have k_4 : (gi σ4 74 1).toInt = (gi σ 74 1).toInt := congrArg Int32.toInt (cσ4.2.1 1 (by decide))
          refine k_X12_goMinutes mσ4 (by omega) (by omega) (by first | omega | assumption | rfl) (fun σ5 mσ5 cσ5 (pσ5_0 : (x1.toInt ≤ 0 ∧ (gi σ5 74 1).toInt = (gi σ4 74 1).toInt) ∨ (0 ≤ x1.toInt ∧ (gi σ5 74 1).toInt = (gi σ4 74 1).toInt + x1.toInt)) => ?_)
          have fσ5 : Fr [74, 105, 106, 107, 108, 129, 131, 132, 134, 135, 136, 137] [1, 30, 33] σ0 σ5 := Fr_tr fσ4 cσ5 (by decide) (by decide)
          have k_5 : (gi σ5 74 0).toInt = (gi σ4 74 0).toInt := congrArg Int32.toInt (cσ5.2.1 0 (by decide))
          have k_6 : (gi σ5 74 33).toInt = (gi σ4 74 33).toInt := congrArg Int32.toInt (cσ5.2.1 33 (by decide))
          refine ⟨?_, ?_⟩
          · intro q_7
            have b_8 : ¬ x2.toInt = 0 := fun h9 => q_7 (Int32.toInt_inj.mp h9)
            refine ⟨?_, ?_⟩
            · intro q_9
              have b_10 : (20 : Int) ≤ x2.toInt := Int32.le_iff_toInt_le.mp q_9
              have t_11 : (x2 - (20 : Int32)).toInt = x2.toInt - 20 := i_sub (x := x2) (y := (20 : Int32)) (by show (_ : Int) ≤ x2.toInt - 20; omega) (by show x2.toInt - 20 ≤ (_ : Int); omega)
              have hv_12 : vp_in (x2 - (20 : Int32)) 6 := vp_in_iff.mpr ⟨by omega, by omega⟩
              refine ⟨hv_12, ?_⟩
              intro v9 ev9
              refine k_X12_putBack mσ5  (fun σ10 mσ10 cσ10 (pσ10_0 : (gi σ10 74 1).toInt = (gi σ5 74 33).toInt) => ?_)
              have fσ10 : Fr [74, 105, 106, 107, 108, 129, 131, 132, 134, 135, 136, 137] [1, 30, 33] σ0 σ10 := Fr_tr fσ5 cσ10 (by decide) (by decide)
              have k_13 : (gi σ10 74 0).toInt = (gi σ5 74 0).toInt := congrArg Int32.toInt (cσ10.2.1 0 (by decide))
              have k_14 : (gi σ10 74 33).toInt = (gi σ5 74 33).toInt := congrArg Int32.toInt (cσ10.2.1 33 (by decide))
              exact h9ret v9 σ10 mσ10 fσ10 (by first | omega | assumption | rfl)
            · intro q_9
              have b_15 : ¬ (20 : Int) ≤ x2.toInt := fun h9 => q_9 (Int32.le_iff_toInt_le.mpr h9)
              have t_16 : (x2 - (10 : Int32)).toInt = x2.toInt - 10 := i_sub (x := x2) (y := (10 : Int32)) (by show (_ : Int) ≤ x2.toInt - 10; omega) (by show x2.toInt - 10 ≤ (_ : Int); omega)
              have hv_17 : vp_in (x2 - (10 : Int32)) 6 := vp_in_iff.mpr ⟨by omega, by omega⟩
              refine ⟨hv_17, ?_⟩
              intro v12 ev12
              have t_18 := MI_a105 mσ5 hv_17
              have t_19 : v12.toInt = (gi σ5 105 (x2 - (10 : Int32)).toNatClampNeg).toInt := congrArg Int32.toInt ev12
              refine k_X12_putBack mσ5  (fun σ13 mσ13 cσ13 (pσ13_0 : (gi σ13 74 1).toInt = (gi σ5 74 33).toInt) => ?_)
              have fσ13 : Fr [74, 105, 106, 107, 108, 129, 131, 132, 134, 135, 136, 137] [1, 30, 33] σ0 σ13 := Fr_tr fσ5 cσ13 (by decide) (by decide)
              have k_20 : (gi σ13 74 0).toInt = (gi σ5 74 0).toInt := congrArg Int32.toInt (cσ13.2.1 0 (by decide))
              have k_21 : (gi σ13 74 33).toInt = (gi σ5 74 33).toInt := congrArg Int32.toInt (cσ13.2.1 33 (by decide))
              exact h9ret v12 σ13 mσ13 fσ13 (by first | omega | assumption | rfl)
          · intro q_7
            have b_22 : x2.toInt = 0 := congrArg Int32.toInt q_7
            refine k_X12_all mσ5  (fun r15 σ14 mσ14 cσ14 plσ14 phσ14 => ?_)
            obtain rfl := Fr_nil cσ14
            refine k_X12_putBack mσ5  (fun σ16 mσ16 cσ16 (pσ16_0 : (gi σ16 74 1).toInt = (gi σ5 74 33).toInt) => ?_)
            have fσ16 : Fr [74, 105, 106, 107, 108, 129, 131, 132, 134, 135, 136, 137] [1, 30, 33] σ0 σ16 := Fr_tr fσ5 cσ16 (by decide) (by decide)
            have k_23 : (gi σ16 74 0).toInt = (gi σ5 74 0).toInt := congrArg Int32.toInt (cσ16.2.1 0 (by decide))
            have k_24 : (gi σ16 74 33).toInt = (gi σ5 74 33).toInt := congrArg Int32.toInt (cσ16.2.1 33 (by decide))
            exact h9ret r15 σ16 mσ16 fσ16 (by first | omega | assumption | rfl)
        · intro q_1
          have b_25 : r2.toInt = 0 := congrArg Int32.toInt q_1
          have z_26 : (-2 : Int32).toInt = -2 := rfl
          exact h9ret (-2 : Int32) σ mσ fσ (by first | omega | assumption | rfl)
  have U40 := T 9
  have f0 : Fr [74, 105, 106, 107, 108, 129, 131, 132, 134, 135, 136, 137] [1, 30, 33] σ0 σ0 := Fr_rf
  refine s_X12_on_0 C hN ?_
  refine ⟨?_, ?_⟩
  · intro q_27
    have w_28 := Int32.toInt_lt a2
    have w_29 := Int32.le_toInt a2
    have b_30 : a2.toInt = 0 := congrArg Int32.toInt q_27
    exact U40 a1 a2 σ0 m0 f0 (by omega) (by omega) (by first | omega | assumption | rfl) (by first | omega | assumption | rfl) (by first | omega | assumption | rfl) (by omega)
  · intro q_27
    have w_31 := Int32.toInt_lt a2
    have w_32 := Int32.le_toInt a2
    have b_33 : ¬ a2.toInt = 0 := fun h9 => q_27 (Int32.toInt_inj.mp h9)
    have t_34 := MI_f0 m0
    have t_35 : ((9 : Int32) + (gi σ0 74 0)).toInt = 9 + (gi σ0 74 0).toInt := i_add (x := (9 : Int32)) (y := (gi σ0 74 0)) (by show (_ : Int) ≤ 9 + (gi σ0 74 0).toInt; omega) (by show 9 + (gi σ0 74 0).toInt ≤ (_ : Int); omega)
    refine k_X12_in m0  (fun r3 σ2 mσ2 cσ2 plσ2 phσ2 (pσ2_0 : (r3.toInt = 1 ∧ (10 : Int) ≤ a2.toInt ∧ a2.toInt ≤ ((9 : Int32) + (gi σ0 74 0)).toInt) ∨ (r3.toInt = 0 ∧ (a2.toInt < (10 : Int) ∨ ((9 : Int32) + (gi σ0 74 0)).toInt < a2.toInt))) => ?_)
    obtain rfl := Fr_nil cσ2
    refine ⟨?_, ?_⟩
    · intro q_36
      have b_37 : ¬ r3.toInt = 0 := fun h9 => q_36 (Int32.toInt_inj.mp h9)
      exact U40 a1 a2 σ0 m0 f0 (by omega) (by omega) (by first | omega | assumption | rfl) (by first | omega | assumption | rfl) (by first | omega | assumption | rfl) (by omega)
    · intro q_36
      have b_38 : r3.toInt = 0 := congrArg Int32.toInt q_36
      have t_39 : ((19 : Int32) + (gi σ0 74 0)).toInt = 19 + (gi σ0 74 0).toInt := i_add (x := (19 : Int32)) (y := (gi σ0 74 0)) (by show (_ : Int) ≤ 19 + (gi σ0 74 0).toInt; omega) (by show 19 + (gi σ0 74 0).toInt ≤ (_ : Int); omega)
      refine k_X12_in m0  (fun r6 σ5 mσ5 cσ5 plσ5 phσ5 (pσ5_0 : (r6.toInt = 1 ∧ (20 : Int) ≤ a2.toInt ∧ a2.toInt ≤ ((19 : Int32) + (gi σ0 74 0)).toInt) ∨ (r6.toInt = 0 ∧ (a2.toInt < (20 : Int) ∨ ((19 : Int32) + (gi σ0 74 0)).toInt < a2.toInt))) => ?_)
      obtain rfl := Fr_nil cσ5
      refine ⟨?_, ?_⟩
      · intro q_40
        have b_41 : ¬ r6.toInt = 0 := fun h9 => q_40 (Int32.toInt_inj.mp h9)
        exact U40 a1 a2 σ0 m0 f0 (by omega) (by omega) (by first | omega | assumption | rfl) (by first | omega | assumption | rfl) (by first | omega | assumption | rfl) (by omega)
      · intro q_40
        have b_42 : r6.toInt = 0 := congrArg Int32.toInt q_40
        have z_43 : (-1 : Int32).toInt = -1 := rfl
        exact h9ret (-1 : Int32) σ0 m0 f0 (by first | omega | assumption | rfl)
set_option maxRecDepth 100000 in
set_option maxHeartbeats 4000000 in
theorem k_X12_done {l : Launch} {V : Vx} {σ0 : Sg} {Qk : Int32 → Sg → Prop} (m0 : MI σ0) (pre0 : (gi σ0 74 1).toInt ≤ 9999) (h9ret : ∀ (r : Int32) (σ' : Sg), MI σ' → Fr [74, 105, 106, 107, 108, 129, 131, 132, 134, 135, 136, 137] [1, 30, 33] σ0 σ' → ((gi σ' 74 1).toInt = (gi σ0 74 1).toInt) → Qk r σ') : K_X12_done l V σ0 Qk := by
  refine e_X12_done (fun M hl hV hN C => ?_)
  subst hl
  subst hV
  have T : ∀ n : Nat, (∀ (x1 : Int32) (σ : Sg), MI σ → Fr [74, 105, 106, 107, 108, 129, 131, 132, 134, 135, 136, 137] [1, 30, 33] σ0 σ → (0 ≤ x1.toInt) → (x1.toInt ≤ 121) → ((gi σ 74 1).toInt ≤ 9999 + x1.toInt) → ((gi σ 74 33).toInt = (gi σ0 74 1).toInt) → (122 - x1.toInt).toNat + 5 < n → PS M 6 [(0, .ref 74), (1, .int x1)] [] σ (0, 0)) ∧ (∀ (x1 : Int32) (σ : Sg), MI σ → Fr [74, 105, 106, 107, 108, 129, 131, 132, 134, 135, 136, 137] [1, 30, 33] σ0 σ → (0 ≤ x1.toInt) → (x1.toInt ≤ 121) → ((gi σ 74 33).toInt = (gi σ0 74 1).toInt) → 1 < n → PS M 30 [(0, .ref 74), (1, .int x1)] [] σ (0, 0)) := by
    intro n
    induction n with
    | zero => exact ⟨fun _ _ _ _ _ _ _ _ h8 => absurd h8 (Nat.not_lt_zero _), fun _ _ _ _ _ _ _ h8 => absurd h8 (Nat.not_lt_zero _)⟩
    | succ n ih =>
      obtain ⟨ih6, ih30⟩ := ih
      refine ⟨?_, ?_⟩
      · intro x1 σ mσ fσ lx1 ux1 i0 i1 hmu
        refine s_X12_done_6 C hN ?_
        refine ⟨?_, ?_⟩
        · intro q_1
          have b_2 : (120 : Int) < x1.toInt := Int32.lt_iff_toInt_lt.mp q_1
          exact ih30 x1 σ mσ fσ (by omega) (by omega) (by first | omega | assumption | rfl) (by omega)
        · intro q_1
          have b_3 : ¬ (120 : Int) < x1.toInt := fun h9 => q_1 (Int32.lt_iff_toInt_lt.mpr h9)
          refine k_X12_isDone mσ  (fun r3 σ2 mσ2 cσ2 plσ2 phσ2 => ?_)
          obtain rfl := Fr_nil cσ2
          refine ⟨?_, ?_⟩
          · intro q_4
            have b_5 : ¬ r3.toInt = 0 := fun h9 => q_4 (Int32.toInt_inj.mp h9)
            exact ih30 x1 σ mσ fσ (by omega) (by omega) (by first | omega | assumption | rfl) (by omega)
          · intro q_4
            have b_6 : r3.toInt = 0 := congrArg Int32.toInt q_4
            have z_7 : (1 : Int32).toInt = 1 := rfl
            refine k_X12_goMinutes mσ (by omega) (by omega) (by first | omega | assumption | rfl) (fun σ5 mσ5 cσ5 (pσ5_0 : ((1 : Int) ≤ 0 ∧ (gi σ5 74 1).toInt = (gi σ 74 1).toInt) ∨ (0 ≤ (1 : Int) ∧ (gi σ5 74 1).toInt = (gi σ 74 1).toInt + (1 : Int))) => ?_)
            have fσ5 : Fr [74, 105, 106, 107, 108, 129, 131, 132, 134, 135, 136, 137] [1, 30, 33] σ0 σ5 := Fr_tr fσ cσ5 (by decide) (by decide)
            have k_8 : (gi σ5 74 33).toInt = (gi σ 74 33).toInt := congrArg Int32.toInt (cσ5.2.1 33 (by decide))
            intro v6 ev6
            have t_9 : (x1 + (1 : Int32)).toInt = x1.toInt + 1 := i_add (x := x1) (y := (1 : Int32)) (by show (_ : Int) ≤ x1.toInt + 1; omega) (by show x1.toInt + 1 ≤ (_ : Int); omega)
            have t_10 : v6.toInt = (x1 + (1 : Int32)).toInt := congrArg Int32.toInt ev6
            exact ih6 v6 σ5 mσ5 fσ5 (by omega) (by omega) (by first | omega | assumption | rfl) (by first | omega | assumption | rfl) (by omega)
      · intro x1 σ mσ fσ lx1 ux1 i0 hmu
        refine s_X12_done_30 C hN ?_
        refine k_X12_putBack mσ  (fun σ1 mσ1 cσ1 (pσ1_0 : (gi σ1 74 1).toInt = (gi σ 74 33).toInt) => ?_)
        have fσ1 : Fr [74, 105, 106, 107, 108, 129, 131, 132, 134, 135, 136, 137] [1, 30, 33] σ0 σ1 := Fr_tr fσ cσ1 (by decide) (by decide)
        have k_11 : (gi σ1 74 33).toInt = (gi σ 74 33).toInt := congrArg Int32.toInt (cσ1.2.1 33 (by decide))
        refine ⟨?_, ?_⟩
        · intro q_12
          have b_13 : (120 : Int) < x1.toInt := Int32.lt_iff_toInt_lt.mp q_12
          have z_14 : (-5 : Int32).toInt = -5 := rfl
          exact h9ret (-5 : Int32) σ1 mσ1 fσ1 (by first | omega | assumption | rfl)
        · intro q_12
          have b_15 : ¬ (120 : Int) < x1.toInt := fun h9 => q_12 (Int32.lt_iff_toInt_lt.mpr h9)
          exact h9ret x1 σ1 mσ1 fσ1 (by first | omega | assumption | rfl)
  obtain ⟨U6, U30⟩ := T 400
  have f0 : Fr [74, 105, 106, 107, 108, 129, 131, 132, 134, 135, 136, 137] [1, 30, 33] σ0 σ0 := Fr_rf
  refine s_X12_done_0 C hN ?_
  refine k_X12_save m0  (fun σ1 mσ1 cσ1 (pσ1_0 : (gi σ1 74 33).toInt = (gi σ0 74 1).toInt) => ?_)
  have fσ1 : Fr [74, 105, 106, 107, 108, 129, 131, 132, 134, 135, 136, 137] [1, 30, 33] σ0 σ1 := Fr_tr f0 cσ1 (by decide) (by decide)
  have k_16 : (gi σ1 74 1).toInt = (gi σ0 74 1).toInt := congrArg Int32.toInt (cσ1.2.1 1 (by decide))
  have z_17 : (0 : Int32).toInt = 0 := rfl
  exact U6 (0 : Int32) σ1 mσ1 fσ1 (by omega) (by omega) (by first | omega | assumption | rfl) (by first | omega | assumption | rfl) (by omega)
