set_option maxRecDepth 100000 in
set_option maxHeartbeats 4000000 in
theorem k_X12_placeOf {l : Launch} {V : Vx} {a1 : Int32} {σ0 : Sg} {Qk : Int32 → Sg → Prop} (m0 : MI σ0) (l_a1 : 0 ≤ a1.toInt) (u_a1 : a1.toInt ≤ 5) (pre0 : PL σ0) (pre1 : a1.toInt < (gi σ0 74 0).toInt) (h9ret : ∀ (r : Int32) (σ' : Sg), MI σ' → Fr [] [] σ0 σ' → (0 ≤ r.toInt) → (r.toInt ≤ 5) → (r.toInt < (gi σ0 74 0).toInt) → (gi σ0 110 r.toNatClampNeg = a1) → Qk r σ') : K_X12_placeOf l V a1 σ0 Qk := by
  refine e_X12_placeOf (fun M hl hV hN C => ?_)
  subst hl
  subst hV
  obtain ⟨k0, hk0, ek0⟩ := PL_i pre0 l_a1 pre1
  have T : ∀ n : Nat, (∀ (x1 : Int32) (x2 : Int32) (σ : Sg), MI σ → Fr [] [] σ0 σ → (0 ≤ x1.toInt) → (x1.toInt ≤ 5) → (0 ≤ x2.toInt) → (x2.toInt ≤ 5) → (x1 = a1) → (x2.toInt ≤ k0) → (7 - x2.toInt).toNat < n → PS M 2 [(0, .ref 74), (1, .int x1), (2, .int x2)] [] σ (0, 0)) := by
    intro n
    induction n with
    | zero => exact fun _ _ _ _ _ _ _ _ _ _ _ h8 => absurd h8 (Nat.not_lt_zero _)
    | succ n ih =>
      have ih2 := ih
      · intro x1 x2 σ mσ fσ lx1 ux1 lx2 ux2 i0 i1 hmu
        have mw := MI_f0 mσ
        have kw : (gi σ 74 0).toInt = (gi σ0 74 0).toInt := congrArg Int32.toInt (fσ.2.1 0 (by decide))
        have g1 : gi σ 110 k0 = a1 := by rw [show gi σ 110 k0 = gi σ0 110 k0 from congrFun (fσ.1 110 (by decide)).1 _]; exact ek0
        have e110 : ∀ j, gi σ 110 j = gi σ0 110 j := fun j => congrFun (fσ.1 110 (by decide)).1 j
        refine s_X12_placeOf_2 C hN ?_
        have hv_1 : vp_in x2 6 := vp_in_iff.mpr ⟨by omega, by omega⟩
        refine ⟨hv_1, ?_⟩
        refine ⟨?_, ?_⟩
        · intro q_2
          have t_3 := MI_a110 mσ hv_1
          have b_4 : (gi σ 110 x2.toNatClampNeg).toInt = x1.toInt := congrArg Int32.toInt q_2
          have q9 : gi σ0 110 x2.toNatClampNeg = a1 := by rw [← e110, ← i0]; exact q_2
          exact h9ret x2 σ mσ fσ (by omega) (by omega) (by first | omega | assumption | rfl) (by first | assumption | (rw [← i0]; assumption))
        · intro q_2
          have t_5 := MI_a110 mσ hv_1
          have b_6 : ¬ (gi σ 110 x2.toNatClampNeg).toInt = x1.toInt := fun h9 => q_2 (Int32.toInt_inj.mp h9)
          have nk : ¬ x2.toInt = k0 := fun h9 => q_2 (by rw [show x2.toNatClampNeg = k0 from by have := cl_eq (x := x2) (by omega); omega, g1, i0])
          intro v3 ev3
          have t_7 : (x2 + (1 : Int32)).toInt = x2.toInt + 1 := i_add (x := x2) (y := (1 : Int32)) (by show (_ : Int) ≤ x2.toInt + 1; omega) (by show x2.toInt + 1 ≤ (_ : Int); omega)
          have t_8 : v3.toInt = (x2 + (1 : Int32)).toInt := congrArg Int32.toInt ev3
          exact ih2 x1 v3 σ mσ fσ (by omega) (by omega) (by omega) (by omega) (by first | omega | assumption | rfl) (by first | omega | assumption | rfl) (by omega)
  have U2 := T 9
  have f0 : Fr [] [] σ0 σ0 := Fr_rf
  refine s_X12_placeOf_0 C hN ?_
  have z_9 : (0 : Int32).toInt = 0 := rfl
  exact U2 a1 (0 : Int32) σ0 m0 f0 (by omega) (by omega) (by omega) (by omega) (by first | omega | assumption | rfl) (by first | omega | assumption | rfl) (by omega)
set_option maxRecDepth 100000 in
set_option maxHeartbeats 4000000 in
theorem k_X12_of {l : Launch} {V : Vx} {a1 : Int32} {a2 : Int32} {σ0 : Sg} {Qk : Int32 → Sg → Prop} (m0 : MI σ0) (pre0 : PL σ0) (h9ret : ∀ (r : Int32) (σ' : Sg), MI σ' → Fr [74, 129] [30] σ0 σ' → Qk r σ') : K_X12_of l V a1 a2 σ0 Qk := by
  refine e_X12_of (fun M hl hV hN C => ?_)
  subst hl
  subst hV
  have f0 : Fr [74, 129] [30] σ0 σ0 := Fr_rf
  refine s_X12_of_0 C hN ?_
  refine k_X12_isMower m0  (fun r2 σ1 mσ1 cσ1 plσ1 phσ1 (pσ1_0 : (r2.toInt = 1 ∧ 0 ≤ a1.toInt ∧ a1.toInt < (gi σ0 74 0).toInt) ∨ (r2.toInt = 0 ∧ (a1.toInt < 0 ∨ (gi σ0 74 0).toInt ≤ a1.toInt))) => ?_)
  obtain rfl := Fr_nil cσ1
  have t_1 := MI_f0 m0
  refine ⟨?_, ?_⟩
  · intro q_2
    have b_3 : ¬ r2.toInt = 0 := fun h9 => q_2 (Int32.toInt_inj.mp h9)
    refine ⟨?_, ?_, ?_, ?_, ?_, ?_, ?_, ?_, ?_, ?_⟩
    · intro q_4
      have z_5 : (-1 : Int32).toInt = -1 := rfl
      exact h9ret (-1 : Int32) σ0 m0 f0
    · intro q_4
      have w_6 := Int32.toInt_lt a1
      have w_7 := Int32.le_toInt a1
      have hv_8 : vp_in a1 6 := vp_in_iff.mpr ⟨by omega, by omega⟩
      refine ⟨hv_8, ?_⟩
      exact h9ret (gi σ0 103 a1.toNatClampNeg) σ0 m0 f0
    · intro q_4
      have w_9 := Int32.toInt_lt a1
      have w_10 := Int32.le_toInt a1
      have hv_11 : vp_in a1 6 := vp_in_iff.mpr ⟨by omega, by omega⟩
      refine ⟨hv_11, ?_⟩
      exact h9ret (gi σ0 104 a1.toNatClampNeg) σ0 m0 f0
    · intro q_4
      have w_12 := Int32.toInt_lt a1
      have w_13 := Int32.le_toInt a1
      have hv_14 : vp_in a1 6 := vp_in_iff.mpr ⟨by omega, by omega⟩
      refine ⟨hv_14, ?_⟩
      exact h9ret (gi σ0 105 a1.toNatClampNeg) σ0 m0 f0
    · intro q_4
      have w_15 := Int32.toInt_lt a1
      have w_16 := Int32.le_toInt a1
      have hv_17 : vp_in a1 6 := vp_in_iff.mpr ⟨by omega, by omega⟩
      refine ⟨hv_17, ?_⟩
      exact h9ret (gi σ0 106 a1.toNatClampNeg) σ0 m0 f0
    · intro q_4
      have w_18 := Int32.toInt_lt a1
      have w_19 := Int32.le_toInt a1
      have hv_20 : vp_in a1 6 := vp_in_iff.mpr ⟨by omega, by omega⟩
      refine ⟨hv_20, ?_⟩
      exact h9ret (gi σ0 107 a1.toNatClampNeg) σ0 m0 f0
    · intro q_4
      have w_21 := Int32.toInt_lt a1
      have w_22 := Int32.le_toInt a1
      have hv_23 : vp_in a1 6 := vp_in_iff.mpr ⟨by omega, by omega⟩
      refine ⟨hv_23, ?_⟩
      exact h9ret (gi σ0 108 a1.toNatClampNeg) σ0 m0 f0
    · intro q_4
      refine k_X12_placeOf m0 (by omega) (by omega) (by first | omega | assumption | rfl) (by first | omega | assumption | rfl) (fun r12 σ11 mσ11 cσ11 plσ11 phσ11 (pσ11_0 : r12.toInt < (gi σ0 74 0).toInt) (pσ11_1 : gi σ0 110 r12.toNatClampNeg = a1) => ?_)
      obtain rfl := Fr_nil cσ11
      exact h9ret r12 σ0 m0 f0
    · intro q_4
      refine k_X12_placeOf m0 (by omega) (by omega) (by first | omega | assumption | rfl) (by first | omega | assumption | rfl) (fun r14 σ13 mσ13 cσ13 plσ13 phσ13 (pσ13_0 : r14.toInt < (gi σ0 74 0).toInt) (pσ13_1 : gi σ0 110 r14.toNatClampNeg = a1) => ?_)
      obtain rfl := Fr_nil cσ13
      refine k_X12_paceAt m0 (by omega) (by omega) (fun r16 σ15 mσ15 cσ15 => ?_)
      have fσ15 : Fr [74, 129] [30] σ0 σ15 := Fr_tr f0 cσ15 (by decide) (by decide)
      have k_24 : (gi σ15 74 0).toInt = (gi σ0 74 0).toInt := congrArg Int32.toInt (cσ15.2.1 0 (by decide))
      exact h9ret r16 σ15 mσ15 fσ15
    · intro q_4
      refine k_X12_placeOf m0 (by omega) (by omega) (by first | omega | assumption | rfl) (by first | omega | assumption | rfl) (fun r18 σ17 mσ17 cσ17 plσ17 phσ17 (pσ17_0 : r18.toInt < (gi σ0 74 0).toInt) (pσ17_1 : gi σ0 110 r18.toNatClampNeg = a1) => ?_)
      obtain rfl := Fr_nil cσ17
      refine k_X12_strideAt m0 (by omega) (by omega) (fun r20 σ19 mσ19 cσ19 (pσ19_0 : (gi σ19 74 1).toInt = (gi σ0 74 1).toInt) => ?_)
      have fσ19 : Fr [74, 129] [30] σ0 σ19 := Fr_tr f0 cσ19 (by decide) (by decide)
      have k_25 : (gi σ19 74 0).toInt = (gi σ0 74 0).toInt := congrArg Int32.toInt (cσ19.2.1 0 (by decide))
      exact h9ret r20 σ19 mσ19 fσ19
  · intro q_2
    have b_26 : r2.toInt = 0 := congrArg Int32.toInt q_2
    have z_27 : (-1 : Int32).toInt = -1 := rfl
    exact h9ret (-1 : Int32) σ0 m0 f0
