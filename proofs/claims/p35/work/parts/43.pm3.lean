set_option maxRecDepth 100000 in
set_option maxHeartbeats 4000000 in
theorem k_X12_paceAt {l : Launch} {V : Vx} {a1 : Int32} {σ0 : Sg} {Qk : Int32 → Sg → Prop} (m0 : MI σ0) (l_a1 : 0 ≤ a1.toInt) (u_a1 : a1.toInt ≤ 5) (h9ret : ∀ (r : Int32) (σ' : Sg), MI σ' → Fr [74, 129] [30] σ0 σ' → Qk r σ') : K_X12_paceAt l V a1 σ0 Qk := by
  refine e_X12_paceAt (fun M hl hV hN C => ?_)
  subst hl
  subst hV
  have T : ∀ n : Nat, (∀ (x1 : Int32) (x2 : Int32) (x3 : Int32) (σ : Sg), MI σ → Fr [74, 129] [30] σ0 σ → (0 ≤ x1.toInt) → (x1.toInt ≤ 5) → (0 ≤ x3.toInt) → (x3.toInt ≤ 60) → ((gi σ 74 12).toInt = (gi σ0 74 12).toInt) → ((gi σ0 74 12).toInt < 0 ∨ (0 ≤ (gi σ0 74 12).toInt ∧ 10 * (gi σ0 74 12).toInt ≤ x3.toInt)) → (61 - x3.toInt).toNat < n → PS M 13 [(0, .ref 74), (1, .int x1), (2, .int x2), (3, .int x3)] [] σ (0, 0)) := by
    intro n
    induction n with
    | zero => exact fun _ _ _ _ _ _ _ _ _ _ _ _ h8 => absurd h8 (Nat.not_lt_zero _)
    | succ n ih =>
      have ih13 := ih
      · intro x1 x2 x3 σ mσ fσ lx1 ux1 lx3 ux3 i0 i1 hmu
        refine s_X12_paceAt_13 C hN ?_
        refine k_X12_behind mσ  (fun r2 σ1 mσ1 cσ1 plσ1 phσ1 (pσ1_0 : ((gi σ 74 12).toInt < 0 ∧ r2.toInt = 0) ∨ (0 ≤ (gi σ 74 12).toInt ∧ r2.toInt = 10 * (gi σ 74 12).toInt + (gi σ 117 (gi σ 74 12).toNatClampNeg).toInt)) => ?_)
        obtain rfl := Fr_nil cσ1
        have t_1 := MI_f12 mσ
        refine ⟨?_, ?_⟩
        · intro q_2
          have b_3 : r2.toInt ≤ x3.toInt := Int32.le_iff_toInt_le.mp q_2
          refine k_X12_most mσ  (fun r5 σ4 mσ4 cσ4 (pσ4_0 : (0 : Int) ≤ r5.toInt ∧ x2.toInt ≤ r5.toInt ∧ (r5.toInt = (0 : Int) ∨ r5.toInt = x2.toInt)) => ?_)
          obtain rfl := Fr_nil cσ4
          exact h9ret r5 σ mσ fσ
        · intro q_2
          have b_4 : ¬ r2.toInt ≤ x3.toInt := fun h9 => q_2 (Int32.le_iff_toInt_le.mpr h9)
          have hv_5 : vp_in x3 60 := vp_in_iff.mpr ⟨by omega, by omega⟩
          refine ⟨hv_5, ?_⟩
          refine ⟨?_, ?_⟩
          · intro q_6
            have b_7 : (1 : Int) < (gi σ 118 x3.toNatClampNeg).toInt := Int32.lt_iff_toInt_lt.mp q_6
            intro v8 ev8
            have t_8 : (x3 + (1 : Int32)).toInt = x3.toInt + 1 := i_add (x := x3) (y := (1 : Int32)) (by show (_ : Int) ≤ x3.toInt + 1; omega) (by show x3.toInt + 1 ≤ (_ : Int); omega)
            have t_9 : v8.toInt = (x3 + (1 : Int32)).toInt := congrArg Int32.toInt ev8
            exact ih13 x1 x2 v8 σ mσ fσ (by omega) (by omega) (by omega) (by omega) (by first | omega | assumption | rfl) (by first | omega | assumption | rfl) (by omega)
          · intro q_6
            have b_10 : ¬ (1 : Int) < (gi σ 118 x3.toNatClampNeg).toInt := fun h9 => q_6 (Int32.lt_iff_toInt_lt.mpr h9)
            have hv_11 : vp_in x1 6 := vp_in_iff.mpr ⟨by omega, by omega⟩
            refine ⟨hv_11, ?_⟩
            have t_12 := MI_a110 mσ hv_11
            refine k_X12_holds mσ (by omega) (by omega) (by omega) (by omega) (okCl_of mσ (by omega) (by omega) (by omega) (by omega)) (fun r11 σ10 mσ10 cσ10 plσ10 phσ10 => ?_)
            have fσ10 : Fr [74, 129] [30] σ0 σ10 := Fr_tr fσ cσ10 (by decide) (by decide)
            have k_13 : (gi σ10 74 12).toInt = (gi σ 74 12).toInt := congrArg Int32.toInt (cσ10.2.1 12 (by decide))
            refine ⟨?_, ?_⟩
            · intro q_14
              have b_15 : ¬ r11.toInt = 0 := fun h9 => q_14 (Int32.toInt_inj.mp h9)
              refine ⟨hv_5, ?_⟩
              refine ⟨?_, ?_⟩
              · intro q_16
                have b_17 : ¬ (gi σ10 118 x3.toNatClampNeg).toInt = 0 := fun h9 => q_16 (Int32.toInt_inj.mp h9)
                refine ⟨hv_5, ?_⟩
                intro v16 ev16
                intro v17 ev17
                have t_18 : (x3 + (1 : Int32)).toInt = x3.toInt + 1 := i_add (x := x3) (y := (1 : Int32)) (by show (_ : Int) ≤ x3.toInt + 1; omega) (by show x3.toInt + 1 ≤ (_ : Int); omega)
                have t_19 : v17.toInt = (x3 + (1 : Int32)).toInt := congrArg Int32.toInt ev17
                exact ih13 x1 v16 v17 σ10 mσ10 fσ10 (by omega) (by omega) (by omega) (by omega) (by first | omega | assumption | rfl) (by first | omega | assumption | rfl) (by omega)
              · intro q_16
                have b_20 : (gi σ10 118 x3.toNatClampNeg).toInt = 0 := congrArg Int32.toInt q_16
                refine ⟨hv_5, ?_⟩
                intro v19 ev19
                intro v20 ev20
                have t_21 : (x3 + (1 : Int32)).toInt = x3.toInt + 1 := i_add (x := x3) (y := (1 : Int32)) (by show (_ : Int) ≤ x3.toInt + 1; omega) (by show x3.toInt + 1 ≤ (_ : Int); omega)
                have t_22 : v20.toInt = (x3 + (1 : Int32)).toInt := congrArg Int32.toInt ev20
                exact ih13 x1 v19 v20 σ10 mσ10 fσ10 (by omega) (by omega) (by omega) (by omega) (by first | omega | assumption | rfl) (by first | omega | assumption | rfl) (by omega)
            · intro q_14
              have b_23 : r11.toInt = 0 := congrArg Int32.toInt q_14
              intro v21 ev21
              have t_24 : (x3 + (1 : Int32)).toInt = x3.toInt + 1 := i_add (x := x3) (y := (1 : Int32)) (by show (_ : Int) ≤ x3.toInt + 1; omega) (by show x3.toInt + 1 ≤ (_ : Int); omega)
              have t_25 : v21.toInt = (x3 + (1 : Int32)).toInt := congrArg Int32.toInt ev21
              exact ih13 x1 x2 v21 σ10 mσ10 fσ10 (by omega) (by omega) (by omega) (by omega) (by first | omega | assumption | rfl) (by first | omega | assumption | rfl) (by omega)
  have U13 := T 90
  have f0 : Fr [74, 129] [30] σ0 σ0 := Fr_rf
  refine s_X12_paceAt_0 C hN ?_
  intro σ1 eσ1
  have mσ1 : MI σ1 := by rw [eσ1]; exact MIs_f30 m0 (by omega) (by omega)
  have fσ1 : Fr [74, 129] [30] σ0 σ1 := by rw [eσ1]; exact Fr_si f0 (by decide) (fun _ => by decide)
  have k_26 : (gi σ1 74 12).toInt = (gi σ0 74 12).toInt := by rw [eσ1]; exact congrArg Int32.toInt (gi_si_ne (Or.inr (by decide)))
  refine k_X12_begin mσ1  (fun r3 σ2 mσ2 cσ2 plσ2 phσ2 (pσ2_0 : ((gi σ1 74 12).toInt < 0 ∧ r3.toInt = 0) ∨ (0 ≤ (gi σ1 74 12).toInt ∧ r3.toInt = 10 * (gi σ1 74 12).toInt)) => ?_)
  obtain rfl := Fr_nil cσ2
  have t_27 := MI_f12 mσ1
  have z_28 : (6 : Int32).toInt = 6 := rfl
  exact U13 a1 (6 : Int32) r3 σ1 mσ1 fσ1 (by omega) (by omega) (by omega) (by omega) (by first | omega | assumption | rfl) (by first | omega | assumption | rfl) (by omega)
set_option maxRecDepth 100000 in
set_option maxHeartbeats 4000000 in
theorem k_X12_strideAt {l : Launch} {V : Vx} {a1 : Int32} {σ0 : Sg} {Qk : Int32 → Sg → Prop} (m0 : MI σ0) (l_a1 : 0 ≤ a1.toInt) (u_a1 : a1.toInt ≤ 5) (h9ret : ∀ (r : Int32) (σ' : Sg), MI σ' → Fr [74, 129] [30] σ0 σ' → ((gi σ' 74 1).toInt = (gi σ0 74 1).toInt) → Qk r σ') : K_X12_strideAt l V a1 σ0 Qk := by
  refine e_X12_strideAt (fun M hl hV hN C => ?_)
  subst hl
  subst hV
  have f0 : Fr [74, 129] [30] σ0 σ0 := Fr_rf
  refine s_X12_strideAt_0 C hN ?_
  have hv_1 : vp_in a1 6 := vp_in_iff.mpr ⟨by omega, by omega⟩
  refine ⟨hv_1, ?_⟩
  intro v2 ev2
  have t_2 := MI_a110 m0 hv_1
  have t_3 : v2.toInt = (gi σ0 110 a1.toNatClampNeg).toInt := congrArg Int32.toInt ev2
  refine k_X12_paceAt m0 (by omega) (by omega) (fun r4 σ3 mσ3 cσ3 => ?_)
  have fσ3 : Fr [74, 129] [30] σ0 σ3 := Fr_tr f0 cσ3 (by decide) (by decide)
  have k_4 : (gi σ3 74 1).toInt = (gi σ0 74 1).toInt := congrArg Int32.toInt (cσ3.2.1 1 (by decide))
  refine k_X12_strideOf mσ3 (by omega) (by omega) (by omega) (by omega) (fun r6 σ5 mσ5 cσ5 => ?_)
  obtain rfl := Fr_nil cσ5
  refine k_X12_most mσ3  (fun r8 σ7 mσ7 cσ7 (pσ7_0 : (0 : Int) ≤ r8.toInt ∧ r6.toInt ≤ r8.toInt ∧ (r8.toInt = (0 : Int) ∨ r8.toInt = r6.toInt)) => ?_)
  obtain rfl := Fr_nil cσ7
  have hv_5 : vp_in v2 6 := vp_in_iff.mpr ⟨by omega, by omega⟩
  refine ⟨hv_5, ?_⟩
  refine ⟨?_, ?_⟩
  · intro q_6
    have b_7 : ¬ (gi σ3 106 v2.toNatClampNeg).toInt = 0 := fun h9 => q_6 (Int32.toInt_inj.mp h9)
    exact h9ret r8 σ3 mσ3 fσ3 (by first | omega | assumption | rfl)
  · intro q_6
    have b_8 : (gi σ3 106 v2.toNatClampNeg).toInt = 0 := congrArg Int32.toInt q_6
    exact h9ret (r8 / (2 : Int32)) σ3 mσ3 fσ3 (by first | omega | assumption | rfl)
set_option maxRecDepth 100000 in
set_option maxHeartbeats 4000000 in
theorem k_X12_goes {l : Launch} {V : Vx} {a1 : Int32} {σ0 : Sg} {Qk : Int32 → Sg → Prop} (m0 : MI σ0) (l_a1 : 0 ≤ a1.toInt) (u_a1 : a1.toInt ≤ 5) (h9ret : ∀ (r : Int32) (σ' : Sg), MI σ' → Fr [105, 106, 107, 108] [] σ0 σ' → (0 ≤ r.toInt) → (r.toInt ≤ 1) → Qk r σ') : K_X12_goes l V a1 σ0 Qk := by
  refine e_X12_goes (fun M hl hV hN C => ?_)
  subst hl
  subst hV
  have T : ∀ n : Nat, (∀ (x1 : Int32) (x2 : Int32) (z0 : Int32) (σ : Sg), MI σ → Fr [105, 106, 107, 108] [] σ0 σ → (0 ≤ x1.toInt) → (x1.toInt ≤ 5) → (0 ≤ x2.toInt) → (x2.toInt ≤ 5) → (z0.toInt ≤ 9999) → 2 < n → PS M 82 [(0, .ref 74), (1, .int x1), (2, .int x2)] [.int z0] σ (0, 0)) ∧ (∀ (x1 : Int32) (x5 : Int32) (σ : Sg), MI σ → Fr [105, 106, 107, 108] [] σ0 σ → (0 ≤ x1.toInt) → (x1.toInt ≤ 5) → 1 < n → PS M 203 [(0, .ref 74), (1, .int x1), (5, .int x5)] [] σ (0, 0)) := by
    intro n
    induction n with
    | zero => exact ⟨fun _ _ _ _ _ _ _ _ _ _ _ h8 => absurd h8 (Nat.not_lt_zero _), fun _ _ _ _ _ _ _ h8 => absurd h8 (Nat.not_lt_zero _)⟩
    | succ n ih =>
      obtain ⟨ih82, ih203⟩ := ih
      refine ⟨?_, ?_⟩
      · intro x1 x2 z0 σ mσ fσ lx1 ux1 lx2 ux2 i0 hmu
        refine s_X12_goes_82 C hN ?_
        have hv_1 : vp_in x2 6 := vp_in_iff.mpr ⟨by omega, by omega⟩
        refine ⟨hv_1, ?_⟩
        refine ⟨hv_1, ?_⟩
        have hv_2 : vp_in x1 6 := vp_in_iff.mpr ⟨by omega, by omega⟩
        refine ⟨hv_2, ?_⟩
        have t_3 := MI_a105 mσ hv_1
        refine k_X12_least mσ  (fun r5 σ4 mσ4 cσ4 (pσ4_0 : r5.toInt ≤ z0.toInt ∧ r5.toInt ≤ ((gi σ 105 x2.toNatClampNeg) + (gi σ 131 x1.toNatClampNeg)).toInt ∧ (r5.toInt = z0.toInt ∨ r5.toInt = ((gi σ 105 x2.toNatClampNeg) + (gi σ 131 x1.toNatClampNeg)).toInt)) => ?_)
        obtain rfl := Fr_nil cσ4
        refine k_X12_most mσ  (fun r7 σ6 mσ6 cσ6 (pσ6_0 : (gi σ 105 x2.toNatClampNeg).toInt ≤ r7.toInt ∧ r5.toInt ≤ r7.toInt ∧ (r7.toInt = (gi σ 105 x2.toNatClampNeg).toInt ∨ r7.toInt = r5.toInt)) => ?_)
        obtain rfl := Fr_nil cσ6
        refine ⟨hv_1, ?_⟩
        intro v9 ev9
        refine ⟨hv_1, ?_⟩
        intro σ11 eσ11
        have w_4 := Int32.toInt_lt r7
        have w_5 := Int32.le_toInt r7
        have mσ11 : MI σ11 := by rw [eσ11]; exact MIs_a105 mσ (by omega) (by omega)
        have fσ11 : Fr [105, 106, 107, 108] [] σ0 σ11 := by rw [eσ11]; exact Fr_si fσ (by decide) (fun h9 => absurd h9 (by decide))
        refine ⟨?_, ?_⟩
        · intro q_6
          have w_7 := Int32.toInt_lt v9
          have w_8 := Int32.le_toInt v9
          have b_9 : v9.toInt ≤ 0 := Int32.le_iff_toInt_le.mp q_6
          refine ⟨hv_1, ?_⟩
          refine k_X12_most mσ11  (fun r15 σ14 mσ14 cσ14 (pσ14_0 : (0 : Int) ≤ r15.toInt ∧ ((gi σ11 107 x2.toNatClampNeg) - (2 : Int32)).toInt ≤ r15.toInt ∧ (r15.toInt = (0 : Int) ∨ r15.toInt = ((gi σ11 107 x2.toNatClampNeg) - (2 : Int32)).toInt)) => ?_)
          obtain rfl := Fr_nil cσ14
          refine ⟨hv_1, ?_⟩
          intro σ17 eσ17
          have mσ17 : MI σ17 := by rw [eσ17]; exact MIs_au (a := 107) mσ11 rfl rfl
          have fσ17 : Fr [105, 106, 107, 108] [] σ0 σ17 := by rw [eσ17]; exact Fr_si fσ11 (by decide) (fun h9 => absurd h9 (by decide))
          exact ih203 x1 v9 σ17 mσ17 fσ17 (by omega) (by omega) (by omega)
        · intro q_6
          have w_10 := Int32.toInt_lt v9
          have w_11 := Int32.le_toInt v9
          have b_12 : ¬ v9.toInt ≤ 0 := fun h9 => q_6 (Int32.le_iff_toInt_le.mpr h9)
          refine ⟨hv_1, ?_⟩
          refine k_X12_most mσ11  (fun r20 σ19 mσ19 cσ19 (pσ19_0 : (0 : Int) ≤ r20.toInt ∧ ((gi σ11 106 x2.toNatClampNeg) - (1 : Int32)).toInt ≤ r20.toInt ∧ (r20.toInt = (0 : Int) ∨ r20.toInt = ((gi σ11 106 x2.toNatClampNeg) - (1 : Int32)).toInt)) => ?_)
          obtain rfl := Fr_nil cσ19
          refine ⟨hv_1, ?_⟩
          intro σ22 eσ22
          have mσ22 : MI σ22 := by rw [eσ22]; exact MIs_au (a := 106) mσ11 rfl rfl
          have fσ22 : Fr [105, 106, 107, 108] [] σ0 σ22 := by rw [eσ22]; exact Fr_si fσ11 (by decide) (fun h9 => absurd h9 (by decide))
          refine ⟨hv_1, ?_⟩
          refine k_X12_lastOf mσ22  (fun r25 σ24 mσ24 cσ24 => ?_)
          obtain rfl := Fr_nil cσ24
          refine k_X12_least mσ22  (fun r27 σ26 mσ26 cσ26 (pσ26_0 : r27.toInt ≤ (99 : Int) ∧ r27.toInt ≤ ((gi σ22 107 x2.toNatClampNeg) + r25).toInt ∧ (r27.toInt = (99 : Int) ∨ r27.toInt = ((gi σ22 107 x2.toNatClampNeg) + r25).toInt)) => ?_)
          obtain rfl := Fr_nil cσ26
          refine ⟨hv_1, ?_⟩
          intro σ29 eσ29
          have mσ29 : MI σ29 := by rw [eσ29]; exact MIs_au (a := 107) mσ22 rfl rfl
          have fσ29 : Fr [105, 106, 107, 108] [] σ0 σ29 := by rw [eσ29]; exact Fr_si fσ22 (by decide) (fun h9 => absurd h9 (by decide))
          exact ih203 x1 v9 σ29 mσ29 fσ29 (by omega) (by omega) (by omega)
      · intro x1 x5 σ mσ fσ lx1 ux1 hmu
        refine s_X12_goes_203 C hN ?_
        have hv_13 : vp_in x1 6 := vp_in_iff.mpr ⟨by omega, by omega⟩
        refine ⟨hv_13, ?_⟩
        refine ⟨?_, ?_⟩
        · intro q_14
          have w_15 := Int32.toInt_lt x5
          have w_16 := Int32.le_toInt x5
          have b_17 : (gi σ 131 x1.toNatClampNeg).toInt ≤ x5.toInt := Int32.le_iff_toInt_le.mp q_14
          have z_18 : (0 : Int32).toInt = 0 := rfl
          exact h9ret (0 : Int32) σ mσ fσ (by omega) (by omega)
        · intro q_14
          have w_19 := Int32.toInt_lt x5
          have w_20 := Int32.le_toInt x5
          have b_21 : ¬ (gi σ 131 x1.toNatClampNeg).toInt ≤ x5.toInt := fun h9 => q_14 (Int32.le_iff_toInt_le.mpr h9)
          have z_22 : (1 : Int32).toInt = 1 := rfl
          exact h9ret (1 : Int32) σ mσ fσ (by omega) (by omega)
  obtain ⟨U82, U203⟩ := T 9
  have f0 : Fr [105, 106, 107, 108] [] σ0 σ0 := Fr_rf
  refine s_X12_goes_0 C hN ?_
  have hv_23 : vp_in a1 6 := vp_in_iff.mpr ⟨by omega, by omega⟩
  refine ⟨hv_23, ?_⟩
  intro v2 ev2
  have t_24 := MI_a110 m0 hv_23
  have t_25 : v2.toInt = (gi σ0 110 a1.toNatClampNeg).toInt := congrArg Int32.toInt ev2
  have hv_26 : vp_in v2 6 := vp_in_iff.mpr ⟨by omega, by omega⟩
  refine ⟨hv_26, ?_⟩
  refine ⟨?_, ?_⟩
  · intro q_27
    have b_28 : (gi σ0 108 v2.toNatClampNeg).toInt ≤ 0 := Int32.le_iff_toInt_le.mp q_27
    refine ⟨?_, ?_⟩
    · intro q_29
      have b_30 : ¬ a1.toInt = 0 := fun h9 => q_29 (Int32.toInt_inj.mp h9)
      have t_31 : (a1 - (1 : Int32)).toInt = a1.toInt - 1 := i_sub (x := a1) (y := (1 : Int32)) (by show (_ : Int) ≤ a1.toInt - 1; omega) (by show a1.toInt - 1 ≤ (_ : Int); omega)
      have hv_32 : vp_in (a1 - (1 : Int32)) 6 := vp_in_iff.mpr ⟨by omega, by omega⟩
      refine ⟨hv_32, ?_⟩
      have t_33 := MI_a110 m0 hv_32
      have hv_34 : vp_in (gi σ0 110 (a1 - (1 : Int32)).toNatClampNeg) 6 := vp_in_iff.mpr ⟨by omega, by omega⟩
      refine ⟨hv_34, ?_⟩
      refine k_X12_gap m0  (fun r9 σ8 mσ8 cσ8 => ?_)
      obtain rfl := Fr_nil cσ8
      have t_35 := MI_a105 m0 hv_34
      refine k_X12_least m0  (fun r11 σ10 mσ10 cσ10 (pσ10_0 : r11.toInt ≤ (9999 : Int) ∧ r11.toInt ≤ ((gi σ0 105 (gi σ0 110 (a1 - (1 : Int32)).toNatClampNeg).toNatClampNeg) - r9).toInt ∧ (r11.toInt = (9999 : Int) ∨ r11.toInt = ((gi σ0 105 (gi σ0 110 (a1 - (1 : Int32)).toNatClampNeg).toNatClampNeg) - r9).toInt)) => ?_)
      obtain rfl := Fr_nil cσ10
      exact U82 a1 v2 r11 σ0 m0 f0 (by omega) (by omega) (by omega) (by omega) (by first | omega | assumption | rfl) (by omega)
    · intro q_29
      have b_36 : a1.toInt = 0 := congrArg Int32.toInt q_29
      have z_37 : (9999 : Int32).toInt = 9999 := rfl
      exact U82 a1 v2 (9999 : Int32) σ0 m0 f0 (by omega) (by omega) (by omega) (by omega) (by first | omega | assumption | rfl) (by omega)
  · intro q_27
    have b_38 : ¬ (gi σ0 108 v2.toNatClampNeg).toInt ≤ 0 := fun h9 => q_27 (Int32.le_iff_toInt_le.mpr h9)
    refine ⟨hv_26, ?_⟩
    refine ⟨hv_26, ?_⟩
    intro σ14 eσ14
    have mσ14 : MI σ14 := by rw [eσ14]; exact MIs_au (a := 108) m0 rfl rfl
    have fσ14 : Fr [105, 106, 107, 108] [] σ0 σ14 := by rw [eσ14]; exact Fr_si f0 (by decide) (fun h9 => absurd h9 (by decide))
    refine ⟨hv_26, ?_⟩
    refine k_X12_most mσ14  (fun r17 σ16 mσ16 cσ16 (pσ16_0 : (0 : Int) ≤ r17.toInt ∧ ((gi σ14 107 v2.toNatClampNeg) - (2 : Int32)).toInt ≤ r17.toInt ∧ (r17.toInt = (0 : Int) ∨ r17.toInt = ((gi σ14 107 v2.toNatClampNeg) - (2 : Int32)).toInt)) => ?_)
    obtain rfl := Fr_nil cσ16
    refine ⟨hv_26, ?_⟩
    intro σ19 eσ19
    have mσ19 : MI σ19 := by rw [eσ19]; exact MIs_au (a := 107) mσ14 rfl rfl
    have fσ19 : Fr [105, 106, 107, 108] [] σ0 σ19 := by rw [eσ19]; exact Fr_si fσ14 (by decide) (fun h9 => absurd h9 (by decide))
    have z_39 : (0 : Int32).toInt = 0 := rfl
    exact h9ret (0 : Int32) σ19 mσ19 fσ19 (by omega) (by omega)
