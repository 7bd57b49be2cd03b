/-! minutes, what is seen: by the arguments and what stands -/
noncomputable def MNA (m n : Int32) : Prop := (9999 ≤ m.toInt → n.toInt = m.toInt) ∧ (m.toInt < 9999 → n.toInt = m.toInt + 1)
noncomputable def WHA (r m n : Int32) : Prop := (9999 ≤ m.toInt → r.toInt = -3 ∧ n.toInt = m.toInt) ∧ (m.toInt < 9999 → r.toInt = n.toInt ∧ n.toInt = m.toInt + 1)
noncomputable def PAA (r a m n : Int32) : Prop := ((a.toInt < 1 ∨ 60 < a.toInt) → r.toInt = -2 ∧ n.toInt = m.toInt) ∧ (1 ≤ a.toInt → a.toInt ≤ 60 → (9999 < m.toInt + a.toInt → r.toInt = -3 ∧ n.toInt = m.toInt) ∧ (m.toInt + a.toInt ≤ 9999 → r.toInt = n.toInt ∧ n.toInt = m.toInt + a.toInt))
noncomputable def SEA (r a1 a2 a3 : Int32) (c n n2 : Int) : Prop := (a1.toInt = -1 → r.toInt = 0 ∧ n2 = 0) ∧ ((a1.toInt < -1 ∨ (a1.toInt ≠ -1 ∧ c ≤ a1.toInt)) → r.toInt = -1 ∧ n2 = n) ∧ (0 ≤ a1.toInt → a1.toInt < c → ((a2.toInt < 0 ∨ 30 < a2.toInt ∨ a3.toInt < 0 ∨ 9999 < a3.toInt) → r.toInt = -2 ∧ n2 = n) ∧ (0 ≤ a2.toInt → a2.toInt ≤ 30 → 0 ≤ a3.toInt → a3.toInt ≤ 9999 → (6 ≤ n → r.toInt = -4 ∧ n2 = n) ∧ (n < 6 → r.toInt = n + 1 ∧ n2 = n + 1)))
set_option maxRecDepth 100000 in
set_option maxHeartbeats 4000000 in
theorem kt_X11_minute {l : Launch} {V : Vx} {σ0 : Sg} {Qk : Int32 → Sg → Prop} (m0 : XI V σ0) (nn_1 : NN σ0 1) (pre0 : (gi σ0 1 9).toInt ≤ 9999) (h9ret : ∀ (r : Int32) (σ' : Sg), XI V σ' → FX (fun id => id = 15 ∨ id = 16 ∨ id = 4 ∨ id = 5 ∨ id = 6 ∨ id = 7) (fun id k => (id = 1 ∧ k = 9)) σ0 σ' → (NN σ' 1) → ((gi σ' 1 9).toInt ≤ 9999) → (MNA (gi σ0 1 9) (gi σ' 1 9)) → Qk r σ') : K_X11_minute l V σ0 Qk := by
  refine e_X11_minute (fun M hl hV hN C => ?_)
  subst hl
  subst hV
  have f0 : FX (fun id => id = 15 ∨ id = 16 ∨ id = 4 ∨ id = 5 ∨ id = 6 ∨ id = 7) (fun id k => (id = 1 ∧ k = 9)) σ0 σ0 := FX_rf
  have t_1 := XI_c1 m0 (id := 1) (k := 1) (lim_C0_1 (Or.inl rfl))
  have t_2 := XI_c1 m0 (id := 1) (k := 9) (lim_C0_9 (Or.inl rfl))
  refine s_X11_minute_0 C hN  ?_
  refine ⟨?_, ?_⟩
  · intro q_3
    have b_4 : (gi σ0 1 9).toInt < 9999 := Int32.lt_iff_toInt_lt.mp q_3
    refine k_X1_goesMinute (Or.inl rfl) m0 nn_1 (by first | omega | assumption | rfl) (fun r3 σ2 mσ2 cσ2 nσ2_1 (pσ2_0 : (gi σ2 1 9).toInt = (gi σ0 1 9).toInt + 1) => ?_)
    have fσ2 : FX (fun id => id = 15 ∨ id = 16 ∨ id = 4 ∨ id = 5 ∨ id = 6 ∨ id = 7) (fun id k => (id = 1 ∧ k = 9)) σ0 σ2 := FX_tr f0 cσ2 (fun x (h9 : x = 15 ∨ x = 16 ∨ x = 4 ∨ x = 5 ∨ x = 6 ∨ x = 7) => h9.elim (fun e9 => (show x = 15 ∨ x = 16 ∨ x = 4 ∨ x = 5 ∨ x = 6 ∨ x = 7 from Or.inl (e9))) (fun h9 => h9.elim (fun e9 => (show x = 15 ∨ x = 16 ∨ x = 4 ∨ x = 5 ∨ x = 6 ∨ x = 7 from Or.inr (Or.inl (e9)))) (fun h9 => h9.elim (fun e9 => (show x = 15 ∨ x = 16 ∨ x = 4 ∨ x = 5 ∨ x = 6 ∨ x = 7 from Or.inr (Or.inr (Or.inl (e9))))) (fun h9 => h9.elim (fun e9 => (show x = 15 ∨ x = 16 ∨ x = 4 ∨ x = 5 ∨ x = 6 ∨ x = 7 from Or.inr (Or.inr (Or.inr (Or.inl (e9)))))) (fun h9 => h9.elim (fun e9 => (show x = 15 ∨ x = 16 ∨ x = 4 ∨ x = 5 ∨ x = 6 ∨ x = 7 from Or.inr (Or.inr (Or.inr (Or.inr (Or.inl (e9))))))) (fun h9 => (show x = 15 ∨ x = 16 ∨ x = 4 ∨ x = 5 ∨ x = 6 ∨ x = 7 from Or.inr (Or.inr (Or.inr (Or.inr (Or.inr (h9)))))))))))) (fun x k (h9 : (x = 1 ∧ k = 9)) => (show (x = 15 ∨ x = 16 ∨ x = 4 ∨ x = 5 ∨ x = 6 ∨ x = 7) ∨ ((x = 1 ∧ k = 9)) from Or.inr (show (x = 1 ∧ k = 9) from h9)))
    have k_5 : (gi σ2 1 1).toInt = (gi σ0 1 1).toInt := congrArg Int32.toInt (FX_i cσ2 (show ¬ (1 = 15 ∨ 1 = 16 ∨ 1 = 4 ∨ 1 = 5 ∨ 1 = 6 ∨ 1 = 7) from by omega) (show ¬ ((1 = 1 ∧ 1 = 9)) from by omega))
    have t_6 := XI_c1 mσ2 (id := 1) (k := 9) (lim_C0_9 (Or.inl rfl))
    have w_7 := Int32.toInt_lt r3
    have w_8 := Int32.le_toInt r3
    exact h9ret r3 σ2 mσ2 fσ2 nσ2_1 (by first | omega | assumption | rfl) (by unfold MNA; omega)
  · intro q_3
    have b_9 : ¬ (gi σ0 1 9).toInt < 9999 := fun h9 => q_3 (Int32.lt_iff_toInt_lt.mpr h9)
    have z_10 : (-3 : Int32).toInt = -3 := rfl
    exact h9ret (-3 : Int32) σ0 m0 f0 nn_1 (by first | omega | assumption | rfl) (by unfold MNA; omega)
set_option maxRecDepth 100000 in
set_option maxHeartbeats 4000000 in
theorem kt_X11_whet {l : Launch} {V : Vx} {σ0 : Sg} {Qk : Int32 → Sg → Prop} (m0 : XI V σ0) (nn_1 : NN σ0 1) (pre0 : (gi σ0 1 9).toInt ≤ 9999) (h9ret : ∀ (r : Int32) (σ' : Sg), XI V σ' → FX (fun id => id = 5 ∨ id = 6 ∨ id = 7) (fun id k => (id = 1 ∧ k = 9)) σ0 σ' → (NN σ' 1) → ((gi σ' 1 9).toInt ≤ 9999) → (WHA r (gi σ0 1 9) (gi σ' 1 9)) → Qk r σ') : K_X11_whet l V σ0 Qk := by
  refine e_X11_whet (fun M hl hV hN C => ?_)
  subst hl
  subst hV
  have f0 : FX (fun id => id = 5 ∨ id = 6 ∨ id = 7) (fun id k => (id = 1 ∧ k = 9)) σ0 σ0 := FX_rf
  have t_1 := XI_c1 m0 (id := 1) (k := 1) (lim_C0_1 (Or.inl rfl))
  have t_2 := XI_c1 m0 (id := 1) (k := 9) (lim_C0_9 (Or.inl rfl))
  refine s_X11_whet_0 C hN  ?_
  refine ⟨?_, ?_⟩
  · intro q_3
    have b_4 : (gi σ0 1 9).toInt < 9999 := Int32.lt_iff_toInt_lt.mp q_3
    refine k_X1_whetsAll (Or.inl rfl) m0 nn_1 (by first | omega | assumption | rfl) (fun σ2 mσ2 cσ2 nσ2_1 (pσ2_0 : (gi σ2 1 9).toInt = (gi σ0 1 9).toInt + 1) => ?_)
    have fσ2 : FX (fun id => id = 5 ∨ id = 6 ∨ id = 7) (fun id k => (id = 1 ∧ k = 9)) σ0 σ2 := FX_tr f0 cσ2 (fun x (h9 : x = 5 ∨ x = 6 ∨ x = 7) => h9.elim (fun e9 => (show x = 5 ∨ x = 6 ∨ x = 7 from Or.inl (e9))) (fun h9 => h9.elim (fun e9 => (show x = 5 ∨ x = 6 ∨ x = 7 from Or.inr (Or.inl (e9)))) (fun h9 => (show x = 5 ∨ x = 6 ∨ x = 7 from Or.inr (Or.inr (h9)))))) (fun x k (h9 : (x = 1 ∧ k = 9)) => (show (x = 5 ∨ x = 6 ∨ x = 7) ∨ ((x = 1 ∧ k = 9)) from Or.inr (show (x = 1 ∧ k = 9) from h9)))
    have k_5 : (gi σ2 1 1).toInt = (gi σ0 1 1).toInt := congrArg Int32.toInt (FX_i cσ2 (show ¬ (1 = 5 ∨ 1 = 6 ∨ 1 = 7) from by omega) (show ¬ ((1 = 1 ∧ 1 = 9)) from by omega))
    have t_6 := XI_c1 mσ2 (id := 1) (k := 9) (lim_C0_9 (Or.inl rfl))
    exact h9ret (gi σ2 1 9) σ2 mσ2 fσ2 nσ2_1 (by first | omega | assumption | rfl) (by unfold WHA; omega)
  · intro q_3
    have b_7 : ¬ (gi σ0 1 9).toInt < 9999 := fun h9 => q_3 (Int32.lt_iff_toInt_lt.mpr h9)
    have z_8 : (-3 : Int32).toInt = -3 := rfl
    exact h9ret (-3 : Int32) σ0 m0 f0 nn_1 (by first | omega | assumption | rfl) (by unfold WHA; omega)
set_option maxRecDepth 100000 in
set_option maxHeartbeats 4000000 in
theorem kt_X11_pause {l : Launch} {V : Vx} {a1 : Int32} {σ0 : Sg} {Qk : Int32 → Sg → Prop} (m0 : XI V σ0) (nn_1 : NN σ0 1) (pre0 : (gi σ0 1 9).toInt ≤ 9999) (h9ret : ∀ (r : Int32) (σ' : Sg), XI V σ' → FX (fun id => id = 6 ∨ id = 7) (fun id k => (id = 1 ∧ k = 9)) σ0 σ' → (NN σ' 1) → ((gi σ' 1 9).toInt ≤ 9999) → (PAA r a1 (gi σ0 1 9) (gi σ' 1 9)) → Qk r σ') : K_X11_pause l V a1 σ0 Qk := by
  refine e_X11_pause (fun M hl hV hN C => ?_)
  subst hl
  subst hV
  have f0 : FX (fun id => id = 6 ∨ id = 7) (fun id k => (id = 1 ∧ k = 9)) σ0 σ0 := FX_rf
  have t_1 := XI_c1 m0 (id := 1) (k := 1) (lim_C0_1 (Or.inl rfl))
  have t_2 := XI_c1 m0 (id := 1) (k := 9) (lim_C0_9 (Or.inl rfl))
  refine s_X11_pause_0 C hN  ?_
  refine ⟨?_, ?_⟩
  · intro q_3
    have w_4 := Int32.toInt_lt a1
    have w_5 := Int32.le_toInt a1
    have b_6 : a1.toInt < 1 := Int32.lt_iff_toInt_lt.mp q_3
    have z_7 : (-2 : Int32).toInt = -2 := rfl
    exact h9ret (-2 : Int32) σ0 m0 f0 nn_1 (by first | omega | assumption | rfl) (by unfold PAA; omega)
  · intro q_3
    have w_8 := Int32.toInt_lt a1
    have w_9 := Int32.le_toInt a1
    have b_10 : ¬ a1.toInt < 1 := fun h9 => q_3 (Int32.lt_iff_toInt_lt.mpr h9)
    refine ⟨?_, ?_⟩
    · intro q_11
      have b_12 : a1.toInt ≤ 60 := Int32.le_iff_toInt_le.mp q_11
      refine ⟨?_, ?_⟩
      · intro q_13
        try have t_14 : ((gi σ0 1 9) + a1).toInt = (gi σ0 1 9).toInt + a1.toInt := i_add (x := (gi σ0 1 9)) (y := a1) (by show (_ : Int) ≤ (gi σ0 1 9).toInt + a1.toInt; omega) (by show (gi σ0 1 9).toInt + a1.toInt ≤ (_ : Int); omega)
        have b_15 : ((gi σ0 1 9) + a1).toInt ≤ 9999 := Int32.le_iff_toInt_le.mp q_13
        refine k_X1_rests (Or.inl rfl) m0 nn_1 (by omega) (by omega) (by first | omega | assumption | rfl) (fun σ4 mσ4 cσ4 nσ4_1 (pσ4_0 : (gi σ4 1 9).toInt = (gi σ0 1 9).toInt + a1.toInt) => ?_)
        have fσ4 : FX (fun id => id = 6 ∨ id = 7) (fun id k => (id = 1 ∧ k = 9)) σ0 σ4 := FX_tr f0 cσ4 (fun x (h9 : x = 6 ∨ x = 7) => h9.elim (fun e9 => (show x = 6 ∨ x = 7 from Or.inl (e9))) (fun h9 => (show x = 6 ∨ x = 7 from Or.inr (h9)))) (fun x k (h9 : (x = 1 ∧ k = 9)) => (show (x = 6 ∨ x = 7) ∨ ((x = 1 ∧ k = 9)) from Or.inr (show (x = 1 ∧ k = 9) from h9)))
        have k_16 : (gi σ4 1 1).toInt = (gi σ0 1 1).toInt := congrArg Int32.toInt (FX_i cσ4 (show ¬ (1 = 6 ∨ 1 = 7) from by omega) (show ¬ ((1 = 1 ∧ 1 = 9)) from by omega))
        have t_17 := XI_c1 mσ4 (id := 1) (k := 9) (lim_C0_9 (Or.inl rfl))
        exact h9ret (gi σ4 1 9) σ4 mσ4 fσ4 nσ4_1 (by first | omega | assumption | rfl) (by unfold PAA; omega)
      · intro q_13
        try have t_18 : ((gi σ0 1 9) + a1).toInt = (gi σ0 1 9).toInt + a1.toInt := i_add (x := (gi σ0 1 9)) (y := a1) (by show (_ : Int) ≤ (gi σ0 1 9).toInt + a1.toInt; omega) (by show (gi σ0 1 9).toInt + a1.toInt ≤ (_ : Int); omega)
        have b_19 : ¬ ((gi σ0 1 9) + a1).toInt ≤ 9999 := fun h9 => q_13 (Int32.le_iff_toInt_le.mpr h9)
        have z_20 : (-3 : Int32).toInt = -3 := rfl
        exact h9ret (-3 : Int32) σ0 m0 f0 nn_1 (by first | omega | assumption | rfl) (by unfold PAA; omega)
    · intro q_11
      have b_21 : ¬ a1.toInt ≤ 60 := fun h9 => q_11 (Int32.le_iff_toInt_le.mpr h9)
      have z_22 : (-2 : Int32).toInt = -2 := rfl
      exact h9ret (-2 : Int32) σ0 m0 f0 nn_1 (by first | omega | assumption | rfl) (by unfold PAA; omega)
set_option maxRecDepth 100000 in
set_option maxHeartbeats 4000000 in
theorem kt_X11_see {l : Launch} {V : Vx} {a1 : Int32} {a2 : Int32} {a3 : Int32} {σ0 : Sg} {Qk : Int32 → Sg → Prop} (m0 : XI V σ0) (pre0 : (gi σ0 9 1).toInt % 3 = 0) (h9ret : ∀ (r : Int32) (σ' : Sg), XI V σ' → FX (fun id => id = 10) (fun id k => (id = 9 ∧ k = 1)) σ0 σ' → ((gi σ' 9 1).toInt % 3 = 0) → (SEA r a1 a2 a3 (gi σ0 1 1).toInt ((gi σ0 9 1).toInt / 3) ((gi σ' 9 1).toInt / 3)) → Qk r σ') : K_X11_see l V a1 a2 a3 σ0 Qk := by
  refine e_X11_see (fun M hl hV hN C => ?_)
  subst hl
  subst hV
  have c9 : capI 9 = 18 := rfl
  have n9 : (nl 9 : Int) = 18 := by decide +kernel
  have f0 : FX (fun id => id = 10) (fun id k => (id = 9 ∧ k = 1)) σ0 σ0 := FX_rf
  have t_1 := XI_c1 m0 (id := 1) (k := 1) (lim_C0_1 (Or.inl rfl))
  have t_2 := XI_c1 m0 (id := 9) (k := 1) (lim_C8_1 (Or.inl rfl))
  refine s_X11_see_0 C hN  ?_
  refine ⟨?_, ?_⟩
  · intro q_3
    have w_4 := Int32.toInt_lt a1
    have w_5 := Int32.le_toInt a1
    have b_6 : ¬ a1.toInt = (-1) := fun h9 => q_3 (Int32.toInt_inj.mp h9)
    refine k_X11_isMower  m0   (fun r3 σ2 mσ2 cσ2 plσ2 phσ2 (pσ2_0 : (r3.toInt = 1 ∧ 0 ≤ a1.toInt ∧ a1.toInt < (gi σ0 1 1).toInt) ∨ (r3.toInt = 0 ∧ (a1.toInt < 0 ∨ (gi σ0 1 1).toInt ≤ a1.toInt))) => ?_)
    obtain rfl := FX_nil cσ2
    refine ⟨?_, ?_⟩
    · intro q_7
      have b_8 : ¬ r3.toInt = 0 := fun h9 => q_7 (Int32.toInt_inj.mp h9)
      refine ⟨?_, ?_⟩
      · intro q_9
        have w_10 := Int32.toInt_lt a2
        have w_11 := Int32.le_toInt a2
        have b_12 : a2.toInt < 0 := Int32.lt_iff_toInt_lt.mp q_9
        have z_13 : (-2 : Int32).toInt = -2 := rfl
        exact h9ret (-2 : Int32) σ0 m0 f0 (by first | omega | assumption | rfl) (by unfold SEA; omega)
      · intro q_9
        have w_14 := Int32.toInt_lt a2
        have w_15 := Int32.le_toInt a2
        have b_16 : ¬ a2.toInt < 0 := fun h9 => q_9 (Int32.lt_iff_toInt_lt.mpr h9)
        refine ⟨?_, ?_⟩
        · intro q_17
          have b_18 : (30 : Int) < a2.toInt := Int32.lt_iff_toInt_lt.mp q_17
          have z_19 : (-2 : Int32).toInt = -2 := rfl
          exact h9ret (-2 : Int32) σ0 m0 f0 (by first | omega | assumption | rfl) (by unfold SEA; omega)
        · intro q_17
          have b_20 : ¬ (30 : Int) < a2.toInt := fun h9 => q_17 (Int32.lt_iff_toInt_lt.mpr h9)
          refine ⟨?_, ?_⟩
          · intro q_21
            have w_22 := Int32.toInt_lt a3
            have w_23 := Int32.le_toInt a3
            have b_24 : a3.toInt < 0 := Int32.lt_iff_toInt_lt.mp q_21
            have z_25 : (-2 : Int32).toInt = -2 := rfl
            exact h9ret (-2 : Int32) σ0 m0 f0 (by first | omega | assumption | rfl) (by unfold SEA; omega)
          · intro q_21
            have w_26 := Int32.toInt_lt a3
            have w_27 := Int32.le_toInt a3
            have b_28 : ¬ a3.toInt < 0 := fun h9 => q_21 (Int32.lt_iff_toInt_lt.mpr h9)
            refine ⟨?_, ?_⟩
            · intro q_29
              have b_30 : a3.toInt ≤ 9999 := Int32.le_iff_toInt_le.mp q_29
              refine k_X5_isFull (isN_C8 (Or.inl rfl)) m0   (fun r10 σ9 mσ9 cσ9 plσ9 phσ9 (pσ9_0 : (r10.toInt = 1 ∧ (nl 9 : Int) ≤ (gi σ0 9 1).toInt) ∨ (r10.toInt = 0 ∧ (gi σ0 9 1).toInt < (nl 9 : Int))) => ?_)
              obtain rfl := FX_nil cσ9
              refine ⟨?_, ?_⟩
              · intro q_31
                have b_32 : r10.toInt = 0 := congrArg Int32.toInt q_31
                refine k_X5_comes (isN_C8 (Or.inl rfl)) m0  (by omega) (by first | exact okNum_b (by omega) (by omega) | exact okNum_9 (by omega)) (fun σ12 mσ12 cσ12 (pσ12_0 : (gi σ12 9 1).toInt = (gi σ0 9 1).toInt + 1) => ?_)
                have fσ12 : FX (fun id => id = 10) (fun id k => (id = 9 ∧ k = 1)) σ0 σ12 := FX_tr f0 cσ12 (fun x (h9 : x = 10) => (show x = 10 from h9)) (fun x k (h9 : (x = 9 ∧ k = 1)) => (show (x = 10) ∨ ((x = 9 ∧ k = 1)) from Or.inr (show (x = 9 ∧ k = 1) from h9)))
                have k_33 : (gi σ12 1 1).toInt = (gi σ0 1 1).toInt := congrArg Int32.toInt (FX_i cσ12 (show ¬ (1 = 10) from by omega) (show ¬ ((1 = 9 ∧ 1 = 1)) from by omega))
                have t_34 := XI_c1 mσ12 (id := 9) (k := 1) (lim_C8_1 (Or.inl rfl))
                refine k_X5_comes (isN_C8 (Or.inl rfl)) mσ12  (by omega) (by first | exact okNum_b (by omega) (by omega) | exact okNum_9 (by omega)) (fun σ13 mσ13 cσ13 (pσ13_0 : (gi σ13 9 1).toInt = (gi σ12 9 1).toInt + 1) => ?_)
                have fσ13 : FX (fun id => id = 10) (fun id k => (id = 9 ∧ k = 1)) σ0 σ13 := FX_tr fσ12 cσ13 (fun x (h9 : x = 10) => (show x = 10 from h9)) (fun x k (h9 : (x = 9 ∧ k = 1)) => (show (x = 10) ∨ ((x = 9 ∧ k = 1)) from Or.inr (show (x = 9 ∧ k = 1) from h9)))
                have k_35 : (gi σ13 1 1).toInt = (gi σ12 1 1).toInt := congrArg Int32.toInt (FX_i cσ13 (show ¬ (1 = 10) from by omega) (show ¬ ((1 = 9 ∧ 1 = 1)) from by omega))
                have t_36 := XI_c1 mσ13 (id := 9) (k := 1) (lim_C8_1 (Or.inl rfl))
                refine k_X5_comes (isN_C8 (Or.inl rfl)) mσ13  (by omega) (by first | exact okNum_b (by omega) (by omega) | exact okNum_9 (by omega)) (fun σ14 mσ14 cσ14 (pσ14_0 : (gi σ14 9 1).toInt = (gi σ13 9 1).toInt + 1) => ?_)
                have fσ14 : FX (fun id => id = 10) (fun id k => (id = 9 ∧ k = 1)) σ0 σ14 := FX_tr fσ13 cσ14 (fun x (h9 : x = 10) => (show x = 10 from h9)) (fun x k (h9 : (x = 9 ∧ k = 1)) => (show (x = 10) ∨ ((x = 9 ∧ k = 1)) from Or.inr (show (x = 9 ∧ k = 1) from h9)))
                have k_37 : (gi σ14 1 1).toInt = (gi σ13 1 1).toInt := congrArg Int32.toInt (FX_i cσ14 (show ¬ (1 = 10) from by omega) (show ¬ ((1 = 9 ∧ 1 = 1)) from by omega))
                have t_38 := XI_c1 mσ14 (id := 9) (k := 1) (lim_C8_1 (Or.inl rfl))
                have t_39 : ((gi σ14 9 1) / (3 : Int32)).toInt = (gi σ14 9 1).toInt / 3 := i_div (by omega) (by decide) rfl
                exact h9ret ((gi σ14 9 1) / (3 : Int32)) σ14 mσ14 fσ14 (by first | omega | assumption | rfl) (by unfold SEA; omega)
              · intro q_31
                have b_40 : ¬ r10.toInt = 0 := fun h9 => q_31 (Int32.toInt_inj.mp h9)
                have z_41 : (-4 : Int32).toInt = -4 := rfl
                exact h9ret (-4 : Int32) σ0 m0 f0 (by first | omega | assumption | rfl) (by unfold SEA; omega)
            · intro q_29
              have b_42 : ¬ a3.toInt ≤ 9999 := fun h9 => q_29 (Int32.le_iff_toInt_le.mpr h9)
              have z_43 : (-2 : Int32).toInt = -2 := rfl
              exact h9ret (-2 : Int32) σ0 m0 f0 (by first | omega | assumption | rfl) (by unfold SEA; omega)
    · intro q_7
      have b_44 : r3.toInt = 0 := congrArg Int32.toInt q_7
      have z_45 : (-1 : Int32).toInt = -1 := rfl
      exact h9ret (-1 : Int32) σ0 m0 f0 (by first | omega | assumption | rfl) (by unfold SEA; omega)
  · intro q_3
    have w_46 := Int32.toInt_lt a1
    have w_47 := Int32.le_toInt a1
    have b_48 : a1.toInt = (-1) := congrArg Int32.toInt q_3
    intro σ15 eσ15
    have z_49 : (0 : Int32).toInt = 0 := rfl
    have mσ15 : XI (mV M) σ15 := by rw [eσ15]; exact XIs_b m0 (lim_C8_1 (Or.inl rfl)) (by omega) (by omega)
    have fσ15 : FX (fun id => id = 10) (fun id k => (id = 9 ∧ k = 1)) σ0 σ15 := by rw [eσ15]; exact FX_si f0 (Or.inr (show (9 = 9 ∧ 1 = 1) from ⟨rfl, rfl⟩))
    have k_50 : (gi σ15 1 1).toInt = (gi σ0 1 1).toInt := by rw [eσ15]; exact congrArg Int32.toInt (gi_si_ne (Or.inl (by omega)))
    have k_51 : (gi σ15 9 1).toInt = 0 := by rw [eσ15]; exact congrArg Int32.toInt gi_si_eq
    exact h9ret (0 : Int32) σ15 mσ15 fσ15 (by first | omega | assumption | rfl) (by unfold SEA; omega)
set_option maxRecDepth 100000 in
set_option maxHeartbeats 4000000 in
theorem kt_X12_minute {l : Launch} {V : Vx} {σ0 : Sg} {Qk : Int32 → Sg → Prop} (m0 : MI σ0) (pre0 : (gi σ0 74 1).toInt ≤ 9999) (h9ret : ∀ (r : Int32) (σ' : Sg), MI σ' → Fr [74, 105, 106, 107, 108, 129, 131, 132] [1, 30] σ0 σ' → ((gi σ' 74 1).toInt ≤ 9999) → (MNA (gi σ0 74 1) (gi σ' 74 1)) → Qk r σ') : K_X12_minute l V σ0 Qk := by
  refine e_X12_minute (fun M hl hV hN C => ?_)
  subst hl
  subst hV
  have f0 : Fr [74, 105, 106, 107, 108, 129, 131, 132] [1, 30] σ0 σ0 := Fr_rf
  refine s_X12_minute_0 C hN ?_
  refine ⟨?_, ?_⟩
  · intro q_1
    have t_2 := MI_f1 m0
    have b_3 : ¬ (gi σ0 74 1).toInt = 9999 := fun h9 => q_1 (Int32.toInt_inj.mp h9)
    refine k_X12_goMinute m0 (by first | omega | assumption | rfl) (fun r3 σ2 mσ2 cσ2 (pσ2_0 : (gi σ2 74 1).toInt = (gi σ0 74 1).toInt + 1) => ?_)
    have fσ2 : Fr [74, 105, 106, 107, 108, 129, 131, 132] [1, 30] σ0 σ2 := Fr_tr f0 cσ2 (by decide) (by decide)
    exact h9ret r3 σ2 mσ2 fσ2 (by first | omega | assumption | rfl) (by unfold MNA; omega)
  · intro q_1
    have t_4 := MI_f1 m0
    have b_5 : (gi σ0 74 1).toInt = 9999 := congrArg Int32.toInt q_1
    have z_6 : (-3 : Int32).toInt = -3 := rfl
    exact h9ret (-3 : Int32) σ0 m0 f0 (by first | omega | assumption | rfl) (by unfold MNA; omega)
set_option maxRecDepth 100000 in
set_option maxHeartbeats 4000000 in
theorem kt_X12_whet {l : Launch} {V : Vx} {σ0 : Sg} {Qk : Int32 → Sg → Prop} (m0 : MI σ0) (pre0 : (gi σ0 74 1).toInt ≤ 9999) (h9ret : ∀ (r : Int32) (σ' : Sg), MI σ' → Fr [74, 106, 107, 108] [1] σ0 σ' → ((gi σ' 74 1).toInt ≤ 9999) → (WHA r (gi σ0 74 1) (gi σ' 74 1)) → Qk r σ') : K_X12_whet l V σ0 Qk := by
  refine e_X12_whet (fun M hl hV hN C => ?_)
  subst hl
  subst hV
  have f0 : Fr [74, 106, 107, 108] [1] σ0 σ0 := Fr_rf
  refine s_X12_whet_0 C hN ?_
  refine ⟨?_, ?_⟩
  · intro q_1
    have t_2 := MI_f1 m0
    have b_3 : ¬ (gi σ0 74 1).toInt = 9999 := fun h9 => q_1 (Int32.toInt_inj.mp h9)
    refine k_X12_goWhet m0 (by first | omega | assumption | rfl) (fun σ2 mσ2 cσ2 (pσ2_0 : (gi σ2 74 1).toInt = (gi σ0 74 1).toInt + 1) => ?_)
    have fσ2 : Fr [74, 106, 107, 108] [1] σ0 σ2 := Fr_tr f0 cσ2 (by decide) (by decide)
    have t_4 := MI_f1 mσ2
    exact h9ret (gi σ2 74 1) σ2 mσ2 fσ2 (by first | omega | assumption | rfl) (by unfold WHA; omega)
  · intro q_1
    have t_5 := MI_f1 m0
    have b_6 : (gi σ0 74 1).toInt = 9999 := congrArg Int32.toInt q_1
    have z_7 : (-3 : Int32).toInt = -3 := rfl
    exact h9ret (-3 : Int32) σ0 m0 f0 (by first | omega | assumption | rfl) (by unfold WHA; omega)
set_option maxRecDepth 100000 in
set_option maxHeartbeats 4000000 in
theorem kt_X12_pause {l : Launch} {V : Vx} {a1 : Int32} {σ0 : Sg} {Qk : Int32 → Sg → Prop} (m0 : MI σ0) (pre0 : (gi σ0 74 1).toInt ≤ 9999) (h9ret : ∀ (r : Int32) (σ' : Sg), MI σ' → Fr [74, 107, 108] [1] σ0 σ' → ((gi σ' 74 1).toInt ≤ 9999) → (PAA r a1 (gi σ0 74 1) (gi σ' 74 1)) → Qk r σ') : K_X12_pause l V a1 σ0 Qk := by
  refine e_X12_pause (fun M hl hV hN C => ?_)
  subst hl
  subst hV
  have f0 : Fr [74, 107, 108] [1] σ0 σ0 := Fr_rf
  refine s_X12_pause_0 C hN ?_
  refine k_X12_in m0  (fun r2 σ1 mσ1 cσ1 plσ1 phσ1 (pσ1_0 : (r2.toInt = 1 ∧ (1 : Int) ≤ a1.toInt ∧ a1.toInt ≤ (60 : Int)) ∨ (r2.toInt = 0 ∧ (a1.toInt < (1 : Int) ∨ (60 : Int) < a1.toInt))) => ?_)
  obtain rfl := Fr_nil cσ1
  refine ⟨?_, ?_⟩
  · intro q_1
    have b_2 : ¬ r2.toInt = 0 := fun h9 => q_1 (Int32.toInt_inj.mp h9)
    refine ⟨?_, ?_⟩
    · intro q_3
      have t_4 := MI_f1 m0
      have w_5 := Int32.toInt_lt a1
      have w_6 := Int32.le_toInt a1
      try have t_7 : ((gi σ0 74 1) + a1).toInt = (gi σ0 74 1).toInt + a1.toInt := i_add (x := (gi σ0 74 1)) (y := a1) (by show (_ : Int) ≤ (gi σ0 74 1).toInt + a1.toInt; omega) (by show (gi σ0 74 1).toInt + a1.toInt ≤ (_ : Int); omega)
      have b_8 : ((gi σ0 74 1) + a1).toInt ≤ 9999 := Int32.le_iff_toInt_le.mp q_3
      refine k_X12_goPause m0 (by omega) (by omega) (by first | omega | assumption | rfl) (fun σ5 mσ5 cσ5 (pσ5_0 : (gi σ5 74 1).toInt = (gi σ0 74 1).toInt + a1.toInt) => ?_)
      have fσ5 : Fr [74, 107, 108] [1] σ0 σ5 := Fr_tr f0 cσ5 (by decide) (by decide)
      have t_9 := MI_f1 mσ5
      exact h9ret (gi σ5 74 1) σ5 mσ5 fσ5 (by first | omega | assumption | rfl) (by unfold PAA; omega)
    · intro q_3
      have t_10 := MI_f1 m0
      have w_11 := Int32.toInt_lt a1
      have w_12 := Int32.le_toInt a1
      try have t_13 : ((gi σ0 74 1) + a1).toInt = (gi σ0 74 1).toInt + a1.toInt := i_add (x := (gi σ0 74 1)) (y := a1) (by show (_ : Int) ≤ (gi σ0 74 1).toInt + a1.toInt; omega) (by show (gi σ0 74 1).toInt + a1.toInt ≤ (_ : Int); omega)
      have b_14 : ¬ ((gi σ0 74 1) + a1).toInt ≤ 9999 := fun h9 => q_3 (Int32.le_iff_toInt_le.mpr h9)
      have z_15 : (-3 : Int32).toInt = -3 := rfl
      exact h9ret (-3 : Int32) σ0 m0 f0 (by first | omega | assumption | rfl) (by unfold PAA; omega)
  · intro q_1
    have b_16 : r2.toInt = 0 := congrArg Int32.toInt q_1
    have z_17 : (-2 : Int32).toInt = -2 := rfl
    exact h9ret (-2 : Int32) σ0 m0 f0 (by first | omega | assumption | rfl) (by unfold PAA; omega)
set_option maxRecDepth 100000 in
set_option maxHeartbeats 4000000 in
theorem kt_X12_see {l : Launch} {V : Vx} {a1 : Int32} {a2 : Int32} {a3 : Int32} {σ0 : Sg} {Qk : Int32 → Sg → Prop} (m0 : MI σ0) (h9ret : ∀ (r : Int32) (σ' : Sg), MI σ' → Fr [74, 142, 143, 144] [41] σ0 σ' → (SEA r a1 a2 a3 (gi σ0 74 0).toInt (gi σ0 74 41).toInt (gi σ' 74 41).toInt) → Qk r σ') : K_X12_see l V a1 a2 a3 σ0 Qk := by
  refine e_X12_see (fun M hl hV hN C => ?_)
  subst hl
  subst hV
  have f0 : Fr [74, 142, 143, 144] [41] σ0 σ0 := Fr_rf
  refine s_X12_see_0 C hN ?_
  refine ⟨?_, ?_⟩
  · intro q_1
    have w_2 := Int32.toInt_lt a1
    have w_3 := Int32.le_toInt a1
    have b_4 : ¬ a1.toInt = (-1) := fun h9 => q_1 (Int32.toInt_inj.mp h9)
    refine k_X12_isMower m0  (fun r3 σ2 mσ2 cσ2 plσ2 phσ2 (pσ2_0 : (r3.toInt = 1 ∧ 0 ≤ a1.toInt ∧ a1.toInt < (gi σ0 74 0).toInt) ∨ (r3.toInt = 0 ∧ (a1.toInt < 0 ∨ (gi σ0 74 0).toInt ≤ a1.toInt))) => ?_)
    obtain rfl := Fr_nil cσ2
    have t_5 := MI_f0 m0
    refine ⟨?_, ?_⟩
    · intro q_6
      have b_7 : ¬ r3.toInt = 0 := fun h9 => q_6 (Int32.toInt_inj.mp h9)
      refine k_X12_in m0  (fun r6 σ5 mσ5 cσ5 plσ5 phσ5 (pσ5_0 : (r6.toInt = 1 ∧ (0 : Int) ≤ a2.toInt ∧ a2.toInt ≤ (30 : Int)) ∨ (r6.toInt = 0 ∧ (a2.toInt < (0 : Int) ∨ (30 : Int) < a2.toInt))) => ?_)
      obtain rfl := Fr_nil cσ5
      refine ⟨?_, ?_⟩
      · intro q_8
        have b_9 : r6.toInt = 0 := congrArg Int32.toInt q_8
        have z_10 : (-2 : Int32).toInt = -2 := rfl
        exact h9ret (-2 : Int32) σ0 m0 f0 (by unfold SEA; omega)
      · intro q_8
        have b_11 : ¬ r6.toInt = 0 := fun h9 => q_8 (Int32.toInt_inj.mp h9)
        refine k_X12_in m0  (fun r9 σ8 mσ8 cσ8 plσ8 phσ8 (pσ8_0 : (r9.toInt = 1 ∧ (0 : Int) ≤ a3.toInt ∧ a3.toInt ≤ (9999 : Int)) ∨ (r9.toInt = 0 ∧ (a3.toInt < (0 : Int) ∨ (9999 : Int) < a3.toInt))) => ?_)
        obtain rfl := Fr_nil cσ8
        refine ⟨?_, ?_⟩
        · intro q_12
          have b_13 : ¬ r9.toInt = 0 := fun h9 => q_12 (Int32.toInt_inj.mp h9)
          refine ⟨?_, ?_⟩
          · intro q_14
            have t_15 := MI_f41 m0
            have b_16 : ¬ (gi σ0 74 41).toInt = 6 := fun h9 => q_14 (Int32.toInt_inj.mp h9)
            have hv_17 : vp_in (gi σ0 74 41) 6 := vp_in_iff.mpr ⟨by omega, by omega⟩
            refine ⟨hv_17, ?_⟩
            intro σ13 eσ13
            have mσ13 : MI σ13 := by rw [eσ13]; exact MIs_a142 m0 (by omega) (by omega)
            have fσ13 : Fr [74, 142, 143, 144] [41] σ0 σ13 := by rw [eσ13]; exact Fr_si f0 (by decide) (fun h9 => absurd h9 (by decide))
            have k_18 : (gi σ13 74 0).toInt = (gi σ0 74 0).toInt := by rw [eσ13]; exact congrArg Int32.toInt (gi_si_ne (Or.inl (by decide)))
            have k_19 : (gi σ13 74 41).toInt = (gi σ0 74 41).toInt := by rw [eσ13]; exact congrArg Int32.toInt (gi_si_ne (Or.inl (by decide)))
            have t_20 := MI_f41 mσ13
            have hv_21 : vp_in (gi σ13 74 41) 6 := vp_in_iff.mpr ⟨by omega, by omega⟩
            refine ⟨hv_21, ?_⟩
            intro σ15 eσ15
            have w_22 := Int32.toInt_lt a2
            have w_23 := Int32.le_toInt a2
            have mσ15 : MI σ15 := by rw [eσ15]; exact MIs_a143 mσ13 (by omega) (by omega)
            have fσ15 : Fr [74, 142, 143, 144] [41] σ0 σ15 := by rw [eσ15]; exact Fr_si fσ13 (by decide) (fun h9 => absurd h9 (by decide))
            have k_24 : (gi σ15 74 0).toInt = (gi σ13 74 0).toInt := by rw [eσ15]; exact congrArg Int32.toInt (gi_si_ne (Or.inl (by decide)))
            have k_25 : (gi σ15 74 41).toInt = (gi σ13 74 41).toInt := by rw [eσ15]; exact congrArg Int32.toInt (gi_si_ne (Or.inl (by decide)))
            have t_26 := MI_f41 mσ15
            have hv_27 : vp_in (gi σ15 74 41) 6 := vp_in_iff.mpr ⟨by omega, by omega⟩
            refine ⟨hv_27, ?_⟩
            intro σ17 eσ17
            have mσ17 : MI σ17 := by rw [eσ17]; exact MIs_au (a := 144) mσ15 rfl rfl
            have fσ17 : Fr [74, 142, 143, 144] [41] σ0 σ17 := by rw [eσ17]; exact Fr_si fσ15 (by decide) (fun h9 => absurd h9 (by decide))
            have k_28 : (gi σ17 74 0).toInt = (gi σ15 74 0).toInt := by rw [eσ17]; exact congrArg Int32.toInt (gi_si_ne (Or.inl (by decide)))
            have k_29 : (gi σ17 74 41).toInt = (gi σ15 74 41).toInt := by rw [eσ17]; exact congrArg Int32.toInt (gi_si_ne (Or.inl (by decide)))
            intro σ18 eσ18
            have t_30 := MI_f41 mσ17
            have t_31 : ((gi σ17 74 41) + (1 : Int32)).toInt = (gi σ17 74 41).toInt + 1 := i_add (x := (gi σ17 74 41)) (y := (1 : Int32)) (by show (_ : Int) ≤ (gi σ17 74 41).toInt + 1; omega) (by show (gi σ17 74 41).toInt + 1 ≤ (_ : Int); omega)
            have mσ18 : MI σ18 := by rw [eσ18]; exact MIs_f41 mσ17 (by omega) (by omega)
            have fσ18 : Fr [74, 142, 143, 144] [41] σ0 σ18 := by rw [eσ18]; exact Fr_si fσ17 (by decide) (fun _ => by decide)
            have k_32 : (gi σ18 74 0).toInt = (gi σ17 74 0).toInt := by rw [eσ18]; exact congrArg Int32.toInt (gi_si_ne (Or.inr (by decide)))
            have k_33 : (gi σ18 74 41).toInt = ((gi σ17 74 41) + (1 : Int32)).toInt := by rw [eσ18]; exact congrArg Int32.toInt gi_si_eq
            have t_34 := MI_f41 mσ18
            exact h9ret (gi σ18 74 41) σ18 mσ18 fσ18 (by unfold SEA; omega)
          · intro q_14
            have t_35 := MI_f41 m0
            have b_36 : (gi σ0 74 41).toInt = 6 := congrArg Int32.toInt q_14
            have z_37 : (-4 : Int32).toInt = -4 := rfl
            exact h9ret (-4 : Int32) σ0 m0 f0 (by unfold SEA; omega)
        · intro q_12
          have b_38 : r9.toInt = 0 := congrArg Int32.toInt q_12
          have z_39 : (-2 : Int32).toInt = -2 := rfl
          exact h9ret (-2 : Int32) σ0 m0 f0 (by unfold SEA; omega)
    · intro q_6
      have b_40 : r3.toInt = 0 := congrArg Int32.toInt q_6
      have z_41 : (-1 : Int32).toInt = -1 := rfl
      exact h9ret (-1 : Int32) σ0 m0 f0 (by unfold SEA; omega)
  · intro q_1
    have w_42 := Int32.toInt_lt a1
    have w_43 := Int32.le_toInt a1
    have b_44 : a1.toInt = (-1) := congrArg Int32.toInt q_1
    intro σ19 eσ19
    have z_45 : (0 : Int32).toInt = 0 := rfl
    have mσ19 : MI σ19 := by rw [eσ19]; exact MIs_f41 m0 (by omega) (by omega)
    have fσ19 : Fr [74, 142, 143, 144] [41] σ0 σ19 := by rw [eσ19]; exact Fr_si f0 (by decide) (fun _ => by decide)
    have k_46 : (gi σ19 74 0).toInt = (gi σ0 74 0).toInt := by rw [eσ19]; exact congrArg Int32.toInt (gi_si_ne (Or.inr (by decide)))
    have k_47 : (gi σ19 74 41).toInt = 0 := by rw [eσ19]; exact congrArg Int32.toInt gi_si_eq
    exact h9ret (0 : Int32) σ19 mσ19 fσ19 (by unfold SEA; omega)
