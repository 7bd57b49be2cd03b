set_option maxRecDepth 100000 in
set_option maxHeartbeats 4000000 in
theorem k_X11_plan {l : Launch} {V : Vx} {a1 : Int32} {σ0 : Sg} {Qk : Int32 → Sg → Prop} (m0 : XI V σ0) (h9ret : ∀ (r : Int32) (σ' : Sg), XI V σ' → FX (fun id => id = 12) (fun id k => (id = 11 ∧ k = 1)) σ0 σ' → Qk r σ') : K_X11_plan l V a1 σ0 Qk := by
  refine e_X11_plan (fun M hl hV hN C => ?_)
  subst hl
  subst hV
  have c9 : capI 11 = 10 := rfl
  have n9 : (nl 11 : Int) = 10 := by decide +kernel
  have f0 : FX (fun id => id = 12) (fun id k => (id = 11 ∧ k = 1)) σ0 σ0 := FX_rf
  have t_1 := XI_c1 m0 (id := 1) (k := 1) (lim_C0_1 (Or.inl rfl))
  have t_2 := XI_c1 m0 (id := 11) (k := 1) (lim_C10_1 (Or.inl rfl))
  refine s_X11_plan_0 C hN  ?_
  refine ⟨?_, ?_⟩
  · intro q_3
    have w_4 := Int32.toInt_lt a1
    have w_5 := Int32.le_toInt a1
    have b_6 : ¬ a1.toInt = (-1) := fun h9 => q_3 (Int32.toInt_inj.mp h9)
    refine ⟨?_, ?_⟩
    · intro q_7
      have b_8 : a1.toInt < 0 := Int32.lt_iff_toInt_lt.mp q_7
      have z_9 : (-1 : Int32).toInt = -1 := rfl
      exact h9ret (-1 : Int32) σ0 m0 f0
    · intro q_7
      have b_10 : ¬ a1.toInt < 0 := fun h9 => q_7 (Int32.lt_iff_toInt_lt.mpr h9)
      refine ⟨?_, ?_⟩
      · intro q_11
        have b_12 : a1.toInt ≤ 2 := Int32.le_iff_toInt_le.mp q_11
        refine k_X5_isFull (isN_C10 (Or.inl rfl)) m0   (fun r5 σ4 mσ4 cσ4 plσ4 phσ4 (pσ4_0 : (r5.toInt = 1 ∧ (nl 11 : Int) ≤ (gi σ0 11 1).toInt) ∨ (r5.toInt = 0 ∧ (gi σ0 11 1).toInt < (nl 11 : Int))) => ?_)
        obtain rfl := FX_nil cσ4
        refine ⟨?_, ?_⟩
        · intro q_13
          have b_14 : r5.toInt = 0 := congrArg Int32.toInt q_13
          refine k_X5_comes (isN_C10 (Or.inl rfl)) m0  (by omega) (okNum_11) (fun σ7 mσ7 cσ7 (pσ7_0 : (gi σ7 11 1).toInt = (gi σ0 11 1).toInt + 1) => ?_)
          have fσ7 : FX (fun id => id = 12) (fun id k => (id = 11 ∧ k = 1)) σ0 σ7 := FX_tr f0 cσ7 (fun x (h9 : x = 12) => (show x = 12 from h9)) (fun x k (h9 : (x = 11 ∧ k = 1)) => (show (x = 12) ∨ ((x = 11 ∧ k = 1)) from Or.inr (show (x = 11 ∧ k = 1) from h9)))
          have k_15 : (gi σ7 1 1).toInt = (gi σ0 1 1).toInt := congrArg Int32.toInt (FX_i cσ7 (show ¬ (1 = 12) from by omega) (show ¬ ((1 = 11 ∧ 1 = 1)) from by omega))
          have t_16 := XI_c1 mσ7 (id := 11) (k := 1) (lim_C10_1 (Or.inl rfl))
          exact h9ret (gi σ7 11 1) σ7 mσ7 fσ7
        · intro q_13
          have b_17 : ¬ r5.toInt = 0 := fun h9 => q_13 (Int32.toInt_inj.mp h9)
          have z_18 : (-4 : Int32).toInt = -4 := rfl
          exact h9ret (-4 : Int32) σ0 m0 f0
      · intro q_11
        have b_19 : ¬ a1.toInt ≤ 2 := fun h9 => q_11 (Int32.le_iff_toInt_le.mpr h9)
        have z_20 : (-1 : Int32).toInt = -1 := rfl
        exact h9ret (-1 : Int32) σ0 m0 f0
  · intro q_3
    have w_21 := Int32.toInt_lt a1
    have w_22 := Int32.le_toInt a1
    have b_23 : a1.toInt = (-1) := congrArg Int32.toInt q_3
    intro σ8 eσ8
    have z_24 : (0 : Int32).toInt = 0 := rfl
    have mσ8 : XI (mV M) σ8 := by rw [eσ8]; exact XIs_b m0 (lim_C10_1 (Or.inl rfl)) (by omega) (by omega)
    have fσ8 : FX (fun id => id = 12) (fun id k => (id = 11 ∧ k = 1)) σ0 σ8 := by rw [eσ8]; exact FX_si f0 (Or.inr (show (11 = 11 ∧ 1 = 1) from ⟨rfl, rfl⟩))
    have k_25 : (gi σ8 1 1).toInt = (gi σ0 1 1).toInt := by rw [eσ8]; exact congrArg Int32.toInt (gi_si_ne (Or.inl (by omega)))
    have k_26 : (gi σ8 11 1).toInt = 0 := by rw [eσ8]; exact congrArg Int32.toInt gi_si_eq
    exact h9ret (0 : Int32) σ8 mσ8 fσ8
set_option maxRecDepth 100000 in
set_option maxHeartbeats 4000000 in
theorem k_X11_book {l : Launch} {V : Vx} {a1 : Int32} {σ0 : Sg} {Qk : Int32 → Sg → Prop} (m0 : XI V σ0) (h9ret : ∀ (r : Int32) (σ' : Sg), XI V σ' → FX (fun id => id = 14) (fun id k => (id = 13 ∧ k = 1)) σ0 σ' → Qk r σ') : K_X11_book l V a1 σ0 Qk := by
  refine e_X11_book (fun M hl hV hN C => ?_)
  subst hl
  subst hV
  have c9 : capI 13 = 8 := rfl
  have n9 : (nl 13 : Int) = 8 := by decide +kernel
  have f0 : FX (fun id => id = 14) (fun id k => (id = 13 ∧ k = 1)) σ0 σ0 := FX_rf
  have t_1 := XI_c1 m0 (id := 1) (k := 1) (lim_C0_1 (Or.inl rfl))
  have t_2 := XI_c1 m0 (id := 13) (k := 1) (lim_C12_1 (Or.inl rfl))
  refine s_X11_book_0 C hN  ?_
  refine ⟨?_, ?_⟩
  · intro q_3
    have w_4 := Int32.toInt_lt a1
    have w_5 := Int32.le_toInt a1
    have b_6 : ¬ a1.toInt = (-1) := fun h9 => q_3 (Int32.toInt_inj.mp h9)
    refine k_X11_isMower  m0   (fun r3 σ2 mσ2 cσ2 plσ2 phσ2 (pσ2_0 : (r3.toInt = 1 ∧ 0 ≤ a1.toInt ∧ a1.toInt < (gi σ0 1 1).toInt) ∨ (r3.toInt = 0 ∧ (a1.toInt < 0 ∨ (gi σ0 1 1).toInt ≤ a1.toInt))) => ?_)
    obtain rfl := FX_nil cσ2
    refine ⟨?_, ?_⟩
    · intro q_7
      have b_8 : ¬ r3.toInt = 0 := fun h9 => q_7 (Int32.toInt_inj.mp h9)
      refine k_X5_isFull (isN_C12 (Or.inl rfl)) m0   (fun r6 σ5 mσ5 cσ5 plσ5 phσ5 (pσ5_0 : (r6.toInt = 1 ∧ (nl 13 : Int) ≤ (gi σ0 13 1).toInt) ∨ (r6.toInt = 0 ∧ (gi σ0 13 1).toInt < (nl 13 : Int))) => ?_)
      obtain rfl := FX_nil cσ5
      refine ⟨?_, ?_⟩
      · intro q_9
        have b_10 : r6.toInt = 0 := congrArg Int32.toInt q_9
        refine k_X5_comes (isN_C12 (Or.inl rfl)) m0  (by omega) (okNum_b (by omega) (by omega)) (fun σ8 mσ8 cσ8 (pσ8_0 : (gi σ8 13 1).toInt = (gi σ0 13 1).toInt + 1) => ?_)
        have fσ8 : FX (fun id => id = 14) (fun id k => (id = 13 ∧ k = 1)) σ0 σ8 := FX_tr f0 cσ8 (fun x (h9 : x = 14) => (show x = 14 from h9)) (fun x k (h9 : (x = 13 ∧ k = 1)) => (show (x = 14) ∨ ((x = 13 ∧ k = 1)) from Or.inr (show (x = 13 ∧ k = 1) from h9)))
        have k_11 : (gi σ8 1 1).toInt = (gi σ0 1 1).toInt := congrArg Int32.toInt (FX_i cσ8 (show ¬ (1 = 14) from by omega) (show ¬ ((1 = 13 ∧ 1 = 1)) from by omega))
        have t_12 := XI_c1 mσ8 (id := 13) (k := 1) (lim_C12_1 (Or.inl rfl))
        exact h9ret (gi σ8 13 1) σ8 mσ8 fσ8
      · intro q_9
        have b_13 : ¬ r6.toInt = 0 := fun h9 => q_9 (Int32.toInt_inj.mp h9)
        have z_14 : (-4 : Int32).toInt = -4 := rfl
        exact h9ret (-4 : Int32) σ0 m0 f0
    · intro q_7
      have b_15 : r3.toInt = 0 := congrArg Int32.toInt q_7
      have z_16 : (-1 : Int32).toInt = -1 := rfl
      exact h9ret (-1 : Int32) σ0 m0 f0
  · intro q_3
    have w_17 := Int32.toInt_lt a1
    have w_18 := Int32.le_toInt a1
    have b_19 : a1.toInt = (-1) := congrArg Int32.toInt q_3
    intro σ9 eσ9
    have z_20 : (0 : Int32).toInt = 0 := rfl
    have mσ9 : XI (mV M) σ9 := by rw [eσ9]; exact XIs_b m0 (lim_C12_1 (Or.inl rfl)) (by omega) (by omega)
    have fσ9 : FX (fun id => id = 14) (fun id k => (id = 13 ∧ k = 1)) σ0 σ9 := by rw [eσ9]; exact FX_si f0 (Or.inr (show (13 = 13 ∧ 1 = 1) from ⟨rfl, rfl⟩))
    have k_21 : (gi σ9 1 1).toInt = (gi σ0 1 1).toInt := by rw [eσ9]; exact congrArg Int32.toInt (gi_si_ne (Or.inl (by omega)))
    have k_22 : (gi σ9 13 1).toInt = 0 := by rw [eσ9]; exact congrArg Int32.toInt gi_si_eq
    exact h9ret (0 : Int32) σ9 mσ9 fσ9
set_option maxRecDepth 100000 in
set_option maxHeartbeats 4000000 in
theorem k_X11_planned {l : Launch} {V : Vx} {σ0 : Sg} {Qk : Int32 → Sg → Prop} (m0 : XI V σ0) (nn_1 : NN σ0 1) (pre0 : (gi σ0 1 9).toInt ≤ 9999) (h9ret : ∀ (r : Int32) (σ' : Sg), XI V σ' → FX (fun id => id = 34 ∨ id = 35 ∨ id = 36 ∨ id = 37 ∨ id = 38 ∨ id = 39 ∨ id = 40 ∨ id = 47 ∨ id = 48) (fun id k => (id = 33 ∧ k = 1) ∨ (id = 33 ∧ k = 3) ∨ (id = 33 ∧ k = 9) ∨ (id = 33 ∧ k = 10) ∨ (id = 33 ∧ k = 11)) σ0 σ' → (NN σ' 1) → Qk r σ') : K_X11_planned l V σ0 Qk := by
  refine e_X11_planned (fun M hl hV hN C => ?_)
  subst hl
  subst hV
  have T : ∀ n : Nat, (∀ (x1 : Int32) (σ : Sg), XI (mV M) σ → FX (fun id => id = 34 ∨ id = 35 ∨ id = 36 ∨ id = 37 ∨ id = 38 ∨ id = 39 ∨ id = 40 ∨ id = 47 ∨ id = 48) (fun id k => (id = 33 ∧ k = 1) ∨ (id = 33 ∧ k = 3) ∨ (id = 33 ∧ k = 9) ∨ (id = 33 ∧ k = 10) ∨ (id = 33 ∧ k = 11)) σ0 σ → NN σ 1 → NN σ 33 → (0 ≤ x1.toInt) → (x1.toInt ≤ 10) → ((gi σ 33 9).toInt ≤ 9999 + x1.toInt) → (11 - x1.toInt).toNat < n → PS M 13 [(0, .ref 0), (1, .int x1)] [] σ (0, 0)) := by
    intro n
    induction n with
    | zero => exact fun _ _ _ _ _ _ _ _ _ h8 => absurd h8 (Nat.not_lt_zero _)
    | succ n ih =>
      have ih13 := ih
      · intro x1 σ mσ fσ nσ_1 nσ_33 lx1 ux1 i0 hmu
        have k_1 : (gi σ 1 1).toInt = (gi σ0 1 1).toInt := congrArg Int32.toInt (FX_i fσ (show ¬ (1 = 34 ∨ 1 = 35 ∨ 1 = 36 ∨ 1 = 37 ∨ 1 = 38 ∨ 1 = 39 ∨ 1 = 40 ∨ 1 = 47 ∨ 1 = 48) from by omega) (show ¬ ((1 = 33 ∧ 1 = 1) ∨ (1 = 33 ∧ 1 = 3) ∨ (1 = 33 ∧ 1 = 9) ∨ (1 = 33 ∧ 1 = 10) ∨ (1 = 33 ∧ 1 = 11)) from by omega))
        have t_2 := XI_c1 mσ (id := 1) (k := 1) (lim_C0_1 (Or.inl rfl))
        have k_3 : (gi σ 1 9).toInt = (gi σ0 1 9).toInt := congrArg Int32.toInt (FX_i fσ (show ¬ (1 = 34 ∨ 1 = 35 ∨ 1 = 36 ∨ 1 = 37 ∨ 1 = 38 ∨ 1 = 39 ∨ 1 = 40 ∨ 1 = 47 ∨ 1 = 48) from by omega) (show ¬ ((1 = 33 ∧ 9 = 1) ∨ (1 = 33 ∧ 9 = 3) ∨ (1 = 33 ∧ 9 = 9) ∨ (1 = 33 ∧ 9 = 10) ∨ (1 = 33 ∧ 9 = 11)) from by omega))
        have t_4 := XI_c1 mσ (id := 1) (k := 9) (lim_C0_9 (Or.inl rfl))
        have k_5 : (gi σ 11 1).toInt = (gi σ0 11 1).toInt := congrArg Int32.toInt (FX_i fσ (show ¬ (11 = 34 ∨ 11 = 35 ∨ 11 = 36 ∨ 11 = 37 ∨ 11 = 38 ∨ 11 = 39 ∨ 11 = 40 ∨ 11 = 47 ∨ 11 = 48) from by omega) (show ¬ ((11 = 33 ∧ 1 = 1) ∨ (11 = 33 ∧ 1 = 3) ∨ (11 = 33 ∧ 1 = 9) ∨ (11 = 33 ∧ 1 = 10) ∨ (11 = 33 ∧ 1 = 11)) from by omega))
        have t_6 := XI_c1 mσ (id := 11) (k := 1) (lim_C10_1 (Or.inl rfl))
        have t_7 := XI_c1 mσ (id := 33) (k := 9) (lim_C0_9 (Or.inr (Or.inr rfl)))
        refine s_X11_planned_13 C hN  ?_
        refine ⟨?_, ?_⟩
        · intro q_8
          have b_9 : (gi σ 11 1).toInt ≤ x1.toInt := Int32.le_iff_toInt_le.mp q_8
          refine k_X1_allAt (Or.inr (Or.inr rfl)) mσ   (fun r3 σ2 mσ2 cσ2 => ?_)
          obtain rfl := FX_nil cσ2
          exact h9ret r3 σ mσ fσ nσ_1
        · intro q_8
          have b_10 : ¬ (gi σ 11 1).toInt ≤ x1.toInt := fun h9 => q_8 (Int32.le_iff_toInt_le.mpr h9)
          have hv_11 : vp_in x1 10 := vp_in_iff.mpr ⟨by omega, by omega⟩
          refine ⟨hv_11, ?_⟩
          intro v5 ev5
          refine ⟨?_, ?_⟩
          · intro q_12
            have w_13 := Int32.toInt_lt v5
            have w_14 := Int32.le_toInt v5
            have b_15 : ¬ v5.toInt = 0 := fun h9 => q_12 (Int32.toInt_inj.mp h9)
            refine ⟨?_, ?_⟩
            · intro q_16
              have b_17 : ¬ v5.toInt = 1 := fun h9 => q_16 (Int32.toInt_inj.mp h9)
              have z_18 : (1 : Int32).toInt = 1 := rfl
              refine k_X1_rests (Or.inr (Or.inr rfl)) mσ nσ_33 (by omega) (by omega) (by first | omega | assumption | rfl) (fun σ8 mσ8 cσ8 nσ8_33 (pσ8_0 : (gi σ8 33 9).toInt = (gi σ 33 9).toInt + (1 : Int)) => ?_)
              have fσ8 : FX (fun id => id = 34 ∨ id = 35 ∨ id = 36 ∨ id = 37 ∨ id = 38 ∨ id = 39 ∨ id = 40 ∨ id = 47 ∨ id = 48) (fun id k => (id = 33 ∧ k = 1) ∨ (id = 33 ∧ k = 3) ∨ (id = 33 ∧ k = 9) ∨ (id = 33 ∧ k = 10) ∨ (id = 33 ∧ k = 11)) σ0 σ8 := FX_tr fσ cσ8 (fun x (h9 : x = 38 ∨ x = 39) => h9.elim (fun e9 => (show x = 34 ∨ x = 35 ∨ x = 36 ∨ x = 37 ∨ x = 38 ∨ x = 39 ∨ x = 40 ∨ x = 47 ∨ x = 48 from Or.inr (Or.inr (Or.inr (Or.inr (Or.inl (e9))))))) (fun h9 => (show x = 34 ∨ x = 35 ∨ x = 36 ∨ x = 37 ∨ x = 38 ∨ x = 39 ∨ x = 40 ∨ x = 47 ∨ x = 48 from Or.inr (Or.inr (Or.inr (Or.inr (Or.inr (Or.inl (h9))))))))) (fun x k (h9 : (x = 33 ∧ k = 9)) => (show (x = 34 ∨ x = 35 ∨ x = 36 ∨ x = 37 ∨ x = 38 ∨ x = 39 ∨ x = 40 ∨ x = 47 ∨ x = 48) ∨ ((x = 33 ∧ k = 1) ∨ (x = 33 ∧ k = 3) ∨ (x = 33 ∧ k = 9) ∨ (x = 33 ∧ k = 10) ∨ (x = 33 ∧ k = 11)) from Or.inr (show (x = 33 ∧ k = 1) ∨ (x = 33 ∧ k = 3) ∨ (x = 33 ∧ k = 9) ∨ (x = 33 ∧ k = 10) ∨ (x = 33 ∧ k = 11) from Or.inr (Or.inr (Or.inl (h9))))))
              have k_19 : (gi σ8 1 1).toInt = (gi σ 1 1).toInt := congrArg Int32.toInt (FX_i cσ8 (show ¬ (1 = 38 ∨ 1 = 39) from by omega) (show ¬ ((1 = 33 ∧ 1 = 9)) from by omega))
              have k_20 : (gi σ8 1 9).toInt = (gi σ 1 9).toInt := congrArg Int32.toInt (FX_i cσ8 (show ¬ (1 = 38 ∨ 1 = 39) from by omega) (show ¬ ((1 = 33 ∧ 9 = 9)) from by omega))
              have k_21 : (gi σ8 11 1).toInt = (gi σ 11 1).toInt := congrArg Int32.toInt (FX_i cσ8 (show ¬ (11 = 38 ∨ 11 = 39) from by omega) (show ¬ ((11 = 33 ∧ 1 = 9)) from by omega))
              have t_22 := XI_c1 mσ8 (id := 33) (k := 9) (lim_C0_9 (Or.inr (Or.inr rfl)))
              have nσ8_1 : NN σ8 1 := NN_fx nσ_1 cσ8 (show ¬ (1 = 38 ∨ 1 = 39) from by omega) (show ¬ (2 = 38 ∨ 2 = 39) from by omega) (show ¬ (3 = 38 ∨ 3 = 39) from by omega) (show ¬ ((1 = 33 ∧ 1 = 9)) from by omega) (show ¬ ((1 = 33 ∧ 3 = 9)) from by omega) (fun k (h9 : (2 = 33 ∧ k = 9)) => by omega) (fun k (h9 : (3 = 33 ∧ k = 9)) => by omega)
              intro v9 ev9
              have t_23 : (x1 + (1 : Int32)).toInt = x1.toInt + 1 := i_add (x := x1) (y := (1 : Int32)) (by show (_ : Int) ≤ x1.toInt + 1; omega) (by show x1.toInt + 1 ≤ (_ : Int); omega)
              have t_24 : v9.toInt = (x1 + (1 : Int32)).toInt := congrArg Int32.toInt ev9
              exact ih13 v9 σ8 mσ8 fσ8 nσ8_1 nσ8_33 (by omega) (by omega) (by first | omega | assumption | rfl) (by omega)
            · intro q_16
              have b_25 : v5.toInt = 1 := congrArg Int32.toInt q_16
              refine k_X1_whetsAll (Or.inr (Or.inr rfl)) mσ nσ_33 (by first | omega | assumption | rfl) (fun σ10 mσ10 cσ10 nσ10_33 (pσ10_0 : (gi σ10 33 9).toInt = (gi σ 33 9).toInt + 1) => ?_)
              have fσ10 : FX (fun id => id = 34 ∨ id = 35 ∨ id = 36 ∨ id = 37 ∨ id = 38 ∨ id = 39 ∨ id = 40 ∨ id = 47 ∨ id = 48) (fun id k => (id = 33 ∧ k = 1) ∨ (id = 33 ∧ k = 3) ∨ (id = 33 ∧ k = 9) ∨ (id = 33 ∧ k = 10) ∨ (id = 33 ∧ k = 11)) σ0 σ10 := FX_tr fσ cσ10 (fun x (h9 : x = 37 ∨ x = 38 ∨ x = 39) => h9.elim (fun e9 => (show x = 34 ∨ x = 35 ∨ x = 36 ∨ x = 37 ∨ x = 38 ∨ x = 39 ∨ x = 40 ∨ x = 47 ∨ x = 48 from Or.inr (Or.inr (Or.inr (Or.inl (e9)))))) (fun h9 => h9.elim (fun e9 => (show x = 34 ∨ x = 35 ∨ x = 36 ∨ x = 37 ∨ x = 38 ∨ x = 39 ∨ x = 40 ∨ x = 47 ∨ x = 48 from Or.inr (Or.inr (Or.inr (Or.inr (Or.inl (e9))))))) (fun h9 => (show x = 34 ∨ x = 35 ∨ x = 36 ∨ x = 37 ∨ x = 38 ∨ x = 39 ∨ x = 40 ∨ x = 47 ∨ x = 48 from Or.inr (Or.inr (Or.inr (Or.inr (Or.inr (Or.inl (h9)))))))))) (fun x k (h9 : (x = 33 ∧ k = 9)) => (show (x = 34 ∨ x = 35 ∨ x = 36 ∨ x = 37 ∨ x = 38 ∨ x = 39 ∨ x = 40 ∨ x = 47 ∨ x = 48) ∨ ((x = 33 ∧ k = 1) ∨ (x = 33 ∧ k = 3) ∨ (x = 33 ∧ k = 9) ∨ (x = 33 ∧ k = 10) ∨ (x = 33 ∧ k = 11)) from Or.inr (show (x = 33 ∧ k = 1) ∨ (x = 33 ∧ k = 3) ∨ (x = 33 ∧ k = 9) ∨ (x = 33 ∧ k = 10) ∨ (x = 33 ∧ k = 11) from Or.inr (Or.inr (Or.inl (h9))))))
              have k_26 : (gi σ10 1 1).toInt = (gi σ 1 1).toInt := congrArg Int32.toInt (FX_i cσ10 (show ¬ (1 = 37 ∨ 1 = 38 ∨ 1 = 39) from by omega) (show ¬ ((1 = 33 ∧ 1 = 9)) from by omega))
              have k_27 : (gi σ10 1 9).toInt = (gi σ 1 9).toInt := congrArg Int32.toInt (FX_i cσ10 (show ¬ (1 = 37 ∨ 1 = 38 ∨ 1 = 39) from by omega) (show ¬ ((1 = 33 ∧ 9 = 9)) from by omega))
              have k_28 : (gi σ10 11 1).toInt = (gi σ 11 1).toInt := congrArg Int32.toInt (FX_i cσ10 (show ¬ (11 = 37 ∨ 11 = 38 ∨ 11 = 39) from by omega) (show ¬ ((11 = 33 ∧ 1 = 9)) from by omega))
              have t_29 := XI_c1 mσ10 (id := 33) (k := 9) (lim_C0_9 (Or.inr (Or.inr rfl)))
              have nσ10_1 : NN σ10 1 := NN_fx nσ_1 cσ10 (show ¬ (1 = 37 ∨ 1 = 38 ∨ 1 = 39) from by omega) (show ¬ (2 = 37 ∨ 2 = 38 ∨ 2 = 39) from by omega) (show ¬ (3 = 37 ∨ 3 = 38 ∨ 3 = 39) from by omega) (show ¬ ((1 = 33 ∧ 1 = 9)) from by omega) (show ¬ ((1 = 33 ∧ 3 = 9)) from by omega) (fun k (h9 : (2 = 33 ∧ k = 9)) => by omega) (fun k (h9 : (3 = 33 ∧ k = 9)) => by omega)
              intro v11 ev11
              have t_30 : (x1 + (1 : Int32)).toInt = x1.toInt + 1 := i_add (x := x1) (y := (1 : Int32)) (by show (_ : Int) ≤ x1.toInt + 1; omega) (by show x1.toInt + 1 ≤ (_ : Int); omega)
              have t_31 : v11.toInt = (x1 + (1 : Int32)).toInt := congrArg Int32.toInt ev11
              exact ih13 v11 σ10 mσ10 fσ10 nσ10_1 nσ10_33 (by omega) (by omega) (by first | omega | assumption | rfl) (by omega)
          · intro q_12
            have w_32 := Int32.toInt_lt v5
            have w_33 := Int32.le_toInt v5
            have b_34 : v5.toInt = 0 := congrArg Int32.toInt q_12
            refine k_X1_goesMinute (Or.inr (Or.inr rfl)) mσ nσ_33 (by first | omega | assumption | rfl) (fun r13 σ12 mσ12 cσ12 nσ12_33 (pσ12_0 : (gi σ12 33 9).toInt = (gi σ 33 9).toInt + 1) => ?_)
            have fσ12 : FX (fun id => id = 34 ∨ id = 35 ∨ id = 36 ∨ id = 37 ∨ id = 38 ∨ id = 39 ∨ id = 40 ∨ id = 47 ∨ id = 48) (fun id k => (id = 33 ∧ k = 1) ∨ (id = 33 ∧ k = 3) ∨ (id = 33 ∧ k = 9) ∨ (id = 33 ∧ k = 10) ∨ (id = 33 ∧ k = 11)) σ0 σ12 := FX_tr fσ cσ12 (fun x (h9 : x = 47 ∨ x = 48 ∨ x = 36 ∨ x = 37 ∨ x = 38 ∨ x = 39) => h9.elim (fun e9 => (show x = 34 ∨ x = 35 ∨ x = 36 ∨ x = 37 ∨ x = 38 ∨ x = 39 ∨ x = 40 ∨ x = 47 ∨ x = 48 from Or.inr (Or.inr (Or.inr (Or.inr (Or.inr (Or.inr (Or.inr (Or.inl (e9)))))))))) (fun h9 => h9.elim (fun e9 => (show x = 34 ∨ x = 35 ∨ x = 36 ∨ x = 37 ∨ x = 38 ∨ x = 39 ∨ x = 40 ∨ x = 47 ∨ x = 48 from Or.inr (Or.inr (Or.inr (Or.inr (Or.inr (Or.inr (Or.inr (Or.inr (e9)))))))))) (fun h9 => h9.elim (fun e9 => (show x = 34 ∨ x = 35 ∨ x = 36 ∨ x = 37 ∨ x = 38 ∨ x = 39 ∨ x = 40 ∨ x = 47 ∨ x = 48 from Or.inr (Or.inr (Or.inl (e9))))) (fun h9 => h9.elim (fun e9 => (show x = 34 ∨ x = 35 ∨ x = 36 ∨ x = 37 ∨ x = 38 ∨ x = 39 ∨ x = 40 ∨ x = 47 ∨ x = 48 from Or.inr (Or.inr (Or.inr (Or.inl (e9)))))) (fun h9 => h9.elim (fun e9 => (show x = 34 ∨ x = 35 ∨ x = 36 ∨ x = 37 ∨ x = 38 ∨ x = 39 ∨ x = 40 ∨ x = 47 ∨ x = 48 from Or.inr (Or.inr (Or.inr (Or.inr (Or.inl (e9))))))) (fun h9 => (show x = 34 ∨ x = 35 ∨ x = 36 ∨ x = 37 ∨ x = 38 ∨ x = 39 ∨ x = 40 ∨ x = 47 ∨ x = 48 from Or.inr (Or.inr (Or.inr (Or.inr (Or.inr (Or.inl (h9))))))))))))) (fun x k (h9 : (x = 33 ∧ k = 9)) => (show (x = 34 ∨ x = 35 ∨ x = 36 ∨ x = 37 ∨ x = 38 ∨ x = 39 ∨ x = 40 ∨ x = 47 ∨ x = 48) ∨ ((x = 33 ∧ k = 1) ∨ (x = 33 ∧ k = 3) ∨ (x = 33 ∧ k = 9) ∨ (x = 33 ∧ k = 10) ∨ (x = 33 ∧ k = 11)) from Or.inr (show (x = 33 ∧ k = 1) ∨ (x = 33 ∧ k = 3) ∨ (x = 33 ∧ k = 9) ∨ (x = 33 ∧ k = 10) ∨ (x = 33 ∧ k = 11) from Or.inr (Or.inr (Or.inl (h9))))))
            have k_35 : (gi σ12 1 1).toInt = (gi σ 1 1).toInt := congrArg Int32.toInt (FX_i cσ12 (show ¬ (1 = 47 ∨ 1 = 48 ∨ 1 = 36 ∨ 1 = 37 ∨ 1 = 38 ∨ 1 = 39) from by omega) (show ¬ ((1 = 33 ∧ 1 = 9)) from by omega))
            have k_36 : (gi σ12 1 9).toInt = (gi σ 1 9).toInt := congrArg Int32.toInt (FX_i cσ12 (show ¬ (1 = 47 ∨ 1 = 48 ∨ 1 = 36 ∨ 1 = 37 ∨ 1 = 38 ∨ 1 = 39) from by omega) (show ¬ ((1 = 33 ∧ 9 = 9)) from by omega))
            have k_37 : (gi σ12 11 1).toInt = (gi σ 11 1).toInt := congrArg Int32.toInt (FX_i cσ12 (show ¬ (11 = 47 ∨ 11 = 48 ∨ 11 = 36 ∨ 11 = 37 ∨ 11 = 38 ∨ 11 = 39) from by omega) (show ¬ ((11 = 33 ∧ 1 = 9)) from by omega))
            have t_38 := XI_c1 mσ12 (id := 33) (k := 9) (lim_C0_9 (Or.inr (Or.inr rfl)))
            have nσ12_1 : NN σ12 1 := NN_fx nσ_1 cσ12 (show ¬ (1 = 47 ∨ 1 = 48 ∨ 1 = 36 ∨ 1 = 37 ∨ 1 = 38 ∨ 1 = 39) from by omega) (show ¬ (2 = 47 ∨ 2 = 48 ∨ 2 = 36 ∨ 2 = 37 ∨ 2 = 38 ∨ 2 = 39) from by omega) (show ¬ (3 = 47 ∨ 3 = 48 ∨ 3 = 36 ∨ 3 = 37 ∨ 3 = 38 ∨ 3 = 39) from by omega) (show ¬ ((1 = 33 ∧ 1 = 9)) from by omega) (show ¬ ((1 = 33 ∧ 3 = 9)) from by omega) (fun k (h9 : (2 = 33 ∧ k = 9)) => by omega) (fun k (h9 : (3 = 33 ∧ k = 9)) => by omega)
            intro v14 ev14
            have t_39 : (x1 + (1 : Int32)).toInt = x1.toInt + 1 := i_add (x := x1) (y := (1 : Int32)) (by show (_ : Int) ≤ x1.toInt + 1; omega) (by show x1.toInt + 1 ≤ (_ : Int); omega)
            have t_40 : v14.toInt = (x1 + (1 : Int32)).toInt := congrArg Int32.toInt ev14
            exact ih13 v14 σ12 mσ12 fσ12 nσ12_1 nσ12_33 (by omega) (by omega) (by first | omega | assumption | rfl) (by omega)
  have U13 := T 90
  have f0 : FX (fun id => id = 34 ∨ id = 35 ∨ id = 36 ∨ id = 37 ∨ id = 38 ∨ id = 39 ∨ id = 40 ∨ id = 47 ∨ id = 48) (fun id k => (id = 33 ∧ k = 1) ∨ (id = 33 ∧ k = 3) ∨ (id = 33 ∧ k = 9) ∨ (id = 33 ∧ k = 10) ∨ (id = 33 ∧ k = 11)) σ0 σ0 := FX_rf
  have t_41 := XI_c1 m0 (id := 1) (k := 1) (lim_C0_1 (Or.inl rfl))
  have t_42 := XI_c1 m0 (id := 1) (k := 9) (lim_C0_9 (Or.inl rfl))
  have t_43 := XI_c1 m0 (id := 11) (k := 1) (lim_C10_1 (Or.inl rfl))
  have t_44 := XI_c1 m0 (id := 33) (k := 9) (lim_C0_9 (Or.inr (Or.inr rfl)))
  refine s_X11_planned_0 C hN  ?_
  have z_45 : (1 : Int32).toInt = 1 := rfl
  refine k_X1_becomes (Or.inr (Or.inr rfl)) (Or.inl rfl) m0 nn_1 (by first | omega | assumption | rfl) (fun σ1 mσ1 cσ1 nσ1_1 nσ1_33 (pσ1_0 : (gi σ1 33 1).toInt = (gi σ0 1 1).toInt) (pσ1_1 : (gi σ1 33 3).toInt = (gi σ0 1 3).toInt) (pσ1_2 : (gi σ1 33 9).toInt = (gi σ0 1 9).toInt) (pσ1_3 : CPY σ0 σ1 33 1) => ?_)
  have fσ1 : FX (fun id => id = 34 ∨ id = 35 ∨ id = 36 ∨ id = 37 ∨ id = 38 ∨ id = 39 ∨ id = 40 ∨ id = 47 ∨ id = 48) (fun id k => (id = 33 ∧ k = 1) ∨ (id = 33 ∧ k = 3) ∨ (id = 33 ∧ k = 9) ∨ (id = 33 ∧ k = 10) ∨ (id = 33 ∧ k = 11)) σ0 σ1 := FX_tr f0 cσ1 (fun x (h9 : x = 34 ∨ x = 35 ∨ x = 36 ∨ x = 37 ∨ x = 38 ∨ x = 39 ∨ x = 40) => h9.elim (fun e9 => (show x = 34 ∨ x = 35 ∨ x = 36 ∨ x = 37 ∨ x = 38 ∨ x = 39 ∨ x = 40 ∨ x = 47 ∨ x = 48 from Or.inl (e9))) (fun h9 => h9.elim (fun e9 => (show x = 34 ∨ x = 35 ∨ x = 36 ∨ x = 37 ∨ x = 38 ∨ x = 39 ∨ x = 40 ∨ x = 47 ∨ x = 48 from Or.inr (Or.inl (e9)))) (fun h9 => h9.elim (fun e9 => (show x = 34 ∨ x = 35 ∨ x = 36 ∨ x = 37 ∨ x = 38 ∨ x = 39 ∨ x = 40 ∨ x = 47 ∨ x = 48 from Or.inr (Or.inr (Or.inl (e9))))) (fun h9 => h9.elim (fun e9 => (show x = 34 ∨ x = 35 ∨ x = 36 ∨ x = 37 ∨ x = 38 ∨ x = 39 ∨ x = 40 ∨ x = 47 ∨ x = 48 from Or.inr (Or.inr (Or.inr (Or.inl (e9)))))) (fun h9 => h9.elim (fun e9 => (show x = 34 ∨ x = 35 ∨ x = 36 ∨ x = 37 ∨ x = 38 ∨ x = 39 ∨ x = 40 ∨ x = 47 ∨ x = 48 from Or.inr (Or.inr (Or.inr (Or.inr (Or.inl (e9))))))) (fun h9 => h9.elim (fun e9 => (show x = 34 ∨ x = 35 ∨ x = 36 ∨ x = 37 ∨ x = 38 ∨ x = 39 ∨ x = 40 ∨ x = 47 ∨ x = 48 from Or.inr (Or.inr (Or.inr (Or.inr (Or.inr (Or.inl (e9)))))))) (fun h9 => (show x = 34 ∨ x = 35 ∨ x = 36 ∨ x = 37 ∨ x = 38 ∨ x = 39 ∨ x = 40 ∨ x = 47 ∨ x = 48 from Or.inr (Or.inr (Or.inr (Or.inr (Or.inr (Or.inr (Or.inl (h9))))))))))))))) (fun x k (h9 : (x = 33 ∧ k = 1) ∨ (x = 33 ∧ k = 3) ∨ (x = 33 ∧ k = 9) ∨ (x = 33 ∧ k = 10) ∨ (x = 33 ∧ k = 11)) => (show (x = 34 ∨ x = 35 ∨ x = 36 ∨ x = 37 ∨ x = 38 ∨ x = 39 ∨ x = 40 ∨ x = 47 ∨ x = 48) ∨ ((x = 33 ∧ k = 1) ∨ (x = 33 ∧ k = 3) ∨ (x = 33 ∧ k = 9) ∨ (x = 33 ∧ k = 10) ∨ (x = 33 ∧ k = 11)) from h9.elim (fun e9 => Or.inr (show (x = 33 ∧ k = 1) ∨ (x = 33 ∧ k = 3) ∨ (x = 33 ∧ k = 9) ∨ (x = 33 ∧ k = 10) ∨ (x = 33 ∧ k = 11) from Or.inl (e9))) (fun h9 => h9.elim (fun e9 => Or.inr (show (x = 33 ∧ k = 1) ∨ (x = 33 ∧ k = 3) ∨ (x = 33 ∧ k = 9) ∨ (x = 33 ∧ k = 10) ∨ (x = 33 ∧ k = 11) from Or.inr (Or.inl (e9)))) (fun h9 => h9.elim (fun e9 => Or.inr (show (x = 33 ∧ k = 1) ∨ (x = 33 ∧ k = 3) ∨ (x = 33 ∧ k = 9) ∨ (x = 33 ∧ k = 10) ∨ (x = 33 ∧ k = 11) from Or.inr (Or.inr (Or.inl (e9))))) (fun h9 => h9.elim (fun e9 => Or.inr (show (x = 33 ∧ k = 1) ∨ (x = 33 ∧ k = 3) ∨ (x = 33 ∧ k = 9) ∨ (x = 33 ∧ k = 10) ∨ (x = 33 ∧ k = 11) from Or.inr (Or.inr (Or.inr (Or.inl (e9)))))) (fun h9 => Or.inr (show (x = 33 ∧ k = 1) ∨ (x = 33 ∧ k = 3) ∨ (x = 33 ∧ k = 9) ∨ (x = 33 ∧ k = 10) ∨ (x = 33 ∧ k = 11) from Or.inr (Or.inr (Or.inr (Or.inr (h9)))))))))))
  have k_46 : (gi σ1 1 1).toInt = (gi σ0 1 1).toInt := congrArg Int32.toInt (FX_i cσ1 (show ¬ (1 = 34 ∨ 1 = 35 ∨ 1 = 36 ∨ 1 = 37 ∨ 1 = 38 ∨ 1 = 39 ∨ 1 = 40) from by omega) (show ¬ ((1 = 33 ∧ 1 = 1) ∨ (1 = 33 ∧ 1 = 3) ∨ (1 = 33 ∧ 1 = 9) ∨ (1 = 33 ∧ 1 = 10) ∨ (1 = 33 ∧ 1 = 11)) from by omega))
  have k_47 : (gi σ1 1 9).toInt = (gi σ0 1 9).toInt := congrArg Int32.toInt (FX_i cσ1 (show ¬ (1 = 34 ∨ 1 = 35 ∨ 1 = 36 ∨ 1 = 37 ∨ 1 = 38 ∨ 1 = 39 ∨ 1 = 40) from by omega) (show ¬ ((1 = 33 ∧ 9 = 1) ∨ (1 = 33 ∧ 9 = 3) ∨ (1 = 33 ∧ 9 = 9) ∨ (1 = 33 ∧ 9 = 10) ∨ (1 = 33 ∧ 9 = 11)) from by omega))
  have k_48 : (gi σ1 11 1).toInt = (gi σ0 11 1).toInt := congrArg Int32.toInt (FX_i cσ1 (show ¬ (11 = 34 ∨ 11 = 35 ∨ 11 = 36 ∨ 11 = 37 ∨ 11 = 38 ∨ 11 = 39 ∨ 11 = 40) from by omega) (show ¬ ((11 = 33 ∧ 1 = 1) ∨ (11 = 33 ∧ 1 = 3) ∨ (11 = 33 ∧ 1 = 9) ∨ (11 = 33 ∧ 1 = 10) ∨ (11 = 33 ∧ 1 = 11)) from by omega))
  have t_49 := XI_c1 mσ1 (id := 33) (k := 9) (lim_C0_9 (Or.inr (Or.inr rfl)))
  have z_50 : (0 : Int32).toInt = 0 := rfl
  exact U13 (0 : Int32) σ1 mσ1 fσ1 nσ1_1 nσ1_33 (by omega) (by omega) (by first | omega | assumption | rfl) (by omega)
set_option maxRecDepth 100000 in
set_option maxHeartbeats 4000000 in
theorem k_X11_looked {l : Launch} {V : Vx} {σ0 : Sg} {Qk : Int32 → Sg → Prop} (m0 : XI V σ0) (nn_1 : NN σ0 1) (pre0 : (gi σ0 1 9).toInt ≤ 9999) (h9ret : ∀ (r : Int32) (σ' : Sg), XI V σ' → FX (fun id => id = 34 ∨ id = 35 ∨ id = 36 ∨ id = 37 ∨ id = 38 ∨ id = 39 ∨ id = 40 ∨ id = 47 ∨ id = 48) (fun id k => (id = 33 ∧ k = 1) ∨ (id = 33 ∧ k = 3) ∨ (id = 33 ∧ k = 9) ∨ (id = 33 ∧ k = 10) ∨ (id = 33 ∧ k = 11)) σ0 σ' → (NN σ' 1) → Qk r σ') : K_X11_looked l V σ0 Qk := by
  refine e_X11_looked (fun M hl hV hN C => ?_)
  subst hl
  subst hV
  have T : ∀ n : Nat, (∀ (x1 : Int32) (x2 : Int32) (σ : Sg), XI (mV M) σ → FX (fun id => id = 34 ∨ id = 35 ∨ id = 36 ∨ id = 37 ∨ id = 38 ∨ id = 39 ∨ id = 40 ∨ id = 47 ∨ id = 48) (fun id k => (id = 33 ∧ k = 1) ∨ (id = 33 ∧ k = 3) ∨ (id = 33 ∧ k = 9) ∨ (id = 33 ∧ k = 10) ∨ (id = 33 ∧ k = 11)) σ0 σ → NN σ 1 → (0 ≤ x2.toInt) → (x2.toInt ≤ 8) → (9 - x2.toInt).toNat < n → PS M 21 [(0, .ref 0), (1, .int x1), (2, .int x2)] [] σ (0, 0)) := by
    intro n
    induction n with
    | zero => exact fun _ _ _ _ _ _ _ _ h8 => absurd h8 (Nat.not_lt_zero _)
    | succ n ih =>
      have ih21 := ih
      · intro x1 x2 σ mσ fσ nσ_1 lx2 ux2 hmu
        have k_1 : (gi σ 1 1).toInt = (gi σ0 1 1).toInt := congrArg Int32.toInt (FX_i fσ (show ¬ (1 = 34 ∨ 1 = 35 ∨ 1 = 36 ∨ 1 = 37 ∨ 1 = 38 ∨ 1 = 39 ∨ 1 = 40 ∨ 1 = 47 ∨ 1 = 48) from by omega) (show ¬ ((1 = 33 ∧ 1 = 1) ∨ (1 = 33 ∧ 1 = 3) ∨ (1 = 33 ∧ 1 = 9) ∨ (1 = 33 ∧ 1 = 10) ∨ (1 = 33 ∧ 1 = 11)) from by omega))
        have t_2 := XI_c1 mσ (id := 1) (k := 1) (lim_C0_1 (Or.inl rfl))
        have k_3 : (gi σ 1 9).toInt = (gi σ0 1 9).toInt := congrArg Int32.toInt (FX_i fσ (show ¬ (1 = 34 ∨ 1 = 35 ∨ 1 = 36 ∨ 1 = 37 ∨ 1 = 38 ∨ 1 = 39 ∨ 1 = 40 ∨ 1 = 47 ∨ 1 = 48) from by omega) (show ¬ ((1 = 33 ∧ 9 = 1) ∨ (1 = 33 ∧ 9 = 3) ∨ (1 = 33 ∧ 9 = 9) ∨ (1 = 33 ∧ 9 = 10) ∨ (1 = 33 ∧ 9 = 11)) from by omega))
        have t_4 := XI_c1 mσ (id := 1) (k := 9) (lim_C0_9 (Or.inl rfl))
        have k_5 : (gi σ 13 1).toInt = (gi σ0 13 1).toInt := congrArg Int32.toInt (FX_i fσ (show ¬ (13 = 34 ∨ 13 = 35 ∨ 13 = 36 ∨ 13 = 37 ∨ 13 = 38 ∨ 13 = 39 ∨ 13 = 40 ∨ 13 = 47 ∨ 13 = 48) from by omega) (show ¬ ((13 = 33 ∧ 1 = 1) ∨ (13 = 33 ∧ 1 = 3) ∨ (13 = 33 ∧ 1 = 9) ∨ (13 = 33 ∧ 1 = 10) ∨ (13 = 33 ∧ 1 = 11)) from by omega))
        have t_6 := XI_c1 mσ (id := 13) (k := 1) (lim_C12_1 (Or.inl rfl))
        refine s_X11_looked_21 C hN  ?_
        refine ⟨?_, ?_⟩
        · intro q_7
          have b_8 : (gi σ 13 1).toInt ≤ x2.toInt := Int32.le_iff_toInt_le.mp q_7
          have z_9 : (-5 : Int32).toInt = -5 := rfl
          exact h9ret (-5 : Int32) σ mσ fσ nσ_1
        · intro q_7
          have b_10 : ¬ (gi σ 13 1).toInt ≤ x2.toInt := fun h9 => q_7 (Int32.le_iff_toInt_le.mpr h9)
          have hv_11 : vp_in x2 8 := vp_in_iff.mpr ⟨by omega, by omega⟩
          refine ⟨hv_11, ?_⟩
          intro v3 ev3
          have t_12 := XI_c1 mσ (id := 14) (k := x2.toNatClampNeg) (lim_C13 (Or.inl rfl) _)
          have t_13 : v3.toInt = (gi σ 14 x2.toNatClampNeg).toInt := congrArg Int32.toInt ev3
          refine ⟨?_, ?_⟩
          · intro q_14
            have w_15 := Int32.toInt_lt x1
            have w_16 := Int32.le_toInt x1
            have b_17 : ¬ ((x1 >>> (v3 &&& (31 : Int32))) &&& (1 : Int32)).toInt = 0 := fun h9 => q_14 (Int32.toInt_inj.mp h9)
            intro v5 ev5
            have t_18 : (x2 + (1 : Int32)).toInt = x2.toInt + 1 := i_add (x := x2) (y := (1 : Int32)) (by show (_ : Int) ≤ x2.toInt + 1; omega) (by show x2.toInt + 1 ≤ (_ : Int); omega)
            have t_19 : v5.toInt = (x2 + (1 : Int32)).toInt := congrArg Int32.toInt ev5
            exact ih21 x1 v5 σ mσ fσ nσ_1 (by omega) (by omega) (by omega)
          · intro q_14
            have w_20 := Int32.toInt_lt x1
            have w_21 := Int32.le_toInt x1
            have b_22 : ((x1 >>> (v3 &&& (31 : Int32))) &&& (1 : Int32)).toInt = 0 := congrArg Int32.toInt q_14
            exact h9ret v3 σ mσ fσ nσ_1
  have U21 := T 90
  have f0 : FX (fun id => id = 34 ∨ id = 35 ∨ id = 36 ∨ id = 37 ∨ id = 38 ∨ id = 39 ∨ id = 40 ∨ id = 47 ∨ id = 48) (fun id k => (id = 33 ∧ k = 1) ∨ (id = 33 ∧ k = 3) ∨ (id = 33 ∧ k = 9) ∨ (id = 33 ∧ k = 10) ∨ (id = 33 ∧ k = 11)) σ0 σ0 := FX_rf
  have t_23 := XI_c1 m0 (id := 1) (k := 1) (lim_C0_1 (Or.inl rfl))
  have t_24 := XI_c1 m0 (id := 1) (k := 9) (lim_C0_9 (Or.inl rfl))
  have t_25 := XI_c1 m0 (id := 13) (k := 1) (lim_C12_1 (Or.inl rfl))
  refine s_X11_looked_0 C hN  ?_
  have z_26 : (1 : Int32).toInt = 1 := rfl
  refine k_X1_becomes (Or.inr (Or.inr rfl)) (Or.inl rfl) m0 nn_1 (by first | omega | assumption | rfl) (fun σ1 mσ1 cσ1 nσ1_1 nσ1_33 (pσ1_0 : (gi σ1 33 1).toInt = (gi σ0 1 1).toInt) (pσ1_1 : (gi σ1 33 3).toInt = (gi σ0 1 3).toInt) (pσ1_2 : (gi σ1 33 9).toInt = (gi σ0 1 9).toInt) (pσ1_3 : CPY σ0 σ1 33 1) => ?_)
  have fσ1 : FX (fun id => id = 34 ∨ id = 35 ∨ id = 36 ∨ id = 37 ∨ id = 38 ∨ id = 39 ∨ id = 40 ∨ id = 47 ∨ id = 48) (fun id k => (id = 33 ∧ k = 1) ∨ (id = 33 ∧ k = 3) ∨ (id = 33 ∧ k = 9) ∨ (id = 33 ∧ k = 10) ∨ (id = 33 ∧ k = 11)) σ0 σ1 := FX_tr f0 cσ1 (fun x (h9 : x = 34 ∨ x = 35 ∨ x = 36 ∨ x = 37 ∨ x = 38 ∨ x = 39 ∨ x = 40) => h9.elim (fun e9 => (show x = 34 ∨ x = 35 ∨ x = 36 ∨ x = 37 ∨ x = 38 ∨ x = 39 ∨ x = 40 ∨ x = 47 ∨ x = 48 from Or.inl (e9))) (fun h9 => h9.elim (fun e9 => (show x = 34 ∨ x = 35 ∨ x = 36 ∨ x = 37 ∨ x = 38 ∨ x = 39 ∨ x = 40 ∨ x = 47 ∨ x = 48 from Or.inr (Or.inl (e9)))) (fun h9 => h9.elim (fun e9 => (show x = 34 ∨ x = 35 ∨ x = 36 ∨ x = 37 ∨ x = 38 ∨ x = 39 ∨ x = 40 ∨ x = 47 ∨ x = 48 from Or.inr (Or.inr (Or.inl (e9))))) (fun h9 => h9.elim (fun e9 => (show x = 34 ∨ x = 35 ∨ x = 36 ∨ x = 37 ∨ x = 38 ∨ x = 39 ∨ x = 40 ∨ x = 47 ∨ x = 48 from Or.inr (Or.inr (Or.inr (Or.inl (e9)))))) (fun h9 => h9.elim (fun e9 => (show x = 34 ∨ x = 35 ∨ x = 36 ∨ x = 37 ∨ x = 38 ∨ x = 39 ∨ x = 40 ∨ x = 47 ∨ x = 48 from Or.inr (Or.inr (Or.inr (Or.inr (Or.inl (e9))))))) (fun h9 => h9.elim (fun e9 => (show x = 34 ∨ x = 35 ∨ x = 36 ∨ x = 37 ∨ x = 38 ∨ x = 39 ∨ x = 40 ∨ x = 47 ∨ x = 48 from Or.inr (Or.inr (Or.inr (Or.inr (Or.inr (Or.inl (e9)))))))) (fun h9 => (show x = 34 ∨ x = 35 ∨ x = 36 ∨ x = 37 ∨ x = 38 ∨ x = 39 ∨ x = 40 ∨ x = 47 ∨ x = 48 from Or.inr (Or.inr (Or.inr (Or.inr (Or.inr (Or.inr (Or.inl (h9))))))))))))))) (fun x k (h9 : (x = 33 ∧ k = 1) ∨ (x = 33 ∧ k = 3) ∨ (x = 33 ∧ k = 9) ∨ (x = 33 ∧ k = 10) ∨ (x = 33 ∧ k = 11)) => (show (x = 34 ∨ x = 35 ∨ x = 36 ∨ x = 37 ∨ x = 38 ∨ x = 39 ∨ x = 40 ∨ x = 47 ∨ x = 48) ∨ ((x = 33 ∧ k = 1) ∨ (x = 33 ∧ k = 3) ∨ (x = 33 ∧ k = 9) ∨ (x = 33 ∧ k = 10) ∨ (x = 33 ∧ k = 11)) from h9.elim (fun e9 => Or.inr (show (x = 33 ∧ k = 1) ∨ (x = 33 ∧ k = 3) ∨ (x = 33 ∧ k = 9) ∨ (x = 33 ∧ k = 10) ∨ (x = 33 ∧ k = 11) from Or.inl (e9))) (fun h9 => h9.elim (fun e9 => Or.inr (show (x = 33 ∧ k = 1) ∨ (x = 33 ∧ k = 3) ∨ (x = 33 ∧ k = 9) ∨ (x = 33 ∧ k = 10) ∨ (x = 33 ∧ k = 11) from Or.inr (Or.inl (e9)))) (fun h9 => h9.elim (fun e9 => Or.inr (show (x = 33 ∧ k = 1) ∨ (x = 33 ∧ k = 3) ∨ (x = 33 ∧ k = 9) ∨ (x = 33 ∧ k = 10) ∨ (x = 33 ∧ k = 11) from Or.inr (Or.inr (Or.inl (e9))))) (fun h9 => h9.elim (fun e9 => Or.inr (show (x = 33 ∧ k = 1) ∨ (x = 33 ∧ k = 3) ∨ (x = 33 ∧ k = 9) ∨ (x = 33 ∧ k = 10) ∨ (x = 33 ∧ k = 11) from Or.inr (Or.inr (Or.inr (Or.inl (e9)))))) (fun h9 => Or.inr (show (x = 33 ∧ k = 1) ∨ (x = 33 ∧ k = 3) ∨ (x = 33 ∧ k = 9) ∨ (x = 33 ∧ k = 10) ∨ (x = 33 ∧ k = 11) from Or.inr (Or.inr (Or.inr (Or.inr (h9)))))))))))
  have k_27 : (gi σ1 1 1).toInt = (gi σ0 1 1).toInt := congrArg Int32.toInt (FX_i cσ1 (show ¬ (1 = 34 ∨ 1 = 35 ∨ 1 = 36 ∨ 1 = 37 ∨ 1 = 38 ∨ 1 = 39 ∨ 1 = 40) from by omega) (show ¬ ((1 = 33 ∧ 1 = 1) ∨ (1 = 33 ∧ 1 = 3) ∨ (1 = 33 ∧ 1 = 9) ∨ (1 = 33 ∧ 1 = 10) ∨ (1 = 33 ∧ 1 = 11)) from by omega))
  have k_28 : (gi σ1 1 9).toInt = (gi σ0 1 9).toInt := congrArg Int32.toInt (FX_i cσ1 (show ¬ (1 = 34 ∨ 1 = 35 ∨ 1 = 36 ∨ 1 = 37 ∨ 1 = 38 ∨ 1 = 39 ∨ 1 = 40) from by omega) (show ¬ ((1 = 33 ∧ 9 = 1) ∨ (1 = 33 ∧ 9 = 3) ∨ (1 = 33 ∧ 9 = 9) ∨ (1 = 33 ∧ 9 = 10) ∨ (1 = 33 ∧ 9 = 11)) from by omega))
  have k_29 : (gi σ1 13 1).toInt = (gi σ0 13 1).toInt := congrArg Int32.toInt (FX_i cσ1 (show ¬ (13 = 34 ∨ 13 = 35 ∨ 13 = 36 ∨ 13 = 37 ∨ 13 = 38 ∨ 13 = 39 ∨ 13 = 40) from by omega) (show ¬ ((13 = 33 ∧ 1 = 1) ∨ (13 = 33 ∧ 1 = 3) ∨ (13 = 33 ∧ 1 = 9) ∨ (13 = 33 ∧ 1 = 10) ∨ (13 = 33 ∧ 1 = 11)) from by omega))
  refine k_X1_goesMinute (Or.inr (Or.inr rfl)) mσ1 nσ1_33 (by first | omega | assumption | rfl) (fun r3 σ2 mσ2 cσ2 nσ2_33 (pσ2_0 : (gi σ2 33 9).toInt = (gi σ1 33 9).toInt + 1) => ?_)
  have fσ2 : FX (fun id => id = 34 ∨ id = 35 ∨ id = 36 ∨ id = 37 ∨ id = 38 ∨ id = 39 ∨ id = 40 ∨ id = 47 ∨ id = 48) (fun id k => (id = 33 ∧ k = 1) ∨ (id = 33 ∧ k = 3) ∨ (id = 33 ∧ k = 9) ∨ (id = 33 ∧ k = 10) ∨ (id = 33 ∧ k = 11)) σ0 σ2 := FX_tr fσ1 cσ2 (fun x (h9 : x = 47 ∨ x = 48 ∨ x = 36 ∨ x = 37 ∨ x = 38 ∨ x = 39) => h9.elim (fun e9 => (show x = 34 ∨ x = 35 ∨ x = 36 ∨ x = 37 ∨ x = 38 ∨ x = 39 ∨ x = 40 ∨ x = 47 ∨ x = 48 from Or.inr (Or.inr (Or.inr (Or.inr (Or.inr (Or.inr (Or.inr (Or.inl (e9)))))))))) (fun h9 => h9.elim (fun e9 => (show x = 34 ∨ x = 35 ∨ x = 36 ∨ x = 37 ∨ x = 38 ∨ x = 39 ∨ x = 40 ∨ x = 47 ∨ x = 48 from Or.inr (Or.inr (Or.inr (Or.inr (Or.inr (Or.inr (Or.inr (Or.inr (e9)))))))))) (fun h9 => h9.elim (fun e9 => (show x = 34 ∨ x = 35 ∨ x = 36 ∨ x = 37 ∨ x = 38 ∨ x = 39 ∨ x = 40 ∨ x = 47 ∨ x = 48 from Or.inr (Or.inr (Or.inl (e9))))) (fun h9 => h9.elim (fun e9 => (show x = 34 ∨ x = 35 ∨ x = 36 ∨ x = 37 ∨ x = 38 ∨ x = 39 ∨ x = 40 ∨ x = 47 ∨ x = 48 from Or.inr (Or.inr (Or.inr (Or.inl (e9)))))) (fun h9 => h9.elim (fun e9 => (show x = 34 ∨ x = 35 ∨ x = 36 ∨ x = 37 ∨ x = 38 ∨ x = 39 ∨ x = 40 ∨ x = 47 ∨ x = 48 from Or.inr (Or.inr (Or.inr (Or.inr (Or.inl (e9))))))) (fun h9 => (show x = 34 ∨ x = 35 ∨ x = 36 ∨ x = 37 ∨ x = 38 ∨ x = 39 ∨ x = 40 ∨ x = 47 ∨ x = 48 from Or.inr (Or.inr (Or.inr (Or.inr (Or.inr (Or.inl (h9))))))))))))) (fun x k (h9 : (x = 33 ∧ k = 9)) => (show (x = 34 ∨ x = 35 ∨ x = 36 ∨ x = 37 ∨ x = 38 ∨ x = 39 ∨ x = 40 ∨ x = 47 ∨ x = 48) ∨ ((x = 33 ∧ k = 1) ∨ (x = 33 ∧ k = 3) ∨ (x = 33 ∧ k = 9) ∨ (x = 33 ∧ k = 10) ∨ (x = 33 ∧ k = 11)) from Or.inr (show (x = 33 ∧ k = 1) ∨ (x = 33 ∧ k = 3) ∨ (x = 33 ∧ k = 9) ∨ (x = 33 ∧ k = 10) ∨ (x = 33 ∧ k = 11) from Or.inr (Or.inr (Or.inl (h9))))))
  have k_30 : (gi σ2 1 1).toInt = (gi σ1 1 1).toInt := congrArg Int32.toInt (FX_i cσ2 (show ¬ (1 = 47 ∨ 1 = 48 ∨ 1 = 36 ∨ 1 = 37 ∨ 1 = 38 ∨ 1 = 39) from by omega) (show ¬ ((1 = 33 ∧ 1 = 9)) from by omega))
  have k_31 : (gi σ2 1 9).toInt = (gi σ1 1 9).toInt := congrArg Int32.toInt (FX_i cσ2 (show ¬ (1 = 47 ∨ 1 = 48 ∨ 1 = 36 ∨ 1 = 37 ∨ 1 = 38 ∨ 1 = 39) from by omega) (show ¬ ((1 = 33 ∧ 9 = 9)) from by omega))
  have k_32 : (gi σ2 13 1).toInt = (gi σ1 13 1).toInt := congrArg Int32.toInt (FX_i cσ2 (show ¬ (13 = 47 ∨ 13 = 48 ∨ 13 = 36 ∨ 13 = 37 ∨ 13 = 38 ∨ 13 = 39) from by omega) (show ¬ ((13 = 33 ∧ 1 = 9)) from by omega))
  have nσ2_1 : NN σ2 1 := NN_fx nσ1_1 cσ2 (show ¬ (1 = 47 ∨ 1 = 48 ∨ 1 = 36 ∨ 1 = 37 ∨ 1 = 38 ∨ 1 = 39) from by omega) (show ¬ (2 = 47 ∨ 2 = 48 ∨ 2 = 36 ∨ 2 = 37 ∨ 2 = 38 ∨ 2 = 39) from by omega) (show ¬ (3 = 47 ∨ 3 = 48 ∨ 3 = 36 ∨ 3 = 37 ∨ 3 = 38 ∨ 3 = 39) from by omega) (show ¬ ((1 = 33 ∧ 1 = 9)) from by omega) (show ¬ ((1 = 33 ∧ 3 = 9)) from by omega) (fun k (h9 : (2 = 33 ∧ k = 9)) => by omega) (fun k (h9 : (3 = 33 ∧ k = 9)) => by omega)
  have w_33 := Int32.toInt_lt r3
  have w_34 := Int32.le_toInt r3
  have z_35 : (0 : Int32).toInt = 0 := rfl
  exact U21 r3 (0 : Int32) σ2 mσ2 fσ2 nσ2_1 (by omega) (by omega) (by omega)
set_option maxRecDepth 100000 in
set_option maxHeartbeats 4000000 in
theorem k_X11_judge {l : Launch} {V : Vx} {a1 : Int32} {a2 : Int32} {σ0 : Sg} {Qk : Int32 → Sg → Prop} (m0 : XI V σ0) (h9ret : ∀ (r : Int32) (σ' : Sg), XI V σ' → FX (fun id => False) (fun _ _ => False) σ0 σ' → Qk r σ') : K_X11_judge l V a1 a2 σ0 Qk := by
  refine e_X11_judge (fun M hl hV hN C => ?_)
  subst hl
  subst hV
  have T : ∀ n : Nat, (∀ (x2 : Int32) (x3 : Nat) (x4 : Int32) (σ : Sg) (hx3 : isT x3), XI (mV M) σ → FX (fun id => False) (fun _ _ => False) σ0 σ → (0 ≤ x4.toInt) → (x4.toInt ≤ 6) → (7 - x4.toInt).toNat < n → PS M 37 [(0, .ref 0), (2, .int x2), (3, .ref x3), (4, .int x4)] [] σ (0, 0)) := by
    intro n
    induction n with
    | zero => exact fun _ _ _ _ _ _ _ _ _ h8 => absurd h8 (Nat.not_lt_zero _)
    | succ n ih =>
      have ih37 := ih
      · intro x2 x3 x4 σ hx3 mσ fσ lx4 ux4 hmu
        have ox3 : hid (x3 = 52 ∨ x3 = 54 ∨ x3 = 56 ∨ x3 = 58 ∨ x3 = 60 ∨ x3 = 62) := hx3
        have k_1 : (gi σ 1 1).toInt = (gi σ0 1 1).toInt := congrArg Int32.toInt (FX_i fσ id id)
        have t_2 := XI_c1 mσ (id := 1) (k := 1) (lim_C0_1 (Or.inl rfl))
        have k_3 : (gi σ (52 + 2 * a1.toNatClampNeg) 1).toInt = (gi σ0 (52 + 2 * a1.toNatClampNeg) 1).toInt := congrArg Int32.toInt (FX_i fσ id id)
        refine s_X11_judge_37 C hN hx3 ?_
        refine ⟨?_, ?_⟩
        · intro q_4
          have b_5 : (gi σ 1 1).toInt ≤ x4.toInt := Int32.le_iff_toInt_le.mp q_4
          have z_6 : (-5 : Int32).toInt = -5 := rfl
          exact h9ret (-5 : Int32) σ mσ fσ
        · intro q_4
          have b_7 : ¬ (gi σ 1 1).toInt ≤ x4.toInt := fun h9 => q_4 (Int32.le_iff_toInt_le.mpr h9)
          have tz_8 := XI_c1 mσ (lim_T0_2 hx3)
          refine k_X9_has hx3 mσ   (fun r3 σ2 mσ2 cσ2 plσ2 phσ2 (pσ2_0 : (r3.toInt = 1 ∧ 0 ≤ x2.toInt ∧ x2.toInt < (gi σ x3 2).toInt) ∨ r3.toInt = 0) => ?_)
          obtain rfl := FX_nil cσ2
          refine ⟨?_, ?_⟩
          · intro q_9
            have b_10 : r3.toInt = 0 := congrArg Int32.toInt q_9
            exact h9ret ((100 : Int32) + x4) σ mσ fσ
          · intro q_9
            have b_11 : ¬ r3.toInt = 0 := fun h9 => q_9 (Int32.toInt_inj.mp h9)
            have w_12 := Int32.toInt_lt x2
            have w_13 := Int32.le_toInt x2
            try have t_14 : (x2 + x4).toInt = x2.toInt + x4.toInt := i_add (x := x2) (y := x4) (by show (_ : Int) ≤ x2.toInt + x4.toInt; omega) (by show x2.toInt + x4.toInt ≤ (_ : Int); omega)
            have tz_15 := XI_c1 mσ (lim_T0_2 hx3)
            refine k_X9_has hx3 mσ   (fun r6 σ5 mσ5 cσ5 plσ5 phσ5 (pσ5_0 : (r6.toInt = 1 ∧ 0 ≤ (x2 + x4).toInt ∧ (x2 + x4).toInt < (gi σ x3 2).toInt) ∨ r6.toInt = 0) => ?_)
            obtain rfl := FX_nil cσ5
            refine ⟨?_, ?_⟩
            · intro q_16
              have b_17 : ¬ r6.toInt = 0 := fun h9 => q_16 (Int32.toInt_inj.mp h9)
              have hv_18 : vp_in (x2 + x4) 60 := vp_in_iff.mpr ⟨by omega, by omega⟩
              refine ⟨hv_18, ?_⟩
              have hv_19 : vp_in x4 6 := vp_in_iff.mpr ⟨by omega, by omega⟩
              refine ⟨hv_19, ?_⟩
              refine ⟨?_, ?_⟩
              · intro q_20
                intro v11 ev11
                have t_21 : (x4 + (1 : Int32)).toInt = x4.toInt + 1 := i_add (x := x4) (y := (1 : Int32)) (by show (_ : Int) ≤ x4.toInt + 1; omega) (by show x4.toInt + 1 ≤ (_ : Int); omega)
                have t_22 : v11.toInt = (x4 + (1 : Int32)).toInt := congrArg Int32.toInt ev11
                exact ih37 x2 x3 v11 σ hx3 mσ fσ (by omega) (by omega) (by omega)
              · intro q_20
                exact h9ret x4 σ mσ fσ
            · intro q_16
              have b_23 : r6.toInt = 0 := congrArg Int32.toInt q_16
              exact h9ret ((100 : Int32) + x4) σ mσ fσ
  have U37 := T 9
  have f0 : FX (fun id => False) (fun _ _ => False) σ0 σ0 := FX_rf
  have t_24 := XI_c1 m0 (id := 1) (k := 1) (lim_C0_1 (Or.inl rfl))
  refine s_X11_judge_0 C hN  ?_
  refine k_X11_isTape  m0   (fun r2 σ1 mσ1 cσ1 plσ1 phσ1 (pσ1_0 : (r2.toInt = 1 ∧ 0 ≤ a1.toInt ∧ a1.toInt ≤ 5) ∨ (r2.toInt = 0 ∧ (a1.toInt < 0 ∨ 5 < a1.toInt))) => ?_)
  obtain rfl := FX_nil cσ1
  refine ⟨?_, ?_⟩
  · intro q_25
    have b_26 : ¬ r2.toInt = 0 := fun h9 => q_25 (Int32.toInt_inj.mp h9)
    have w_27 := Int32.toInt_lt a1
    have w_28 := Int32.le_toInt a1
    have hv_29 : vp_in a1 6 := vp_in_iff.mpr ⟨by omega, by omega⟩
    refine ⟨hv_29, ?_⟩
    have ec_30 := cl_eq (x := a1) (by omega)
    refine k_X9_isEmpty (isT_of hv_29) m0   (fun r6 σ5 mσ5 cσ5 plσ5 phσ5 => ?_)
    obtain rfl := FX_nil cσ5
    refine ⟨?_, ?_⟩
    · intro q_31
      have b_32 : ¬ r6.toInt = 0 := fun h9 => q_31 (Int32.toInt_inj.mp h9)
      have w_33 := Int32.toInt_lt a2
      have w_34 := Int32.le_toInt a2
      have z_35 : (0 : Int32).toInt = 0 := rfl
      exact U37 a2 (52 + 2 * a1.toNatClampNeg) (0 : Int32) σ0 (isT_of hv_29) m0 f0 (by omega) (by omega) (by omega)
    · intro q_31
      have b_36 : r6.toInt = 0 := congrArg Int32.toInt q_31
      refine ⟨?_, ?_⟩
      · intro q_37
        have b_38 : (gi σ0 (52 + (2 * a1.toNatClampNeg)) 1).toInt = 1 := congrArg Int32.toInt q_37
        have w_39 := Int32.toInt_lt a2
        have w_40 := Int32.le_toInt a2
        have z_41 : (0 : Int32).toInt = 0 := rfl
        exact U37 a2 (52 + 2 * a1.toNatClampNeg) (0 : Int32) σ0 (isT_of hv_29) m0 f0 (by omega) (by omega) (by omega)
      · intro q_37
        have b_42 : ¬ (gi σ0 (52 + (2 * a1.toNatClampNeg)) 1).toInt = 1 := fun h9 => q_37 (Int32.toInt_inj.mp h9)
        have z_43 : (-12 : Int32).toInt = -12 := rfl
        exact h9ret (-12 : Int32) σ0 m0 f0
  · intro q_25
    have b_44 : r2.toInt = 0 := congrArg Int32.toInt q_25
    have z_45 : (-1 : Int32).toInt = -1 := rfl
    exact h9ret (-1 : Int32) σ0 m0 f0
set_option maxRecDepth 100000 in
set_option maxHeartbeats 4000000 in
theorem k_X11_isOfKind {l : Launch} {V : Vx} {a1 : Nat} {a2 : Int32} {σ0 : Sg} {Qk : Int32 → Sg → Prop} {ci1 : Nat} (sa1 : isMc ci1) (ha1 : kd a1 = (10 + ci1, 0)) (la1 : a1 ∈ ids (V)) (m0 : XI V σ0) (h9ret : ∀ (r : Int32) (σ' : Sg), XI V σ' → FX (fun id => False) (fun _ _ => False) σ0 σ' → Qk r σ') : K_X11_isOfKind l V a1 a2 σ0 Qk := by
  refine e_X11_isOfKind (fun M hl hV hN C => ?_)
  subst hl
  subst hV
  have ga1 := kdM_ge sa1 ha1
  have f0 : FX (fun id => False) (fun _ _ => False) σ0 σ0 := FX_rf
  refine s_X11_isOfKind_0 C hN sa1 ha1 la1 ?_
  refine ⟨?_, ?_, ?_, ?_, ?_, ?_, ?_, ?_⟩
  · intro q_1
    have z_2 : (0 : Int32).toInt = 0 := rfl
    exact h9ret (0 : Int32) σ0 m0 f0
  · intro q_1
    have z_3 : (1 : Int32).toInt = 1 := rfl
    exact h9ret (1 : Int32) σ0 m0 f0
  · intro q_1
    intro v2 ev2
    have t_4 : v2.toInt = 0 ∨ v2.toInt = 1 := by rw [ev2]; split <;> decide
    refine ⟨i_bool (by omega) (by omega), ?_⟩
    exact h9ret v2 σ0 m0 f0
  · intro q_1
    intro v3 ev3
    have t_5 : v3.toInt = 0 ∨ v3.toInt = 1 := by rw [ev3]; split <;> decide
    refine ⟨i_bool (by omega) (by omega), ?_⟩
    exact h9ret v3 σ0 m0 f0
  · intro q_1
    intro v4 ev4
    have t_6 : v4.toInt = 0 ∨ v4.toInt = 1 := by rw [ev4]; split <;> decide
    refine ⟨i_bool (by omega) (by omega), ?_⟩
    exact h9ret v4 σ0 m0 f0
  · intro q_1
    intro v5 ev5
    have t_7 : v5.toInt = 0 ∨ v5.toInt = 1 := by rw [ev5]; split <;> decide
    refine ⟨i_bool (by omega) (by omega), ?_⟩
    exact h9ret v5 σ0 m0 f0
  · intro q_1
    intro v6 ev6
    have t_8 : v6.toInt = 0 ∨ v6.toInt = 1 := by rw [ev6]; split <;> decide
    refine ⟨i_bool (by omega) (by omega), ?_⟩
    exact h9ret v6 σ0 m0 f0
  · intro q_1
    intro v7 ev7
    have t_9 : v7.toInt = 0 ∨ v7.toInt = 1 := by rw [ev7]; split <;> decide
    refine ⟨i_bool (by omega) (by omega), ?_⟩
    exact h9ret v7 σ0 m0 f0
set_option maxRecDepth 100000 in
set_option maxHeartbeats 4000000 in
theorem k_X11_taken {l : Launch} {V : Vx} {a1 : Int32} {a2 : Int32} {σ0 : Sg} {Qk : Int32 → Sg → Prop} (m0 : XI V σ0) (nn_1 : NN σ0 1) (h9ret : ∀ (r : Int32) (σ' : Sg), XI V σ' → FX (fun id => False) (fun _ _ => False) σ0 σ' → (NN σ' 1) → Qk r σ') : K_X11_taken l V a1 a2 σ0 Qk := by
  refine e_X11_taken (fun M hl hV hN C => ?_)
  subst hl
  subst hV
  have f0 : FX (fun id => False) (fun _ _ => False) σ0 σ0 := FX_rf
  have t_1 := XI_c1 m0 (id := 1) (k := 1) (lim_C0_1 (Or.inl rfl))
  refine s_X11_taken_0 C hN  ?_
  refine ⟨?_, ?_⟩
  · intro q_2
    have w_3 := Int32.toInt_lt a2
    have w_4 := Int32.le_toInt a2
    have b_5 : a2.toInt < 0 := Int32.lt_iff_toInt_lt.mp q_2
    have z_6 : (-2 : Int32).toInt = -2 := rfl
    exact h9ret (-2 : Int32) σ0 m0 f0 nn_1
  · intro q_2
    have w_7 := Int32.toInt_lt a2
    have w_8 := Int32.le_toInt a2
    have b_9 : ¬ a2.toInt < 0 := fun h9 => q_2 (Int32.lt_iff_toInt_lt.mpr h9)
    refine ⟨?_, ?_⟩
    · intro q_10
      have b_11 : a2.toInt ≤ 6 := Int32.le_iff_toInt_le.mp q_10
      refine k_X11_isMower  m0   (fun r4 σ3 mσ3 cσ3 plσ3 phσ3 (pσ3_0 : (r4.toInt = 1 ∧ 0 ≤ a1.toInt ∧ a1.toInt < (gi σ0 1 1).toInt) ∨ (r4.toInt = 0 ∧ (a1.toInt < 0 ∨ (gi σ0 1 1).toInt ≤ a1.toInt))) => ?_)
      obtain rfl := FX_nil cσ3
      refine ⟨?_, ?_⟩
      · intro q_12
        have b_13 : ¬ r4.toInt = 0 := fun h9 => q_12 (Int32.toInt_inj.mp h9)
        have w_14 := Int32.toInt_lt a1
        have w_15 := Int32.le_toInt a1
        have hv_16 : vp_in a1 6 := vp_in_iff.mpr ⟨by omega, by omega⟩
        have ec_17 := cl_eq (x := a1) (by omega)
        obtain ⟨μ7, ci7, eμ7, sμ7, hμ7, lμ7⟩ := XI_mow m0 (Or.inl rfl) (nn_1.2 a1.toNatClampNeg (by omega))
        have gμ7 := kdM_ge sμ7 hμ7
        refine ⟨hv_16, μ7, ci7, eμ7, sμ7, hμ7, lμ7, ?_⟩
        refine k_X11_isOfKind sμ7 hμ7 lμ7 m0   (fun r9 σ8 mσ8 cσ8 => ?_)
        obtain rfl := FX_nil cσ8
        refine ⟨?_, ?_⟩
        · intro q_18
          have w_19 := Int32.toInt_lt r9
          have w_20 := Int32.le_toInt r9
          have b_21 : r9.toInt = 0 := congrArg Int32.toInt q_18
          have z_22 : (-12 : Int32).toInt = -12 := rfl
          exact h9ret (-12 : Int32) σ0 m0 f0 nn_1
        · intro q_18
          have w_23 := Int32.toInt_lt r9
          have w_24 := Int32.le_toInt r9
          have b_25 : ¬ r9.toInt = 0 := fun h9 => q_18 (Int32.toInt_inj.mp h9)
          have ec_26 := cl_eq (x := a1) (by omega)
          obtain ⟨μ12, ci12, eμ12, sμ12, hμ12, lμ12⟩ := XI_mow m0 (Or.inl rfl) (nn_1.2 a1.toNatClampNeg (by omega))
          have gμ12 := kdM_ge sμ12 hμ12
          refine ⟨hv_16, μ12, ci12, eμ12, sμ12, hμ12, lμ12, ?_⟩
          exact h9ret (gi σ0 μ12 0) σ0 m0 f0 nn_1
      · intro q_12
        have b_27 : r4.toInt = 0 := congrArg Int32.toInt q_12
        have z_28 : (-11 : Int32).toInt = -11 := rfl
        exact h9ret (-11 : Int32) σ0 m0 f0 nn_1
    · intro q_10
      have b_29 : ¬ a2.toInt ≤ 6 := fun h9 => q_10 (Int32.le_iff_toInt_le.mpr h9)
      have z_30 : (-2 : Int32).toInt = -2 := rfl
      exact h9ret (-2 : Int32) σ0 m0 f0 nn_1
set_option maxRecDepth 100000 in
set_option maxHeartbeats 4000000 in
theorem k_X11_tape {l : Launch} {V : Vx} {a1 : Int32} {a2 : Int32} {a3 : Int32} {σ0 : Sg} {Qk : Int32 → Sg → Prop} (m0 : XI V σ0) (h9ret : ∀ (r : Int32) (σ' : Sg), XI V σ' → FX (fun id => (53 ≤ id ∧ id ≤ 63)) (fun id k => (52 ≤ id ∧ id ≤ 62)) σ0 σ' → Qk r σ') : K_X11_tape l V a1 a2 a3 σ0 Qk := by
  refine e_X11_tape (fun M hl hV hN C => ?_)
  subst hl
  subst hV
  have f0 : FX (fun id => (53 ≤ id ∧ id ≤ 63)) (fun id k => (52 ≤ id ∧ id ≤ 62)) σ0 σ0 := FX_rf
  refine s_X11_tape_0 C hN  ?_
  refine k_X11_isTape  m0   (fun r2 σ1 mσ1 cσ1 plσ1 phσ1 (pσ1_0 : (r2.toInt = 1 ∧ 0 ≤ a1.toInt ∧ a1.toInt ≤ 5) ∨ (r2.toInt = 0 ∧ (a1.toInt < 0 ∨ 5 < a1.toInt))) => ?_)
  obtain rfl := FX_nil cσ1
  refine ⟨?_, ?_⟩
  · intro q_1
    have b_2 : ¬ r2.toInt = 0 := fun h9 => q_1 (Int32.toInt_inj.mp h9)
    refine ⟨?_, ?_⟩
    · intro q_3
      have w_4 := Int32.toInt_lt a2
      have w_5 := Int32.le_toInt a2
      have b_6 : ¬ a2.toInt = (-1) := fun h9 => q_3 (Int32.toInt_inj.mp h9)
      refine ⟨?_, ?_⟩
      · intro q_7
        have b_8 : a2.toInt < (-1) := Int32.lt_iff_toInt_lt.mp q_7
        have z_9 : (-2 : Int32).toInt = -2 := rfl
        exact h9ret (-2 : Int32) σ0 m0 f0
      · intro q_7
        have b_10 : ¬ a2.toInt < (-1) := fun h9 => q_7 (Int32.lt_iff_toInt_lt.mpr h9)
        refine ⟨?_, ?_⟩
        · intro q_11
          have b_12 : (4 : Int) < a2.toInt := Int32.lt_iff_toInt_lt.mp q_11
          have z_13 : (-2 : Int32).toInt = -2 := rfl
          exact h9ret (-2 : Int32) σ0 m0 f0
        · intro q_11
          have b_14 : ¬ (4 : Int) < a2.toInt := fun h9 => q_11 (Int32.lt_iff_toInt_lt.mpr h9)
          refine ⟨?_, ?_⟩
          · intro q_15
            have w_16 := Int32.toInt_lt a3
            have w_17 := Int32.le_toInt a3
            have b_18 : a3.toInt ≤ 60 := Int32.le_iff_toInt_le.mp q_15
            refine ⟨?_, ?_⟩
            · intro q_19
              have b_20 : (0 : Int) ≤ a3.toInt := Int32.le_iff_toInt_le.mp q_19
              have w_21 := Int32.toInt_lt a1
              have w_22 := Int32.le_toInt a1
              have hv_23 : vp_in a1 6 := vp_in_iff.mpr ⟨by omega, by omega⟩
              refine ⟨hv_23, ?_⟩
              have ec_24 := cl_eq (x := a1) (by omega)
              refine k_X9_becomes (isT_of hv_23) m0  (by omega) (by omega) (by omega) (by omega) (fun σ10 mσ10 cσ10 => ?_)
              have fσ10 : FX (fun id => (53 ≤ id ∧ id ≤ 63)) (fun id k => (52 ≤ id ∧ id ≤ 62)) σ0 σ10 := FX_tr f0 cσ10 (fun x (h9 : x = 52 + 2 * a1.toNatClampNeg + 1) => (show (53 ≤ x ∧ x ≤ 63) from ⟨by omega, by omega⟩)) (fun x k (h9 : (x = 52 + 2 * a1.toNatClampNeg ∧ k = 1) ∨ (x = 52 + 2 * a1.toNatClampNeg ∧ k = 2)) => (show ((53 ≤ x ∧ x ≤ 63)) ∨ ((52 ≤ x ∧ x ≤ 62)) from h9.elim (fun e9 => Or.inr (show (52 ≤ x ∧ x ≤ 62) from ⟨by omega, by omega⟩)) (fun h9 => Or.inr (show (52 ≤ x ∧ x ≤ 62) from ⟨by omega, by omega⟩))))
              have z_25 : (1 : Int32).toInt = 1 := rfl
              exact h9ret (1 : Int32) σ10 mσ10 fσ10
            · intro q_19
              have b_26 : ¬ (0 : Int) ≤ a3.toInt := fun h9 => q_19 (Int32.le_iff_toInt_le.mpr h9)
              have z_27 : (-14 : Int32).toInt = -14 := rfl
              exact h9ret (-14 : Int32) σ0 m0 f0
          · intro q_15
            have w_28 := Int32.toInt_lt a3
            have w_29 := Int32.le_toInt a3
            have b_30 : ¬ a3.toInt ≤ 60 := fun h9 => q_15 (Int32.le_iff_toInt_le.mpr h9)
            have z_31 : (-2 : Int32).toInt = -2 := rfl
            exact h9ret (-2 : Int32) σ0 m0 f0
    · intro q_3
      have w_32 := Int32.toInt_lt a2
      have w_33 := Int32.le_toInt a2
      have b_34 : a2.toInt = (-1) := congrArg Int32.toInt q_3
      have w_35 := Int32.toInt_lt a1
      have w_36 := Int32.le_toInt a1
      have hv_37 : vp_in a1 6 := vp_in_iff.mpr ⟨by omega, by omega⟩
      refine ⟨hv_37, ?_⟩
      have ec_38 := cl_eq (x := a1) (by omega)
      have z_39 : (-1 : Int32).toInt = -1 := rfl
      have z_40 : (0 : Int32).toInt = 0 := rfl
      refine k_X9_becomes (isT_of hv_37) m0  (by omega) (by omega) (by omega) (by omega) (fun σ12 mσ12 cσ12 => ?_)
      have fσ12 : FX (fun id => (53 ≤ id ∧ id ≤ 63)) (fun id k => (52 ≤ id ∧ id ≤ 62)) σ0 σ12 := FX_tr f0 cσ12 (fun x (h9 : x = 52 + 2 * a1.toNatClampNeg + 1) => (show (53 ≤ x ∧ x ≤ 63) from ⟨by omega, by omega⟩)) (fun x k (h9 : (x = 52 + 2 * a1.toNatClampNeg ∧ k = 1) ∨ (x = 52 + 2 * a1.toNatClampNeg ∧ k = 2)) => (show ((53 ≤ x ∧ x ≤ 63)) ∨ ((52 ≤ x ∧ x ≤ 62)) from h9.elim (fun e9 => Or.inr (show (52 ≤ x ∧ x ≤ 62) from ⟨by omega, by omega⟩)) (fun h9 => Or.inr (show (52 ≤ x ∧ x ≤ 62) from ⟨by omega, by omega⟩))))
      have z_41 : (1 : Int32).toInt = 1 := rfl
      exact h9ret (1 : Int32) σ12 mσ12 fσ12
  · intro q_1
    have b_42 : r2.toInt = 0 := congrArg Int32.toInt q_1
    have z_43 : (-1 : Int32).toInt = -1 := rfl
    exact h9ret (-1 : Int32) σ0 m0 f0
set_option maxRecDepth 100000 in
set_option maxHeartbeats 4000000 in
theorem k_X11_item {l : Launch} {V : Vx} {a1 : Int32} {a2 : Int32} {a3 : Int64} {σ0 : Sg} {Qk : Int32 → Sg → Prop} (m0 : XI V σ0) (h9ret : ∀ (r : Int32) (σ' : Sg), XI V σ' → FX (fun id => (53 ≤ id ∧ id ≤ 63)) (fun _ _ => False) σ0 σ' → Qk r σ') : K_X11_item l V a1 a2 a3 σ0 Qk := by
  refine e_X11_item (fun M hl hV hN C => ?_)
  subst hl
  subst hV
  have f0 : FX (fun id => (53 ≤ id ∧ id ≤ 63)) (fun _ _ => False) σ0 σ0 := FX_rf
  refine s_X11_item_0 C hN  ?_
  refine k_X11_isTape  m0   (fun r2 σ1 mσ1 cσ1 plσ1 phσ1 (pσ1_0 : (r2.toInt = 1 ∧ 0 ≤ a1.toInt ∧ a1.toInt ≤ 5) ∨ (r2.toInt = 0 ∧ (a1.toInt < 0 ∨ 5 < a1.toInt))) => ?_)
  obtain rfl := FX_nil cσ1
  refine ⟨?_, ?_⟩
  · intro q_1
    have b_2 : ¬ r2.toInt = 0 := fun h9 => q_1 (Int32.toInt_inj.mp h9)
    have w_3 := Int32.toInt_lt a1
    have w_4 := Int32.le_toInt a1
    have hv_5 : vp_in a1 6 := vp_in_iff.mpr ⟨by omega, by omega⟩
    refine ⟨hv_5, ?_⟩
    have ec_6 := cl_eq (x := a1) (by omega)
    refine k_X9_isEmpty (isT_of hv_5) m0   (fun r6 σ5 mσ5 cσ5 plσ5 phσ5 => ?_)
    obtain rfl := FX_nil cσ5
    refine ⟨?_, ?_⟩
    · intro q_7
      have b_8 : r6.toInt = 0 := congrArg Int32.toInt q_7
      have tz_9 := XI_c1 m0 (lim_T0_2 (isT_of hv_5))
      refine k_X9_has (isT_of hv_5) m0   (fun r9 σ8 mσ8 cσ8 plσ8 phσ8 (pσ8_0 : (r9.toInt = 1 ∧ 0 ≤ a2.toInt ∧ a2.toInt < (gi σ0 (52 + 2 * a1.toNatClampNeg) 2).toInt) ∨ r9.toInt = 0) => ?_)
      obtain rfl := FX_nil cσ8
      refine ⟨?_, ?_⟩
      · intro q_10
        have b_11 : ¬ r9.toInt = 0 := fun h9 => q_10 (Int32.toInt_inj.mp h9)
        refine k_X9_cut (isT_of hv_5) m0   (fun r12 σ11 mσ11 cσ11 => ?_)
        obtain rfl := FX_nil cσ11
        have w_12 := Int32.toInt_lt a2
        have w_13 := Int32.le_toInt a2
        have hv_14 : vp_in a2 60 := vp_in_iff.mpr ⟨by omega, by omega⟩
        refine ⟨hv_14, ?_⟩
        intro σ14 eσ14
        have mσ14 : XI (mV M) σ14 := by rw [eσ14]; exact XIs_l m0
        have fσ14 : FX (fun id => (53 ≤ id ∧ id ≤ 63)) (fun _ _ => False) σ0 σ14 := by rw [eσ14]; exact FX_sl f0 ((show (53 ≤ 52 + 2 * a1.toNatClampNeg + 1 ∧ 52 + 2 * a1.toNatClampNeg + 1 ≤ 63) from ⟨by omega, by omega⟩))
        have z_15 : (1 : Int32).toInt = 1 := rfl
        exact h9ret (1 : Int32) σ14 mσ14 fσ14
      · intro q_10
        have b_16 : r9.toInt = 0 := congrArg Int32.toInt q_10
        have z_17 : (-13 : Int32).toInt = -13 := rfl
        exact h9ret (-13 : Int32) σ0 m0 f0
    · intro q_7
      have b_18 : ¬ r6.toInt = 0 := fun h9 => q_7 (Int32.toInt_inj.mp h9)
      have z_19 : (-11 : Int32).toInt = -11 := rfl
      exact h9ret (-11 : Int32) σ0 m0 f0
  · intro q_1
    have b_20 : r2.toInt = 0 := congrArg Int32.toInt q_1
    have z_21 : (-1 : Int32).toInt = -1 := rfl
    exact h9ret (-1 : Int32) σ0 m0 f0
set_option maxRecDepth 100000 in
set_option maxHeartbeats 4000000 in
theorem k_X11_read {l : Launch} {V : Vx} {a1 : Int32} {a2 : Int32} {σ0 : Sg} {Qk : Int64 → Sg → Prop} (m0 : XI V σ0) (h9ret : ∀ (r : Int64) (σ' : Sg), XI V σ' → FX (fun id => False) (fun _ _ => False) σ0 σ' → Qk r σ') : K_X11_read l V a1 a2 σ0 Qk := by
  refine e_X11_read (fun M hl hV hN C => ?_)
  subst hl
  subst hV
  have f0 : FX (fun id => False) (fun _ _ => False) σ0 σ0 := FX_rf
  refine s_X11_read_0 C hN  ?_
  refine k_X11_isTape  m0   (fun r2 σ1 mσ1 cσ1 plσ1 phσ1 (pσ1_0 : (r2.toInt = 1 ∧ 0 ≤ a1.toInt ∧ a1.toInt ≤ 5) ∨ (r2.toInt = 0 ∧ (a1.toInt < 0 ∨ 5 < a1.toInt))) => ?_)
  obtain rfl := FX_nil cσ1
  refine ⟨?_, ?_⟩
  · intro q_1
    have b_2 : r2.toInt = 0 := congrArg Int32.toInt q_1
    exact h9ret (-9223372036854775808 : Int64) σ0 m0 f0
  · intro q_1
    have b_3 : ¬ r2.toInt = 0 := fun h9 => q_1 (Int32.toInt_inj.mp h9)
    have w_4 := Int32.toInt_lt a1
    have w_5 := Int32.le_toInt a1
    have hv_6 : vp_in a1 6 := vp_in_iff.mpr ⟨by omega, by omega⟩
    refine ⟨hv_6, ?_⟩
    have ec_7 := cl_eq (x := a1) (by omega)
    have tz_8 := XI_c1 m0 (lim_T0_2 (isT_of hv_6))
    refine k_X9_has (isT_of hv_6) m0   (fun r6 σ5 mσ5 cσ5 plσ5 phσ5 (pσ5_0 : (r6.toInt = 1 ∧ 0 ≤ a2.toInt ∧ a2.toInt < (gi σ0 (52 + 2 * a1.toNatClampNeg) 2).toInt) ∨ r6.toInt = 0) => ?_)
    obtain rfl := FX_nil cσ5
    refine ⟨?_, ?_⟩
    · intro q_9
      have b_10 : r6.toInt = 0 := congrArg Int32.toInt q_9
      exact h9ret (-9223372036854775808 : Int64) σ0 m0 f0
    · intro q_9
      have b_11 : ¬ r6.toInt = 0 := fun h9 => q_9 (Int32.toInt_inj.mp h9)
      refine ⟨hv_6, ?_⟩
      have ec_12 := cl_eq (x := a1) (by omega)
      have w_13 := Int32.toInt_lt a2
      have w_14 := Int32.le_toInt a2
      have hv_15 : vp_in a2 60 := vp_in_iff.mpr ⟨by omega, by omega⟩
      refine ⟨hv_15, ?_⟩
      exact h9ret (gl σ0 ((52 + 2 * a1.toNatClampNeg) + 1) a2.toNatClampNeg) σ0 m0 f0
set_option maxRecDepth 100000 in
set_option maxHeartbeats 4000000 in
theorem k_X11_shift {l : Launch} {V : Vx} {a1 : Int32} {a2 : Int32} {a3 : Int32} {a4 : Int32} {a5 : Int32} {σ0 : Sg} {Qk : Int32 → Sg → Prop} (m0 : XI V σ0) (h9ret : ∀ (r : Int32) (σ' : Sg), XI V σ' → FX (fun id => (53 ≤ id ∧ id ≤ 63)) (fun _ _ => False) σ0 σ' → Qk r σ') : K_X11_shift l V a1 a2 a3 a4 a5 σ0 Qk := by
  refine e_X11_shift (fun M hl hV hN C => ?_)
  subst hl
  subst hV
  have f0 : FX (fun id => (53 ≤ id ∧ id ≤ 63)) (fun _ _ => False) σ0 σ0 := FX_rf
  refine s_X11_shift_0 C hN  ?_
  refine k_X11_isTape  m0   (fun r2 σ1 mσ1 cσ1 plσ1 phσ1 (pσ1_0 : (r2.toInt = 1 ∧ 0 ≤ a1.toInt ∧ a1.toInt ≤ 5) ∨ (r2.toInt = 0 ∧ (a1.toInt < 0 ∨ 5 < a1.toInt))) => ?_)
  obtain rfl := FX_nil cσ1
  refine ⟨?_, ?_⟩
  · intro q_1
    have b_2 : r2.toInt = 0 := congrArg Int32.toInt q_1
    have z_3 : (-1 : Int32).toInt = -1 := rfl
    exact h9ret (-1 : Int32) σ0 m0 f0
  · intro q_1
    have b_4 : ¬ r2.toInt = 0 := fun h9 => q_1 (Int32.toInt_inj.mp h9)
    refine k_X11_isTape  m0   (fun r5 σ4 mσ4 cσ4 plσ4 phσ4 (pσ4_0 : (r5.toInt = 1 ∧ 0 ≤ a3.toInt ∧ a3.toInt ≤ 5) ∨ (r5.toInt = 0 ∧ (a3.toInt < 0 ∨ 5 < a3.toInt))) => ?_)
    obtain rfl := FX_nil cσ4
    refine ⟨?_, ?_⟩
    · intro q_5
      have b_6 : ¬ r5.toInt = 0 := fun h9 => q_5 (Int32.toInt_inj.mp h9)
      have w_7 := Int32.toInt_lt a1
      have w_8 := Int32.le_toInt a1
      have hv_9 : vp_in a1 6 := vp_in_iff.mpr ⟨by omega, by omega⟩
      refine ⟨hv_9, ?_⟩
      have ec_10 := cl_eq (x := a1) (by omega)
      have w_11 := Int32.toInt_lt a3
      have w_12 := Int32.le_toInt a3
      have hv_13 : vp_in a3 6 := vp_in_iff.mpr ⟨by omega, by omega⟩
      refine ⟨hv_13, ?_⟩
      have ec_14 := cl_eq (x := a3) (by omega)
      refine k_X9_isEmpty (isT_of hv_9) m0   (fun r10 σ9 mσ9 cσ9 plσ9 phσ9 => ?_)
      obtain rfl := FX_nil cσ9
      refine ⟨?_, ?_⟩
      · intro q_15
        have b_16 : ¬ r10.toInt = 0 := fun h9 => q_15 (Int32.toInt_inj.mp h9)
        have z_17 : (-11 : Int32).toInt = -11 := rfl
        exact h9ret (-11 : Int32) σ0 m0 f0
      · intro q_15
        have b_18 : r10.toInt = 0 := congrArg Int32.toInt q_15
        refine k_X9_isEmpty (isT_of hv_13) m0   (fun r13 σ12 mσ12 cσ12 plσ12 phσ12 => ?_)
        obtain rfl := FX_nil cσ12
        refine ⟨?_, ?_⟩
        · intro q_19
          have b_20 : r13.toInt = 0 := congrArg Int32.toInt q_19
          refine ⟨?_, ?_⟩
          · intro q_21
            have b_22 : (gi σ0 (52 + (2 * a1.toNatClampNeg)) 1).toInt = (gi σ0 (52 + (2 * a3.toNatClampNeg)) 1).toInt := congrArg Int32.toInt q_21
            have tz_23 := XI_c1 m0 (lim_T0_2 (isT_of hv_9))
            refine k_X9_hasPart (isT_of hv_9) m0   (fun r17 σ16 mσ16 cσ16 plσ16 phσ16 (pσ16_0 : (r17.toInt = 1 ∧ 0 ≤ a2.toInt ∧ 0 ≤ a5.toInt ∧ a2.toInt + a5.toInt ≤ (gi σ0 (52 + 2 * a1.toNatClampNeg) 2).toInt) ∨ r17.toInt = 0) => ?_)
            obtain rfl := FX_nil cσ16
            refine ⟨?_, ?_⟩
            · intro q_24
              have b_25 : r17.toInt = 0 := congrArg Int32.toInt q_24
              have z_26 : (-13 : Int32).toInt = -13 := rfl
              exact h9ret (-13 : Int32) σ0 m0 f0
            · intro q_24
              have b_27 : ¬ r17.toInt = 0 := fun h9 => q_24 (Int32.toInt_inj.mp h9)
              have tz_28 := XI_c1 m0 (lim_T0_2 (isT_of hv_13))
              refine k_X9_hasPart (isT_of hv_13) m0   (fun r20 σ19 mσ19 cσ19 plσ19 phσ19 (pσ19_0 : (r20.toInt = 1 ∧ 0 ≤ a4.toInt ∧ 0 ≤ a5.toInt ∧ a4.toInt + a5.toInt ≤ (gi σ0 (52 + 2 * a3.toNatClampNeg) 2).toInt) ∨ r20.toInt = 0) => ?_)
              obtain rfl := FX_nil cσ19
              refine ⟨?_, ?_⟩
              · intro q_29
                have b_30 : ¬ r20.toInt = 0 := fun h9 => q_29 (Int32.toInt_inj.mp h9)
                have w_31 := Int32.toInt_lt a2
                have w_32 := Int32.le_toInt a2
                have w_33 := Int32.toInt_lt a4
                have w_34 := Int32.le_toInt a4
                have w_35 := Int32.toInt_lt a5
                have w_36 := Int32.le_toInt a5
                have z_37 := cl_eq (x := a2) (by first | decide | omega)
                have z_38 := cl_eq (x := a4) (by first | decide | omega)
                have z_39 := cl_eq (x := a5) (by first | decide | omega)
                refine ⟨⟨(fun h9 => by have h8 := Int32.lt_iff_toInt_lt.mp h9; have h7 : (0 : Int32).toInt = 0 := rfl; omega), (fun h9 => by have h8 := Int32.lt_iff_toInt_lt.mp h9; have h7 : (0 : Int32).toInt = 0 := rfl; omega), (fun h9 => by have h8 := Int32.lt_iff_toInt_lt.mp h9; have h7 : (0 : Int32).toInt = 0 := rfl; omega), by omega, by omega⟩, ?_⟩
                intro σ22 eσ22
                have mσ22 : XI (mV M) σ22 := by rw [eσ22]; exact XIs_la m0
                have fσ22 : FX (fun id => (53 ≤ id ∧ id ≤ 63)) (fun _ _ => False) σ0 σ22 := by rw [eσ22]; exact FX_sla f0 ((show (53 ≤ 52 + 2 * a3.toNatClampNeg + 1 ∧ 52 + 2 * a3.toNatClampNeg + 1 ≤ 63) from ⟨by omega, by omega⟩))
                have k_40 : (gi σ22 (52 + 2 * a1.toNatClampNeg) 1).toInt = (gi σ0 (52 + 2 * a1.toNatClampNeg) 1).toInt := by rw [eσ22]; rfl
                have k_41 : (gi σ22 (52 + 2 * a3.toNatClampNeg) 1).toInt = (gi σ0 (52 + 2 * a3.toNatClampNeg) 1).toInt := by rw [eσ22]; rfl
                exact h9ret a5 σ22 mσ22 fσ22
              · intro q_29
                have b_42 : r20.toInt = 0 := congrArg Int32.toInt q_29
                have z_43 : (-13 : Int32).toInt = -13 := rfl
                exact h9ret (-13 : Int32) σ0 m0 f0
          · intro q_21
            have b_44 : ¬ (gi σ0 (52 + (2 * a1.toNatClampNeg)) 1).toInt = (gi σ0 (52 + (2 * a3.toNatClampNeg)) 1).toInt := fun h9 => q_21 (Int32.toInt_inj.mp h9)
            have z_45 : (-12 : Int32).toInt = -12 := rfl
            exact h9ret (-12 : Int32) σ0 m0 f0
        · intro q_19
          have b_46 : ¬ r13.toInt = 0 := fun h9 => q_19 (Int32.toInt_inj.mp h9)
          have z_47 : (-11 : Int32).toInt = -11 := rfl
          exact h9ret (-11 : Int32) σ0 m0 f0
    · intro q_5
      have b_48 : r5.toInt = 0 := congrArg Int32.toInt q_5
      have z_49 : (-1 : Int32).toInt = -1 := rfl
      exact h9ret (-1 : Int32) σ0 m0 f0
set_option maxRecDepth 100000 in
set_option maxHeartbeats 4000000 in
theorem k_X11_image {l : Launch} {V : Vx} {σ0 : Sg} {Qk : Int32 → Sg → Prop} (m0 : XI V σ0) (nn_1 : NN σ0 1) (h9ret : ∀ (r : Int32) (σ' : Sg), XI V σ' → FX (fun id => id = 18 ∨ id = 19 ∨ id = 20 ∨ id = 21 ∨ id = 22 ∨ id = 23 ∨ id = 24 ∨ id = 26 ∨ id = 28 ∨ id = 30) (fun id k => (id = 0 ∧ k = 3) ∨ (id = 17 ∧ k = 1) ∨ (id = 17 ∧ k = 3) ∨ (id = 17 ∧ k = 9) ∨ (id = 17 ∧ k = 10) ∨ (id = 17 ∧ k = 11) ∨ (id = 25 ∧ k = 1) ∨ (id = 27 ∧ k = 1) ∨ (id = 29 ∧ k = 1)) σ0 σ' → (NN σ' 1) → (NN σ' 17) → ((gi σ' 17 1).toInt = (gi σ0 1 1).toInt) → ((gi σ' 17 3).toInt = (gi σ0 1 3).toInt) → ((gi σ' 17 9).toInt = (gi σ0 1 9).toInt) → ((gi σ' 25 1).toInt = (gi σ0 9 1).toInt) → Qk r σ') : K_X11_image l V σ0 Qk := by
  refine e_X11_image (fun M hl hV hN C => ?_)
  subst hl
  subst hV
  have f0 : FX (fun id => id = 18 ∨ id = 19 ∨ id = 20 ∨ id = 21 ∨ id = 22 ∨ id = 23 ∨ id = 24 ∨ id = 26 ∨ id = 28 ∨ id = 30) (fun id k => (id = 0 ∧ k = 3) ∨ (id = 17 ∧ k = 1) ∨ (id = 17 ∧ k = 3) ∨ (id = 17 ∧ k = 9) ∨ (id = 17 ∧ k = 10) ∨ (id = 17 ∧ k = 11) ∨ (id = 25 ∧ k = 1) ∨ (id = 27 ∧ k = 1) ∨ (id = 29 ∧ k = 1)) σ0 σ0 := FX_rf
  have t_1 := XI_c1 m0 (id := 1) (k := 1) (lim_C0_1 (Or.inl rfl))
  have t_2 := XI_c1 m0 (id := 1) (k := 3) (lim_C0_3 (Or.inl rfl))
  have t_3 := XI_c1 m0 (id := 1) (k := 9) (lim_C0_9 (Or.inl rfl))
  have t_4 := XI_c1 m0 (id := 17) (k := 1) (lim_C0_1 (Or.inr (Or.inl rfl)))
  have t_5 := XI_c1 m0 (id := 17) (k := 3) (lim_C0_3 (Or.inr (Or.inl rfl)))
  have t_6 := XI_c1 m0 (id := 17) (k := 9) (lim_C0_9 (Or.inr (Or.inl rfl)))
  have t_7 := XI_c1 m0 (id := 25) (k := 1) (lim_C8_1 (Or.inr (Or.inl rfl)))
  have t_8 := XI_c1 m0 (id := 9) (k := 1) (lim_C8_1 (Or.inl rfl))
  refine s_X11_image_0 C hN  ?_
  have z_9 : (1 : Int32).toInt = 1 := rfl
  refine k_X1_becomes (Or.inr (Or.inl rfl)) (Or.inl rfl) m0 nn_1 (by first | omega | assumption | rfl) (fun σ1 mσ1 cσ1 nσ1_1 nσ1_17 (pσ1_0 : (gi σ1 17 1).toInt = (gi σ0 1 1).toInt) (pσ1_1 : (gi σ1 17 3).toInt = (gi σ0 1 3).toInt) (pσ1_2 : (gi σ1 17 9).toInt = (gi σ0 1 9).toInt) (pσ1_3 : CPY σ0 σ1 17 1) => ?_)
  have fσ1 : FX (fun id => id = 18 ∨ id = 19 ∨ id = 20 ∨ id = 21 ∨ id = 22 ∨ id = 23 ∨ id = 24 ∨ id = 26 ∨ id = 28 ∨ id = 30) (fun id k => (id = 0 ∧ k = 3) ∨ (id = 17 ∧ k = 1) ∨ (id = 17 ∧ k = 3) ∨ (id = 17 ∧ k = 9) ∨ (id = 17 ∧ k = 10) ∨ (id = 17 ∧ k = 11) ∨ (id = 25 ∧ k = 1) ∨ (id = 27 ∧ k = 1) ∨ (id = 29 ∧ k = 1)) σ0 σ1 := FX_tr f0 cσ1 (fun x (h9 : x = 18 ∨ x = 19 ∨ x = 20 ∨ x = 21 ∨ x = 22 ∨ x = 23 ∨ x = 24) => h9.elim (fun e9 => (show x = 18 ∨ x = 19 ∨ x = 20 ∨ x = 21 ∨ x = 22 ∨ x = 23 ∨ x = 24 ∨ x = 26 ∨ x = 28 ∨ x = 30 from Or.inl (e9))) (fun h9 => h9.elim (fun e9 => (show x = 18 ∨ x = 19 ∨ x = 20 ∨ x = 21 ∨ x = 22 ∨ x = 23 ∨ x = 24 ∨ x = 26 ∨ x = 28 ∨ x = 30 from Or.inr (Or.inl (e9)))) (fun h9 => h9.elim (fun e9 => (show x = 18 ∨ x = 19 ∨ x = 20 ∨ x = 21 ∨ x = 22 ∨ x = 23 ∨ x = 24 ∨ x = 26 ∨ x = 28 ∨ x = 30 from Or.inr (Or.inr (Or.inl (e9))))) (fun h9 => h9.elim (fun e9 => (show x = 18 ∨ x = 19 ∨ x = 20 ∨ x = 21 ∨ x = 22 ∨ x = 23 ∨ x = 24 ∨ x = 26 ∨ x = 28 ∨ x = 30 from Or.inr (Or.inr (Or.inr (Or.inl (e9)))))) (fun h9 => h9.elim (fun e9 => (show x = 18 ∨ x = 19 ∨ x = 20 ∨ x = 21 ∨ x = 22 ∨ x = 23 ∨ x = 24 ∨ x = 26 ∨ x = 28 ∨ x = 30 from Or.inr (Or.inr (Or.inr (Or.inr (Or.inl (e9))))))) (fun h9 => h9.elim (fun e9 => (show x = 18 ∨ x = 19 ∨ x = 20 ∨ x = 21 ∨ x = 22 ∨ x = 23 ∨ x = 24 ∨ x = 26 ∨ x = 28 ∨ x = 30 from Or.inr (Or.inr (Or.inr (Or.inr (Or.inr (Or.inl (e9)))))))) (fun h9 => (show x = 18 ∨ x = 19 ∨ x = 20 ∨ x = 21 ∨ x = 22 ∨ x = 23 ∨ x = 24 ∨ x = 26 ∨ x = 28 ∨ x = 30 from Or.inr (Or.inr (Or.inr (Or.inr (Or.inr (Or.inr (Or.inl (h9))))))))))))))) (fun x k (h9 : (x = 17 ∧ k = 1) ∨ (x = 17 ∧ k = 3) ∨ (x = 17 ∧ k = 9) ∨ (x = 17 ∧ k = 10) ∨ (x = 17 ∧ k = 11)) => (show (x = 18 ∨ x = 19 ∨ x = 20 ∨ x = 21 ∨ x = 22 ∨ x = 23 ∨ x = 24 ∨ x = 26 ∨ x = 28 ∨ x = 30) ∨ ((x = 0 ∧ k = 3) ∨ (x = 17 ∧ k = 1) ∨ (x = 17 ∧ k = 3) ∨ (x = 17 ∧ k = 9) ∨ (x = 17 ∧ k = 10) ∨ (x = 17 ∧ k = 11) ∨ (x = 25 ∧ k = 1) ∨ (x = 27 ∧ k = 1) ∨ (x = 29 ∧ k = 1)) from h9.elim (fun e9 => Or.inr (show (x = 0 ∧ k = 3) ∨ (x = 17 ∧ k = 1) ∨ (x = 17 ∧ k = 3) ∨ (x = 17 ∧ k = 9) ∨ (x = 17 ∧ k = 10) ∨ (x = 17 ∧ k = 11) ∨ (x = 25 ∧ k = 1) ∨ (x = 27 ∧ k = 1) ∨ (x = 29 ∧ k = 1) from Or.inr (Or.inl (e9)))) (fun h9 => h9.elim (fun e9 => Or.inr (show (x = 0 ∧ k = 3) ∨ (x = 17 ∧ k = 1) ∨ (x = 17 ∧ k = 3) ∨ (x = 17 ∧ k = 9) ∨ (x = 17 ∧ k = 10) ∨ (x = 17 ∧ k = 11) ∨ (x = 25 ∧ k = 1) ∨ (x = 27 ∧ k = 1) ∨ (x = 29 ∧ k = 1) from Or.inr (Or.inr (Or.inl (e9))))) (fun h9 => h9.elim (fun e9 => Or.inr (show (x = 0 ∧ k = 3) ∨ (x = 17 ∧ k = 1) ∨ (x = 17 ∧ k = 3) ∨ (x = 17 ∧ k = 9) ∨ (x = 17 ∧ k = 10) ∨ (x = 17 ∧ k = 11) ∨ (x = 25 ∧ k = 1) ∨ (x = 27 ∧ k = 1) ∨ (x = 29 ∧ k = 1) from Or.inr (Or.inr (Or.inr (Or.inl (e9)))))) (fun h9 => h9.elim (fun e9 => Or.inr (show (x = 0 ∧ k = 3) ∨ (x = 17 ∧ k = 1) ∨ (x = 17 ∧ k = 3) ∨ (x = 17 ∧ k = 9) ∨ (x = 17 ∧ k = 10) ∨ (x = 17 ∧ k = 11) ∨ (x = 25 ∧ k = 1) ∨ (x = 27 ∧ k = 1) ∨ (x = 29 ∧ k = 1) from Or.inr (Or.inr (Or.inr (Or.inr (Or.inl (e9))))))) (fun h9 => Or.inr (show (x = 0 ∧ k = 3) ∨ (x = 17 ∧ k = 1) ∨ (x = 17 ∧ k = 3) ∨ (x = 17 ∧ k = 9) ∨ (x = 17 ∧ k = 10) ∨ (x = 17 ∧ k = 11) ∨ (x = 25 ∧ k = 1) ∨ (x = 27 ∧ k = 1) ∨ (x = 29 ∧ k = 1) from Or.inr (Or.inr (Or.inr (Or.inr (Or.inr (Or.inl (h9)))))))))))))
  have k_10 : (gi σ1 1 1).toInt = (gi σ0 1 1).toInt := congrArg Int32.toInt (FX_i cσ1 (show ¬ (1 = 18 ∨ 1 = 19 ∨ 1 = 20 ∨ 1 = 21 ∨ 1 = 22 ∨ 1 = 23 ∨ 1 = 24) from by omega) (show ¬ ((1 = 17 ∧ 1 = 1) ∨ (1 = 17 ∧ 1 = 3) ∨ (1 = 17 ∧ 1 = 9) ∨ (1 = 17 ∧ 1 = 10) ∨ (1 = 17 ∧ 1 = 11)) from by omega))
  have k_11 : (gi σ1 1 3).toInt = (gi σ0 1 3).toInt := congrArg Int32.toInt (FX_i cσ1 (show ¬ (1 = 18 ∨ 1 = 19 ∨ 1 = 20 ∨ 1 = 21 ∨ 1 = 22 ∨ 1 = 23 ∨ 1 = 24) from by omega) (show ¬ ((1 = 17 ∧ 3 = 1) ∨ (1 = 17 ∧ 3 = 3) ∨ (1 = 17 ∧ 3 = 9) ∨ (1 = 17 ∧ 3 = 10) ∨ (1 = 17 ∧ 3 = 11)) from by omega))
  have k_12 : (gi σ1 1 9).toInt = (gi σ0 1 9).toInt := congrArg Int32.toInt (FX_i cσ1 (show ¬ (1 = 18 ∨ 1 = 19 ∨ 1 = 20 ∨ 1 = 21 ∨ 1 = 22 ∨ 1 = 23 ∨ 1 = 24) from by omega) (show ¬ ((1 = 17 ∧ 9 = 1) ∨ (1 = 17 ∧ 9 = 3) ∨ (1 = 17 ∧ 9 = 9) ∨ (1 = 17 ∧ 9 = 10) ∨ (1 = 17 ∧ 9 = 11)) from by omega))
  have t_13 := XI_c1 mσ1 (id := 17) (k := 1) (lim_C0_1 (Or.inr (Or.inl rfl)))
  have t_14 := XI_c1 mσ1 (id := 17) (k := 3) (lim_C0_3 (Or.inr (Or.inl rfl)))
  have t_15 := XI_c1 mσ1 (id := 17) (k := 9) (lim_C0_9 (Or.inr (Or.inl rfl)))
  have k_16 : (gi σ1 25 1).toInt = (gi σ0 25 1).toInt := congrArg Int32.toInt (FX_i cσ1 (show ¬ (25 = 18 ∨ 25 = 19 ∨ 25 = 20 ∨ 25 = 21 ∨ 25 = 22 ∨ 25 = 23 ∨ 25 = 24) from by omega) (show ¬ ((25 = 17 ∧ 1 = 1) ∨ (25 = 17 ∧ 1 = 3) ∨ (25 = 17 ∧ 1 = 9) ∨ (25 = 17 ∧ 1 = 10) ∨ (25 = 17 ∧ 1 = 11)) from by omega))
  have k_17 : (gi σ1 9 1).toInt = (gi σ0 9 1).toInt := congrArg Int32.toInt (FX_i cσ1 (show ¬ (9 = 18 ∨ 9 = 19 ∨ 9 = 20 ∨ 9 = 21 ∨ 9 = 22 ∨ 9 = 23 ∨ 9 = 24) from by omega) (show ¬ ((9 = 17 ∧ 1 = 1) ∨ (9 = 17 ∧ 1 = 3) ∨ (9 = 17 ∧ 1 = 9) ∨ (9 = 17 ∧ 1 = 10) ∨ (9 = 17 ∧ 1 = 11)) from by omega))
  refine k_X1_becomesTold (Or.inr (Or.inl rfl)) (Or.inl rfl) mσ1  (by first | omega | assumption | rfl) (fun σ2 mσ2 cσ2 (pσ2_0 : (gi σ2 25 1).toInt = (gi σ1 9 1).toInt) (pσ2_1 : (gi σ2 27 1).toInt = (gi σ1 11 1).toInt) (pσ2_2 : (gi σ2 29 1).toInt = (gi σ1 13 1).toInt) => ?_)
  have fσ2 : FX (fun id => id = 18 ∨ id = 19 ∨ id = 20 ∨ id = 21 ∨ id = 22 ∨ id = 23 ∨ id = 24 ∨ id = 26 ∨ id = 28 ∨ id = 30) (fun id k => (id = 0 ∧ k = 3) ∨ (id = 17 ∧ k = 1) ∨ (id = 17 ∧ k = 3) ∨ (id = 17 ∧ k = 9) ∨ (id = 17 ∧ k = 10) ∨ (id = 17 ∧ k = 11) ∨ (id = 25 ∧ k = 1) ∨ (id = 27 ∧ k = 1) ∨ (id = 29 ∧ k = 1)) σ0 σ2 := FX_tr fσ1 cσ2 (fun x (h9 : x = 28 ∨ x = 30 ∨ x = 26) => h9.elim (fun e9 => (show x = 18 ∨ x = 19 ∨ x = 20 ∨ x = 21 ∨ x = 22 ∨ x = 23 ∨ x = 24 ∨ x = 26 ∨ x = 28 ∨ x = 30 from Or.inr (Or.inr (Or.inr (Or.inr (Or.inr (Or.inr (Or.inr (Or.inr (Or.inl (e9))))))))))) (fun h9 => h9.elim (fun e9 => (show x = 18 ∨ x = 19 ∨ x = 20 ∨ x = 21 ∨ x = 22 ∨ x = 23 ∨ x = 24 ∨ x = 26 ∨ x = 28 ∨ x = 30 from Or.inr (Or.inr (Or.inr (Or.inr (Or.inr (Or.inr (Or.inr (Or.inr (Or.inr (e9))))))))))) (fun h9 => (show x = 18 ∨ x = 19 ∨ x = 20 ∨ x = 21 ∨ x = 22 ∨ x = 23 ∨ x = 24 ∨ x = 26 ∨ x = 28 ∨ x = 30 from Or.inr (Or.inr (Or.inr (Or.inr (Or.inr (Or.inr (Or.inr (Or.inl (h9)))))))))))) (fun x k (h9 : (x = 27 ∧ k = 1) ∨ (x = 29 ∧ k = 1) ∨ (x = 25 ∧ k = 1)) => (show (x = 18 ∨ x = 19 ∨ x = 20 ∨ x = 21 ∨ x = 22 ∨ x = 23 ∨ x = 24 ∨ x = 26 ∨ x = 28 ∨ x = 30) ∨ ((x = 0 ∧ k = 3) ∨ (x = 17 ∧ k = 1) ∨ (x = 17 ∧ k = 3) ∨ (x = 17 ∧ k = 9) ∨ (x = 17 ∧ k = 10) ∨ (x = 17 ∧ k = 11) ∨ (x = 25 ∧ k = 1) ∨ (x = 27 ∧ k = 1) ∨ (x = 29 ∧ k = 1)) from h9.elim (fun e9 => Or.inr (show (x = 0 ∧ k = 3) ∨ (x = 17 ∧ k = 1) ∨ (x = 17 ∧ k = 3) ∨ (x = 17 ∧ k = 9) ∨ (x = 17 ∧ k = 10) ∨ (x = 17 ∧ k = 11) ∨ (x = 25 ∧ k = 1) ∨ (x = 27 ∧ k = 1) ∨ (x = 29 ∧ k = 1) from Or.inr (Or.inr (Or.inr (Or.inr (Or.inr (Or.inr (Or.inr (Or.inl (e9)))))))))) (fun h9 => h9.elim (fun e9 => Or.inr (show (x = 0 ∧ k = 3) ∨ (x = 17 ∧ k = 1) ∨ (x = 17 ∧ k = 3) ∨ (x = 17 ∧ k = 9) ∨ (x = 17 ∧ k = 10) ∨ (x = 17 ∧ k = 11) ∨ (x = 25 ∧ k = 1) ∨ (x = 27 ∧ k = 1) ∨ (x = 29 ∧ k = 1) from Or.inr (Or.inr (Or.inr (Or.inr (Or.inr (Or.inr (Or.inr (Or.inr (e9)))))))))) (fun h9 => Or.inr (show (x = 0 ∧ k = 3) ∨ (x = 17 ∧ k = 1) ∨ (x = 17 ∧ k = 3) ∨ (x = 17 ∧ k = 9) ∨ (x = 17 ∧ k = 10) ∨ (x = 17 ∧ k = 11) ∨ (x = 25 ∧ k = 1) ∨ (x = 27 ∧ k = 1) ∨ (x = 29 ∧ k = 1) from Or.inr (Or.inr (Or.inr (Or.inr (Or.inr (Or.inr (Or.inl (h9))))))))))))
  have k_18 : (gi σ2 1 1).toInt = (gi σ1 1 1).toInt := congrArg Int32.toInt (FX_i cσ2 (show ¬ (1 = 28 ∨ 1 = 30 ∨ 1 = 26) from by omega) (show ¬ ((1 = 27 ∧ 1 = 1) ∨ (1 = 29 ∧ 1 = 1) ∨ (1 = 25 ∧ 1 = 1)) from by omega))
  have k_19 : (gi σ2 1 3).toInt = (gi σ1 1 3).toInt := congrArg Int32.toInt (FX_i cσ2 (show ¬ (1 = 28 ∨ 1 = 30 ∨ 1 = 26) from by omega) (show ¬ ((1 = 27 ∧ 3 = 1) ∨ (1 = 29 ∧ 3 = 1) ∨ (1 = 25 ∧ 3 = 1)) from by omega))
  have k_20 : (gi σ2 1 9).toInt = (gi σ1 1 9).toInt := congrArg Int32.toInt (FX_i cσ2 (show ¬ (1 = 28 ∨ 1 = 30 ∨ 1 = 26) from by omega) (show ¬ ((1 = 27 ∧ 9 = 1) ∨ (1 = 29 ∧ 9 = 1) ∨ (1 = 25 ∧ 9 = 1)) from by omega))
  have k_21 : (gi σ2 17 1).toInt = (gi σ1 17 1).toInt := congrArg Int32.toInt (FX_i cσ2 (show ¬ (17 = 28 ∨ 17 = 30 ∨ 17 = 26) from by omega) (show ¬ ((17 = 27 ∧ 1 = 1) ∨ (17 = 29 ∧ 1 = 1) ∨ (17 = 25 ∧ 1 = 1)) from by omega))
  have k_22 : (gi σ2 17 3).toInt = (gi σ1 17 3).toInt := congrArg Int32.toInt (FX_i cσ2 (show ¬ (17 = 28 ∨ 17 = 30 ∨ 17 = 26) from by omega) (show ¬ ((17 = 27 ∧ 3 = 1) ∨ (17 = 29 ∧ 3 = 1) ∨ (17 = 25 ∧ 3 = 1)) from by omega))
  have k_23 : (gi σ2 17 9).toInt = (gi σ1 17 9).toInt := congrArg Int32.toInt (FX_i cσ2 (show ¬ (17 = 28 ∨ 17 = 30 ∨ 17 = 26) from by omega) (show ¬ ((17 = 27 ∧ 9 = 1) ∨ (17 = 29 ∧ 9 = 1) ∨ (17 = 25 ∧ 9 = 1)) from by omega))
  have t_24 := XI_c1 mσ2 (id := 25) (k := 1) (lim_C8_1 (Or.inr (Or.inl rfl)))
  have k_25 : (gi σ2 9 1).toInt = (gi σ1 9 1).toInt := congrArg Int32.toInt (FX_i cσ2 (show ¬ (9 = 28 ∨ 9 = 30 ∨ 9 = 26) from by omega) (show ¬ ((9 = 27 ∧ 1 = 1) ∨ (9 = 29 ∧ 1 = 1) ∨ (9 = 25 ∧ 1 = 1)) from by omega))
  have nσ2_1 : NN σ2 1 := NN_fx nσ1_1 cσ2 (show ¬ (1 = 28 ∨ 1 = 30 ∨ 1 = 26) from by omega) (show ¬ (2 = 28 ∨ 2 = 30 ∨ 2 = 26) from by omega) (show ¬ (3 = 28 ∨ 3 = 30 ∨ 3 = 26) from by omega) (show ¬ ((1 = 27 ∧ 1 = 1) ∨ (1 = 29 ∧ 1 = 1) ∨ (1 = 25 ∧ 1 = 1)) from by omega) (show ¬ ((1 = 27 ∧ 3 = 1) ∨ (1 = 29 ∧ 3 = 1) ∨ (1 = 25 ∧ 3 = 1)) from by omega) (fun k (h9 : (2 = 27 ∧ k = 1) ∨ (2 = 29 ∧ k = 1) ∨ (2 = 25 ∧ k = 1)) => by omega) (fun k (h9 : (3 = 27 ∧ k = 1) ∨ (3 = 29 ∧ k = 1) ∨ (3 = 25 ∧ k = 1)) => by omega)
  have nσ2_17 : NN σ2 17 := NN_fx nσ1_17 cσ2 (show ¬ (17 = 28 ∨ 17 = 30 ∨ 17 = 26) from by omega) (show ¬ (18 = 28 ∨ 18 = 30 ∨ 18 = 26) from by omega) (show ¬ (19 = 28 ∨ 19 = 30 ∨ 19 = 26) from by omega) (show ¬ ((17 = 27 ∧ 1 = 1) ∨ (17 = 29 ∧ 1 = 1) ∨ (17 = 25 ∧ 1 = 1)) from by omega) (show ¬ ((17 = 27 ∧ 3 = 1) ∨ (17 = 29 ∧ 3 = 1) ∨ (17 = 25 ∧ 3 = 1)) from by omega) (fun k (h9 : (18 = 27 ∧ k = 1) ∨ (18 = 29 ∧ k = 1) ∨ (18 = 25 ∧ k = 1)) => by omega) (fun k (h9 : (19 = 27 ∧ k = 1) ∨ (19 = 29 ∧ k = 1) ∨ (19 = 25 ∧ k = 1)) => by omega)
  intro σ3 eσ3
  have mσ3 : XI (mV M) σ3 := by rw [eσ3]; exact XIs_b mσ2 (rfl) (by omega) (by omega)
  have fσ3 : FX (fun id => id = 18 ∨ id = 19 ∨ id = 20 ∨ id = 21 ∨ id = 22 ∨ id = 23 ∨ id = 24 ∨ id = 26 ∨ id = 28 ∨ id = 30) (fun id k => (id = 0 ∧ k = 3) ∨ (id = 17 ∧ k = 1) ∨ (id = 17 ∧ k = 3) ∨ (id = 17 ∧ k = 9) ∨ (id = 17 ∧ k = 10) ∨ (id = 17 ∧ k = 11) ∨ (id = 25 ∧ k = 1) ∨ (id = 27 ∧ k = 1) ∨ (id = 29 ∧ k = 1)) σ0 σ3 := by rw [eσ3]; exact FX_si fσ2 (Or.inr (show (0 = 0 ∧ 3 = 3) ∨ (0 = 17 ∧ 3 = 1) ∨ (0 = 17 ∧ 3 = 3) ∨ (0 = 17 ∧ 3 = 9) ∨ (0 = 17 ∧ 3 = 10) ∨ (0 = 17 ∧ 3 = 11) ∨ (0 = 25 ∧ 3 = 1) ∨ (0 = 27 ∧ 3 = 1) ∨ (0 = 29 ∧ 3 = 1) from Or.inl (⟨rfl, rfl⟩)))
  have k_26 : (gi σ3 1 1).toInt = (gi σ2 1 1).toInt := by rw [eσ3]; exact congrArg Int32.toInt (gi_si_ne (Or.inl (by omega)))
  have k_27 : (gi σ3 1 3).toInt = (gi σ2 1 3).toInt := by rw [eσ3]; exact congrArg Int32.toInt (gi_si_ne (Or.inl (by omega)))
  have k_28 : (gi σ3 1 9).toInt = (gi σ2 1 9).toInt := by rw [eσ3]; exact congrArg Int32.toInt (gi_si_ne (Or.inl (by omega)))
  have k_29 : (gi σ3 17 1).toInt = (gi σ2 17 1).toInt := by rw [eσ3]; exact congrArg Int32.toInt (gi_si_ne (Or.inl (by omega)))
  have k_30 : (gi σ3 17 3).toInt = (gi σ2 17 3).toInt := by rw [eσ3]; exact congrArg Int32.toInt (gi_si_ne (Or.inl (by omega)))
  have k_31 : (gi σ3 17 9).toInt = (gi σ2 17 9).toInt := by rw [eσ3]; exact congrArg Int32.toInt (gi_si_ne (Or.inl (by omega)))
  have k_32 : (gi σ3 25 1).toInt = (gi σ2 25 1).toInt := by rw [eσ3]; exact congrArg Int32.toInt (gi_si_ne (Or.inl (by omega)))
  have k_33 : (gi σ3 9 1).toInt = (gi σ2 9 1).toInt := by rw [eσ3]; exact congrArg Int32.toInt (gi_si_ne (Or.inl (by omega)))
  have nσ3_1 : NN σ3 1 := by rw [eσ3]; exact NN_si nσ2_1 (by omega) (fun h9 => absurd h9 (by omega))
  have nσ3_17 : NN σ3 17 := by rw [eσ3]; exact NN_si nσ2_17 (by omega) (fun h9 => absurd h9 (by omega))
  have t_34 := XI_c1 mσ3 (id := 1) (k := 1) (lim_C0_1 (Or.inl rfl))
  exact h9ret (gi σ3 1 1) σ3 mσ3 fσ3 nσ3_1 nσ3_17 (by first | omega | assumption | rfl) (by first | omega | assumption | rfl) (by first | omega | assumption | rfl) (by first | omega | assumption | rfl)
set_option maxRecDepth 100000 in
set_option maxHeartbeats 4000000 in
theorem k_X11_undo {l : Launch} {V : Vx} {σ0 : Sg} {Qk : Int32 → Sg → Prop} (m0 : XI V σ0) (nn_1 : NN σ0 1) (nn_17 : NN σ0 17) (pre0 : (gi σ0 1 9).toInt ≤ 9999) (pre1 : (gi σ0 17 9).toInt ≤ 9999) (pre2 : (gi σ0 1 3).toInt = (gi σ0 1 1).toInt) (pre3 : (gi σ0 17 3).toInt = (gi σ0 17 1).toInt) (pre4 : (gi σ0 9 1).toInt % 3 = 0) (pre5 : (gi σ0 25 1).toInt % 3 = 0) (h9ret : ∀ (r : Int32) (σ' : Sg), XI V σ' → FX (fun id => id = 10 ∨ id = 12 ∨ id = 14 ∨ id = 2 ∨ id = 3 ∨ id = 4 ∨ id = 5 ∨ id = 6 ∨ id = 7 ∨ id = 8) (fun id k => (id = 1 ∧ k = 1) ∨ (id = 1 ∧ k = 3) ∨ (id = 1 ∧ k = 9) ∨ (id = 1 ∧ k = 10) ∨ (id = 1 ∧ k = 11) ∨ (id = 11 ∧ k = 1) ∨ (id = 13 ∧ k = 1) ∨ (id = 9 ∧ k = 1)) σ0 σ' → (NN σ' 1) → (NN σ' 17) → ((gi σ' 1 9).toInt ≤ 9999) → ((gi σ' 1 3).toInt = (gi σ' 1 1).toInt) → ((gi σ' 9 1).toInt % 3 = 0) → Qk r σ') : K_X11_undo l V σ0 Qk := by
  refine e_X11_undo (fun M hl hV hN C => ?_)
  subst hl
  subst hV
  have f0 : FX (fun id => id = 10 ∨ id = 12 ∨ id = 14 ∨ id = 2 ∨ id = 3 ∨ id = 4 ∨ id = 5 ∨ id = 6 ∨ id = 7 ∨ id = 8) (fun id k => (id = 1 ∧ k = 1) ∨ (id = 1 ∧ k = 3) ∨ (id = 1 ∧ k = 9) ∨ (id = 1 ∧ k = 10) ∨ (id = 1 ∧ k = 11) ∨ (id = 11 ∧ k = 1) ∨ (id = 13 ∧ k = 1) ∨ (id = 9 ∧ k = 1)) σ0 σ0 := FX_rf
  have t_1 := XI_c1 m0 (id := 0) (k := 3) (rfl)
  have t_2 := XI_c1 m0 (id := 1) (k := 1) (lim_C0_1 (Or.inl rfl))
  have t_3 := XI_c1 m0 (id := 1) (k := 3) (lim_C0_3 (Or.inl rfl))
  have t_4 := XI_c1 m0 (id := 1) (k := 9) (lim_C0_9 (Or.inl rfl))
  have t_5 := XI_c1 m0 (id := 17) (k := 1) (lim_C0_1 (Or.inr (Or.inl rfl)))
  have t_6 := XI_c1 m0 (id := 17) (k := 3) (lim_C0_3 (Or.inr (Or.inl rfl)))
  have t_7 := XI_c1 m0 (id := 17) (k := 9) (lim_C0_9 (Or.inr (Or.inl rfl)))
  have t_8 := XI_c1 m0 (id := 25) (k := 1) (lim_C8_1 (Or.inr (Or.inl rfl)))
  have t_9 := XI_c1 m0 (id := 9) (k := 1) (lim_C8_1 (Or.inl rfl))
  refine s_X11_undo_0 C hN  ?_
  refine ⟨?_, ?_⟩
  · intro q_10
    have b_11 : ¬ (gi σ0 0 3).toInt = 0 := fun h9 => q_10 (Int32.toInt_inj.mp h9)
    have z_12 : (17 : Int32).toInt = 17 := rfl
    refine k_X1_becomes (Or.inl rfl) (Or.inr (Or.inl rfl)) m0 nn_17 (by first | omega | assumption | rfl) (fun σ2 mσ2 cσ2 nσ2_17 nσ2_1 (pσ2_0 : (gi σ2 1 1).toInt = (gi σ0 17 1).toInt) (pσ2_1 : (gi σ2 1 3).toInt = (gi σ0 17 3).toInt) (pσ2_2 : (gi σ2 1 9).toInt = (gi σ0 17 9).toInt) (pσ2_3 : CPY σ0 σ2 1 17) => ?_)
    have fσ2 : FX (fun id => id = 10 ∨ id = 12 ∨ id = 14 ∨ id = 2 ∨ id = 3 ∨ id = 4 ∨ id = 5 ∨ id = 6 ∨ id = 7 ∨ id = 8) (fun id k => (id = 1 ∧ k = 1) ∨ (id = 1 ∧ k = 3) ∨ (id = 1 ∧ k = 9) ∨ (id = 1 ∧ k = 10) ∨ (id = 1 ∧ k = 11) ∨ (id = 11 ∧ k = 1) ∨ (id = 13 ∧ k = 1) ∨ (id = 9 ∧ k = 1)) σ0 σ2 := FX_tr f0 cσ2 (fun x (h9 : x = 2 ∨ x = 3 ∨ x = 4 ∨ x = 5 ∨ x = 6 ∨ x = 7 ∨ x = 8) => h9.elim (fun e9 => (show x = 10 ∨ x = 12 ∨ x = 14 ∨ x = 2 ∨ x = 3 ∨ x = 4 ∨ x = 5 ∨ x = 6 ∨ x = 7 ∨ x = 8 from Or.inr (Or.inr (Or.inr (Or.inl (e9)))))) (fun h9 => h9.elim (fun e9 => (show x = 10 ∨ x = 12 ∨ x = 14 ∨ x = 2 ∨ x = 3 ∨ x = 4 ∨ x = 5 ∨ x = 6 ∨ x = 7 ∨ x = 8 from Or.inr (Or.inr (Or.inr (Or.inr (Or.inl (e9))))))) (fun h9 => h9.elim (fun e9 => (show x = 10 ∨ x = 12 ∨ x = 14 ∨ x = 2 ∨ x = 3 ∨ x = 4 ∨ x = 5 ∨ x = 6 ∨ x = 7 ∨ x = 8 from Or.inr (Or.inr (Or.inr (Or.inr (Or.inr (Or.inl (e9)))))))) (fun h9 => h9.elim (fun e9 => (show x = 10 ∨ x = 12 ∨ x = 14 ∨ x = 2 ∨ x = 3 ∨ x = 4 ∨ x = 5 ∨ x = 6 ∨ x = 7 ∨ x = 8 from Or.inr (Or.inr (Or.inr (Or.inr (Or.inr (Or.inr (Or.inl (e9))))))))) (fun h9 => h9.elim (fun e9 => (show x = 10 ∨ x = 12 ∨ x = 14 ∨ x = 2 ∨ x = 3 ∨ x = 4 ∨ x = 5 ∨ x = 6 ∨ x = 7 ∨ x = 8 from Or.inr (Or.inr (Or.inr (Or.inr (Or.inr (Or.inr (Or.inr (Or.inl (e9)))))))))) (fun h9 => h9.elim (fun e9 => (show x = 10 ∨ x = 12 ∨ x = 14 ∨ x = 2 ∨ x = 3 ∨ x = 4 ∨ x = 5 ∨ x = 6 ∨ x = 7 ∨ x = 8 from Or.inr (Or.inr (Or.inr (Or.inr (Or.inr (Or.inr (Or.inr (Or.inr (Or.inl (e9))))))))))) (fun h9 => (show x = 10 ∨ x = 12 ∨ x = 14 ∨ x = 2 ∨ x = 3 ∨ x = 4 ∨ x = 5 ∨ x = 6 ∨ x = 7 ∨ x = 8 from Or.inr (Or.inr (Or.inr (Or.inr (Or.inr (Or.inr (Or.inr (Or.inr (Or.inr (h9))))))))))))))))) (fun x k (h9 : (x = 1 ∧ k = 1) ∨ (x = 1 ∧ k = 3) ∨ (x = 1 ∧ k = 9) ∨ (x = 1 ∧ k = 10) ∨ (x = 1 ∧ k = 11)) => (show (x = 10 ∨ x = 12 ∨ x = 14 ∨ x = 2 ∨ x = 3 ∨ x = 4 ∨ x = 5 ∨ x = 6 ∨ x = 7 ∨ x = 8) ∨ ((x = 1 ∧ k = 1) ∨ (x = 1 ∧ k = 3) ∨ (x = 1 ∧ k = 9) ∨ (x = 1 ∧ k = 10) ∨ (x = 1 ∧ k = 11) ∨ (x = 11 ∧ k = 1) ∨ (x = 13 ∧ k = 1) ∨ (x = 9 ∧ k = 1)) from h9.elim (fun e9 => Or.inr (show (x = 1 ∧ k = 1) ∨ (x = 1 ∧ k = 3) ∨ (x = 1 ∧ k = 9) ∨ (x = 1 ∧ k = 10) ∨ (x = 1 ∧ k = 11) ∨ (x = 11 ∧ k = 1) ∨ (x = 13 ∧ k = 1) ∨ (x = 9 ∧ k = 1) from Or.inl (e9))) (fun h9 => h9.elim (fun e9 => Or.inr (show (x = 1 ∧ k = 1) ∨ (x = 1 ∧ k = 3) ∨ (x = 1 ∧ k = 9) ∨ (x = 1 ∧ k = 10) ∨ (x = 1 ∧ k = 11) ∨ (x = 11 ∧ k = 1) ∨ (x = 13 ∧ k = 1) ∨ (x = 9 ∧ k = 1) from Or.inr (Or.inl (e9)))) (fun h9 => h9.elim (fun e9 => Or.inr (show (x = 1 ∧ k = 1) ∨ (x = 1 ∧ k = 3) ∨ (x = 1 ∧ k = 9) ∨ (x = 1 ∧ k = 10) ∨ (x = 1 ∧ k = 11) ∨ (x = 11 ∧ k = 1) ∨ (x = 13 ∧ k = 1) ∨ (x = 9 ∧ k = 1) from Or.inr (Or.inr (Or.inl (e9))))) (fun h9 => h9.elim (fun e9 => Or.inr (show (x = 1 ∧ k = 1) ∨ (x = 1 ∧ k = 3) ∨ (x = 1 ∧ k = 9) ∨ (x = 1 ∧ k = 10) ∨ (x = 1 ∧ k = 11) ∨ (x = 11 ∧ k = 1) ∨ (x = 13 ∧ k = 1) ∨ (x = 9 ∧ k = 1) from Or.inr (Or.inr (Or.inr (Or.inl (e9)))))) (fun h9 => Or.inr (show (x = 1 ∧ k = 1) ∨ (x = 1 ∧ k = 3) ∨ (x = 1 ∧ k = 9) ∨ (x = 1 ∧ k = 10) ∨ (x = 1 ∧ k = 11) ∨ (x = 11 ∧ k = 1) ∨ (x = 13 ∧ k = 1) ∨ (x = 9 ∧ k = 1) from Or.inr (Or.inr (Or.inr (Or.inr (Or.inl (h9))))))))))))
    have k_13 : (gi σ2 0 3).toInt = (gi σ0 0 3).toInt := congrArg Int32.toInt (FX_i cσ2 (show ¬ (0 = 2 ∨ 0 = 3 ∨ 0 = 4 ∨ 0 = 5 ∨ 0 = 6 ∨ 0 = 7 ∨ 0 = 8) from by omega) (show ¬ ((0 = 1 ∧ 3 = 1) ∨ (0 = 1 ∧ 3 = 3) ∨ (0 = 1 ∧ 3 = 9) ∨ (0 = 1 ∧ 3 = 10) ∨ (0 = 1 ∧ 3 = 11)) from by omega))
    have t_14 := XI_c1 mσ2 (id := 1) (k := 1) (lim_C0_1 (Or.inl rfl))
    have t_15 := XI_c1 mσ2 (id := 1) (k := 3) (lim_C0_3 (Or.inl rfl))
    have t_16 := XI_c1 mσ2 (id := 1) (k := 9) (lim_C0_9 (Or.inl rfl))
    have k_17 : (gi σ2 17 1).toInt = (gi σ0 17 1).toInt := congrArg Int32.toInt (FX_i cσ2 (show ¬ (17 = 2 ∨ 17 = 3 ∨ 17 = 4 ∨ 17 = 5 ∨ 17 = 6 ∨ 17 = 7 ∨ 17 = 8) from by omega) (show ¬ ((17 = 1 ∧ 1 = 1) ∨ (17 = 1 ∧ 1 = 3) ∨ (17 = 1 ∧ 1 = 9) ∨ (17 = 1 ∧ 1 = 10) ∨ (17 = 1 ∧ 1 = 11)) from by omega))
    have k_18 : (gi σ2 17 3).toInt = (gi σ0 17 3).toInt := congrArg Int32.toInt (FX_i cσ2 (show ¬ (17 = 2 ∨ 17 = 3 ∨ 17 = 4 ∨ 17 = 5 ∨ 17 = 6 ∨ 17 = 7 ∨ 17 = 8) from by omega) (show ¬ ((17 = 1 ∧ 3 = 1) ∨ (17 = 1 ∧ 3 = 3) ∨ (17 = 1 ∧ 3 = 9) ∨ (17 = 1 ∧ 3 = 10) ∨ (17 = 1 ∧ 3 = 11)) from by omega))
    have k_19 : (gi σ2 17 9).toInt = (gi σ0 17 9).toInt := congrArg Int32.toInt (FX_i cσ2 (show ¬ (17 = 2 ∨ 17 = 3 ∨ 17 = 4 ∨ 17 = 5 ∨ 17 = 6 ∨ 17 = 7 ∨ 17 = 8) from by omega) (show ¬ ((17 = 1 ∧ 9 = 1) ∨ (17 = 1 ∧ 9 = 3) ∨ (17 = 1 ∧ 9 = 9) ∨ (17 = 1 ∧ 9 = 10) ∨ (17 = 1 ∧ 9 = 11)) from by omega))
    have k_20 : (gi σ2 25 1).toInt = (gi σ0 25 1).toInt := congrArg Int32.toInt (FX_i cσ2 (show ¬ (25 = 2 ∨ 25 = 3 ∨ 25 = 4 ∨ 25 = 5 ∨ 25 = 6 ∨ 25 = 7 ∨ 25 = 8) from by omega) (show ¬ ((25 = 1 ∧ 1 = 1) ∨ (25 = 1 ∧ 1 = 3) ∨ (25 = 1 ∧ 1 = 9) ∨ (25 = 1 ∧ 1 = 10) ∨ (25 = 1 ∧ 1 = 11)) from by omega))
    have k_21 : (gi σ2 9 1).toInt = (gi σ0 9 1).toInt := congrArg Int32.toInt (FX_i cσ2 (show ¬ (9 = 2 ∨ 9 = 3 ∨ 9 = 4 ∨ 9 = 5 ∨ 9 = 6 ∨ 9 = 7 ∨ 9 = 8) from by omega) (show ¬ ((9 = 1 ∧ 1 = 1) ∨ (9 = 1 ∧ 1 = 3) ∨ (9 = 1 ∧ 1 = 9) ∨ (9 = 1 ∧ 1 = 10) ∨ (9 = 1 ∧ 1 = 11)) from by omega))
    refine k_X1_becomesTold (Or.inl rfl) (Or.inr (Or.inl rfl)) mσ2  (by first | omega | assumption | rfl) (fun σ3 mσ3 cσ3 (pσ3_0 : (gi σ3 9 1).toInt = (gi σ2 25 1).toInt) (pσ3_1 : (gi σ3 11 1).toInt = (gi σ2 27 1).toInt) (pσ3_2 : (gi σ3 13 1).toInt = (gi σ2 29 1).toInt) => ?_)
    have fσ3 : FX (fun id => id = 10 ∨ id = 12 ∨ id = 14 ∨ id = 2 ∨ id = 3 ∨ id = 4 ∨ id = 5 ∨ id = 6 ∨ id = 7 ∨ id = 8) (fun id k => (id = 1 ∧ k = 1) ∨ (id = 1 ∧ k = 3) ∨ (id = 1 ∧ k = 9) ∨ (id = 1 ∧ k = 10) ∨ (id = 1 ∧ k = 11) ∨ (id = 11 ∧ k = 1) ∨ (id = 13 ∧ k = 1) ∨ (id = 9 ∧ k = 1)) σ0 σ3 := FX_tr fσ2 cσ3 (fun x (h9 : x = 12 ∨ x = 14 ∨ x = 10) => h9.elim (fun e9 => (show x = 10 ∨ x = 12 ∨ x = 14 ∨ x = 2 ∨ x = 3 ∨ x = 4 ∨ x = 5 ∨ x = 6 ∨ x = 7 ∨ x = 8 from Or.inr (Or.inl (e9)))) (fun h9 => h9.elim (fun e9 => (show x = 10 ∨ x = 12 ∨ x = 14 ∨ x = 2 ∨ x = 3 ∨ x = 4 ∨ x = 5 ∨ x = 6 ∨ x = 7 ∨ x = 8 from Or.inr (Or.inr (Or.inl (e9))))) (fun h9 => (show x = 10 ∨ x = 12 ∨ x = 14 ∨ x = 2 ∨ x = 3 ∨ x = 4 ∨ x = 5 ∨ x = 6 ∨ x = 7 ∨ x = 8 from Or.inl (h9))))) (fun x k (h9 : (x = 11 ∧ k = 1) ∨ (x = 13 ∧ k = 1) ∨ (x = 9 ∧ k = 1)) => (show (x = 10 ∨ x = 12 ∨ x = 14 ∨ x = 2 ∨ x = 3 ∨ x = 4 ∨ x = 5 ∨ x = 6 ∨ x = 7 ∨ x = 8) ∨ ((x = 1 ∧ k = 1) ∨ (x = 1 ∧ k = 3) ∨ (x = 1 ∧ k = 9) ∨ (x = 1 ∧ k = 10) ∨ (x = 1 ∧ k = 11) ∨ (x = 11 ∧ k = 1) ∨ (x = 13 ∧ k = 1) ∨ (x = 9 ∧ k = 1)) from h9.elim (fun e9 => Or.inr (show (x = 1 ∧ k = 1) ∨ (x = 1 ∧ k = 3) ∨ (x = 1 ∧ k = 9) ∨ (x = 1 ∧ k = 10) ∨ (x = 1 ∧ k = 11) ∨ (x = 11 ∧ k = 1) ∨ (x = 13 ∧ k = 1) ∨ (x = 9 ∧ k = 1) from Or.inr (Or.inr (Or.inr (Or.inr (Or.inr (Or.inl (e9)))))))) (fun h9 => h9.elim (fun e9 => Or.inr (show (x = 1 ∧ k = 1) ∨ (x = 1 ∧ k = 3) ∨ (x = 1 ∧ k = 9) ∨ (x = 1 ∧ k = 10) ∨ (x = 1 ∧ k = 11) ∨ (x = 11 ∧ k = 1) ∨ (x = 13 ∧ k = 1) ∨ (x = 9 ∧ k = 1) from Or.inr (Or.inr (Or.inr (Or.inr (Or.inr (Or.inr (Or.inl (e9))))))))) (fun h9 => Or.inr (show (x = 1 ∧ k = 1) ∨ (x = 1 ∧ k = 3) ∨ (x = 1 ∧ k = 9) ∨ (x = 1 ∧ k = 10) ∨ (x = 1 ∧ k = 11) ∨ (x = 11 ∧ k = 1) ∨ (x = 13 ∧ k = 1) ∨ (x = 9 ∧ k = 1) from Or.inr (Or.inr (Or.inr (Or.inr (Or.inr (Or.inr (Or.inr (h9))))))))))))
    have k_22 : (gi σ3 0 3).toInt = (gi σ2 0 3).toInt := congrArg Int32.toInt (FX_i cσ3 (show ¬ (0 = 12 ∨ 0 = 14 ∨ 0 = 10) from by omega) (show ¬ ((0 = 11 ∧ 3 = 1) ∨ (0 = 13 ∧ 3 = 1) ∨ (0 = 9 ∧ 3 = 1)) from by omega))
    have k_23 : (gi σ3 1 1).toInt = (gi σ2 1 1).toInt := congrArg Int32.toInt (FX_i cσ3 (show ¬ (1 = 12 ∨ 1 = 14 ∨ 1 = 10) from by omega) (show ¬ ((1 = 11 ∧ 1 = 1) ∨ (1 = 13 ∧ 1 = 1) ∨ (1 = 9 ∧ 1 = 1)) from by omega))
    have k_24 : (gi σ3 1 3).toInt = (gi σ2 1 3).toInt := congrArg Int32.toInt (FX_i cσ3 (show ¬ (1 = 12 ∨ 1 = 14 ∨ 1 = 10) from by omega) (show ¬ ((1 = 11 ∧ 3 = 1) ∨ (1 = 13 ∧ 3 = 1) ∨ (1 = 9 ∧ 3 = 1)) from by omega))
    have k_25 : (gi σ3 1 9).toInt = (gi σ2 1 9).toInt := congrArg Int32.toInt (FX_i cσ3 (show ¬ (1 = 12 ∨ 1 = 14 ∨ 1 = 10) from by omega) (show ¬ ((1 = 11 ∧ 9 = 1) ∨ (1 = 13 ∧ 9 = 1) ∨ (1 = 9 ∧ 9 = 1)) from by omega))
    have k_26 : (gi σ3 17 1).toInt = (gi σ2 17 1).toInt := congrArg Int32.toInt (FX_i cσ3 (show ¬ (17 = 12 ∨ 17 = 14 ∨ 17 = 10) from by omega) (show ¬ ((17 = 11 ∧ 1 = 1) ∨ (17 = 13 ∧ 1 = 1) ∨ (17 = 9 ∧ 1 = 1)) from by omega))
    have k_27 : (gi σ3 17 3).toInt = (gi σ2 17 3).toInt := congrArg Int32.toInt (FX_i cσ3 (show ¬ (17 = 12 ∨ 17 = 14 ∨ 17 = 10) from by omega) (show ¬ ((17 = 11 ∧ 3 = 1) ∨ (17 = 13 ∧ 3 = 1) ∨ (17 = 9 ∧ 3 = 1)) from by omega))
    have k_28 : (gi σ3 17 9).toInt = (gi σ2 17 9).toInt := congrArg Int32.toInt (FX_i cσ3 (show ¬ (17 = 12 ∨ 17 = 14 ∨ 17 = 10) from by omega) (show ¬ ((17 = 11 ∧ 9 = 1) ∨ (17 = 13 ∧ 9 = 1) ∨ (17 = 9 ∧ 9 = 1)) from by omega))
    have k_29 : (gi σ3 25 1).toInt = (gi σ2 25 1).toInt := congrArg Int32.toInt (FX_i cσ3 (show ¬ (25 = 12 ∨ 25 = 14 ∨ 25 = 10) from by omega) (show ¬ ((25 = 11 ∧ 1 = 1) ∨ (25 = 13 ∧ 1 = 1) ∨ (25 = 9 ∧ 1 = 1)) from by omega))
    have t_30 := XI_c1 mσ3 (id := 9) (k := 1) (lim_C8_1 (Or.inl rfl))
    have nσ3_17 : NN σ3 17 := NN_fx nσ2_17 cσ3 (show ¬ (17 = 12 ∨ 17 = 14 ∨ 17 = 10) from by omega) (show ¬ (18 = 12 ∨ 18 = 14 ∨ 18 = 10) from by omega) (show ¬ (19 = 12 ∨ 19 = 14 ∨ 19 = 10) from by omega) (show ¬ ((17 = 11 ∧ 1 = 1) ∨ (17 = 13 ∧ 1 = 1) ∨ (17 = 9 ∧ 1 = 1)) from by omega) (show ¬ ((17 = 11 ∧ 3 = 1) ∨ (17 = 13 ∧ 3 = 1) ∨ (17 = 9 ∧ 3 = 1)) from by omega) (fun k (h9 : (18 = 11 ∧ k = 1) ∨ (18 = 13 ∧ k = 1) ∨ (18 = 9 ∧ k = 1)) => by omega) (fun k (h9 : (19 = 11 ∧ k = 1) ∨ (19 = 13 ∧ k = 1) ∨ (19 = 9 ∧ k = 1)) => by omega)
    have nσ3_1 : NN σ3 1 := NN_fx nσ2_1 cσ3 (show ¬ (1 = 12 ∨ 1 = 14 ∨ 1 = 10) from by omega) (show ¬ (2 = 12 ∨ 2 = 14 ∨ 2 = 10) from by omega) (show ¬ (3 = 12 ∨ 3 = 14 ∨ 3 = 10) from by omega) (show ¬ ((1 = 11 ∧ 1 = 1) ∨ (1 = 13 ∧ 1 = 1) ∨ (1 = 9 ∧ 1 = 1)) from by omega) (show ¬ ((1 = 11 ∧ 3 = 1) ∨ (1 = 13 ∧ 3 = 1) ∨ (1 = 9 ∧ 3 = 1)) from by omega) (fun k (h9 : (2 = 11 ∧ k = 1) ∨ (2 = 13 ∧ k = 1) ∨ (2 = 9 ∧ k = 1)) => by omega) (fun k (h9 : (3 = 11 ∧ k = 1) ∨ (3 = 13 ∧ k = 1) ∨ (3 = 9 ∧ k = 1)) => by omega)
    have t_31 := XI_c1 mσ3 (id := 1) (k := 1) (lim_C0_1 (Or.inl rfl))
    exact h9ret (gi σ3 1 1) σ3 mσ3 fσ3 nσ3_1 nσ3_17 (by first | omega | assumption | rfl) (by first | omega | assumption | rfl) (by first | omega | assumption | rfl)
  · intro q_10
    have b_32 : (gi σ0 0 3).toInt = 0 := congrArg Int32.toInt q_10
    have z_33 : (-3 : Int32).toInt = -3 := rfl
    exact h9ret (-3 : Int32) σ0 m0 f0 nn_1 nn_17 (by first | omega | assumption | rfl) (by first | omega | assumption | rfl) (by first | omega | assumption | rfl)
set_option maxRecDepth 100000 in
set_option maxHeartbeats 4000000 in
theorem k_X11_act {l : Launch} {V : Vx} {a1 : Int32} {a2 : Int32} {a3 : Int32} {σ0 : Sg} {Qk : Int32 → Sg → Prop} (m0 : XI V σ0) (nn_1 : NN σ0 1) (h9ret : ∀ (r : Int32) (σ' : Sg), XI V σ' → FX (fun id => id = 65) (fun id k => (id = 64 ∧ k = 1)) σ0 σ' → (NN σ' 1) → Qk r σ') : K_X11_act l V a1 a2 a3 σ0 Qk := by
  refine e_X11_act (fun M hl hV hN C => ?_)
  subst hl
  subst hV
  have f0 : FX (fun id => id = 65) (fun id k => (id = 64 ∧ k = 1)) σ0 σ0 := FX_rf
  have t_1 := XI_c1 m0 (id := 1) (k := 1) (lim_C0_1 (Or.inl rfl))
  have t_2 := XI_c1 m0 (lim_N (Or.inr (Or.inr (Or.inr (Or.inr (Or.inr (Or.inr (Or.inr (Or.inr (Or.inr (rfl)))))))))))
  have t_3 := nl_le (Or.inr (Or.inr (Or.inr (Or.inr (Or.inr (Or.inr (Or.inr (Or.inr (Or.inr (rfl))))))))))
  refine s_X11_act_0 C hN  ?_
  intro σ1 eσ1
  have z_4 : (0 : Int32).toInt = 0 := rfl
  have mσ1 : XI (mV M) σ1 := by rw [eσ1]; exact XIs_b m0 (lim_N (Or.inr (Or.inr (Or.inr (Or.inr (Or.inr (Or.inr (Or.inr (Or.inr (Or.inr (rfl))))))))))) (by omega) (by omega)
  have fσ1 : FX (fun id => id = 65) (fun id k => (id = 64 ∧ k = 1)) σ0 σ1 := by rw [eσ1]; exact FX_si f0 (Or.inr (show (64 = 64 ∧ 1 = 1) from ⟨rfl, rfl⟩))
  have k_5 : (gi σ1 1 1).toInt = (gi σ0 1 1).toInt := by rw [eσ1]; exact congrArg Int32.toInt (gi_si_ne (Or.inl (by omega)))
  have k_6 : (gi σ1 64 1).toInt = 0 := by rw [eσ1]; exact congrArg Int32.toInt gi_si_eq
  have nσ1_1 : NN σ1 1 := by rw [eσ1]; exact NN_si nn_1 (by omega) (fun h9 => absurd h9 (by omega))
  refine k_X11_isMower  mσ1   (fun r3 σ2 mσ2 cσ2 plσ2 phσ2 (pσ2_0 : (r3.toInt = 1 ∧ 0 ≤ a1.toInt ∧ a1.toInt < (gi σ1 1 1).toInt) ∨ (r3.toInt = 0 ∧ (a1.toInt < 0 ∨ (gi σ1 1 1).toInt ≤ a1.toInt))) => ?_)
  obtain rfl := FX_nil cσ2
  have t_7 := XI_c1 mσ1 (id := 1) (k := 1) (lim_C0_1 (Or.inl rfl))
  have t_8 := XI_c1 mσ1 (lim_N (Or.inr (Or.inr (Or.inr (Or.inr (Or.inr (Or.inr (Or.inr (Or.inr (Or.inr (rfl)))))))))))
  have t_9 := nl_le (Or.inr (Or.inr (Or.inr (Or.inr (Or.inr (Or.inr (Or.inr (Or.inr (Or.inr (rfl))))))))))
  refine ⟨?_, ?_⟩
  · intro q_10
    have b_11 : ¬ r3.toInt = 0 := fun h9 => q_10 (Int32.toInt_inj.mp h9)
    have w_12 := Int32.toInt_lt a1
    have w_13 := Int32.le_toInt a1
    have hv_14 : vp_in a1 6 := vp_in_iff.mpr ⟨by omega, by omega⟩
    have ec_15 := cl_eq (x := a1) (by omega)
    obtain ⟨μ6, ci6, eμ6, sμ6, hμ6, lμ6⟩ := XI_mow mσ1 (Or.inl rfl) (nσ1_1.2 a1.toNatClampNeg (by omega))
    have gμ6 := kdM_ge sμ6 hμ6
    refine ⟨hv_14, μ6, ci6, eμ6, sμ6, hμ6, lμ6, ?_⟩
    refine ⟨?_, ?_, ?_, ?_⟩
    · intro q_16
      exact h9ret (0 : Int32) σ1 mσ1 fσ1 nσ1_1
    · intro q_16
      have z_17 : (64 : Int32).toInt = 64 := rfl
      refine k_KD_mowing sμ6 hμ6 lμ6 (Or.inr (Or.inr (Or.inr (Or.inr (Or.inr (Or.inr (Or.inr (Or.inr (Or.inr (rfl)))))))))) mσ1  (by first | omega | assumption | rfl) (by first | omega | assumption | rfl) (fun r9 σ8 mσ8 cσ8 (pσ8_0 : (gi σ8 64 1).toInt ≤ (gi σ1 64 1).toInt + 2) => ?_)
      have fσ8 : FX (fun id => id = 65) (fun id k => (id = 64 ∧ k = 1)) σ0 σ8 := FX_tr fσ1 cσ8 (fun x (h9 : x = 65) => (show x = 65 from h9)) (fun x k (h9 : (x = 64 ∧ k = 1)) => (show (x = 65) ∨ ((x = 64 ∧ k = 1)) from Or.inr (show (x = 64 ∧ k = 1) from h9)))
      have k_18 : (gi σ8 1 1).toInt = (gi σ1 1 1).toInt := congrArg Int32.toInt (FX_i cσ8 (show ¬ (1 = 65) from by omega) (show ¬ ((1 = 64 ∧ 1 = 1)) from by omega))
      have t_19 := XI_c1 mσ8 (lim_N (Or.inr (Or.inr (Or.inr (Or.inr (Or.inr (Or.inr (Or.inr (Or.inr (Or.inr (rfl)))))))))))
      have t_20 := nl_le (Or.inr (Or.inr (Or.inr (Or.inr (Or.inr (Or.inr (Or.inr (Or.inr (Or.inr (rfl))))))))))
      have nσ8_1 : NN σ8 1 := NN_fx nσ1_1 cσ8 (show ¬ (1 = 65) from by omega) (show ¬ (2 = 65) from by omega) (show ¬ (3 = 65) from by omega) (show ¬ ((1 = 64 ∧ 1 = 1)) from by omega) (show ¬ ((1 = 64 ∧ 3 = 1)) from by omega) (fun k (h9 : (2 = 64 ∧ k = 1)) => by omega) (fun k (h9 : (3 = 64 ∧ k = 1)) => by omega)
      exact h9ret r9 σ8 mσ8 fσ8 nσ8_1
    · intro q_16
      have z_21 : (64 : Int32).toInt = 64 := rfl
      refine k_KD_whetting sμ6 hμ6 lμ6 (Or.inr (Or.inr (Or.inr (Or.inr (Or.inr (Or.inr (Or.inr (Or.inr (Or.inr (rfl)))))))))) mσ1  (by first | omega | assumption | rfl) (by first | omega | assumption | rfl) (fun r11 σ10 mσ10 cσ10 (pσ10_0 : (gi σ10 64 1).toInt ≤ (gi σ1 64 1).toInt + 5) => ?_)
      have fσ10 : FX (fun id => id = 65) (fun id k => (id = 64 ∧ k = 1)) σ0 σ10 := FX_tr fσ1 cσ10 (fun x (h9 : x = 65) => (show x = 65 from h9)) (fun x k (h9 : (x = 64 ∧ k = 1)) => (show (x = 65) ∨ ((x = 64 ∧ k = 1)) from Or.inr (show (x = 64 ∧ k = 1) from h9)))
      have k_22 : (gi σ10 1 1).toInt = (gi σ1 1 1).toInt := congrArg Int32.toInt (FX_i cσ10 (show ¬ (1 = 65) from by omega) (show ¬ ((1 = 64 ∧ 1 = 1)) from by omega))
      have t_23 := XI_c1 mσ10 (lim_N (Or.inr (Or.inr (Or.inr (Or.inr (Or.inr (Or.inr (Or.inr (Or.inr (Or.inr (rfl)))))))))))
      have t_24 := nl_le (Or.inr (Or.inr (Or.inr (Or.inr (Or.inr (Or.inr (Or.inr (Or.inr (Or.inr (rfl))))))))))
      have nσ10_1 : NN σ10 1 := NN_fx nσ1_1 cσ10 (show ¬ (1 = 65) from by omega) (show ¬ (2 = 65) from by omega) (show ¬ (3 = 65) from by omega) (show ¬ ((1 = 64 ∧ 1 = 1)) from by omega) (show ¬ ((1 = 64 ∧ 3 = 1)) from by omega) (fun k (h9 : (2 = 64 ∧ k = 1)) => by omega) (fun k (h9 : (3 = 64 ∧ k = 1)) => by omega)
      exact h9ret r11 σ10 mσ10 fσ10 nσ10_1
    · intro q_16
      have z_25 : (64 : Int32).toInt = 64 := rfl
      refine k_KD_telling sμ6 hμ6 lμ6 (Or.inr (Or.inr (Or.inr (Or.inr (Or.inr (Or.inr (Or.inr (Or.inr (Or.inr (rfl)))))))))) mσ1  (by first | omega | assumption | rfl) (by first | omega | assumption | rfl) (fun r13 σ12 mσ12 cσ12 (pσ12_0 : (gi σ12 64 1).toInt ≤ (gi σ1 64 1).toInt + 12) => ?_)
      have fσ12 : FX (fun id => id = 65) (fun id k => (id = 64 ∧ k = 1)) σ0 σ12 := FX_tr fσ1 cσ12 (fun x (h9 : x = 65) => (show x = 65 from h9)) (fun x k (h9 : (x = 64 ∧ k = 1)) => (show (x = 65) ∨ ((x = 64 ∧ k = 1)) from Or.inr (show (x = 64 ∧ k = 1) from h9)))
      have k_26 : (gi σ12 1 1).toInt = (gi σ1 1 1).toInt := congrArg Int32.toInt (FX_i cσ12 (show ¬ (1 = 65) from by omega) (show ¬ ((1 = 64 ∧ 1 = 1)) from by omega))
      have t_27 := XI_c1 mσ12 (lim_N (Or.inr (Or.inr (Or.inr (Or.inr (Or.inr (Or.inr (Or.inr (Or.inr (Or.inr (rfl)))))))))))
      have t_28 := nl_le (Or.inr (Or.inr (Or.inr (Or.inr (Or.inr (Or.inr (Or.inr (Or.inr (Or.inr (rfl))))))))))
      have nσ12_1 : NN σ12 1 := NN_fx nσ1_1 cσ12 (show ¬ (1 = 65) from by omega) (show ¬ (2 = 65) from by omega) (show ¬ (3 = 65) from by omega) (show ¬ ((1 = 64 ∧ 1 = 1)) from by omega) (show ¬ ((1 = 64 ∧ 3 = 1)) from by omega) (fun k (h9 : (2 = 64 ∧ k = 1)) => by omega) (fun k (h9 : (3 = 64 ∧ k = 1)) => by omega)
      exact h9ret r13 σ12 mσ12 fσ12 nσ12_1
  · intro q_10
    have b_29 : r3.toInt = 0 := congrArg Int32.toInt q_10
    exact h9ret (0 : Int32) σ1 mσ1 fσ1 nσ1_1
