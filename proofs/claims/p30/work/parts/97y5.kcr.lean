set_option maxRecDepth 100000 in
set_option maxHeartbeats 4000000 in
theorem kF_X1_becomesTold {l : Launch} {V : Vx} {c0 : Nat} {a1 : Nat} {σ0 : Sg} {Qk : Sg → Prop} (hc0 : isC c0) (ha1 : isC a1) (m0 : XI V σ0) (pre0 : c0 + 16 ≤ a1 ∨ a1 + 16 ≤ c0) (h9ret : ∀ (σ' : Sg), XI V σ' → FX (fun id => id = c0 + 11 ∨ id = c0 + 13 ∨ id = c0 + 9) (fun id k => (id = c0 + 10 ∧ k = 1) ∨ (id = c0 + 12 ∧ k = 1) ∨ (id = c0 + 8 ∧ k = 1)) σ0 σ' → ((gi σ' (c0 + 8) 1).toInt = (gi σ0 (a1 + 8) 1).toInt) → ((gi σ' (c0 + 10) 1).toInt = (gi σ0 (a1 + 10) 1).toInt) → ((gi σ' (c0 + 12) 1).toInt = (gi σ0 (a1 + 12) 1).toInt) → (F_X1_becomesTold c0 a1 σ0 = σ') → Qk σ') : K_X1_becomesTold l V c0 a1 σ0 Qk := by
  refine e_X1_becomesTold (fun M hl hV hN C => ?_)
  subst hl
  subst hV
  obtain ⟨R9, H0⟩ : ∃ R9, F_X1_becomesTold c0 a1 σ0 = R9 := ⟨_, rfl⟩
  have oc0 : hid (c0 = 1 ∨ c0 = 17 ∨ c0 = 33) := hc0
  have oa1 : hid (a1 = 1 ∨ a1 = 17 ∨ a1 = 33) := ha1
  have f0 : FX (fun id => id = c0 + 11 ∨ id = c0 + 13 ∨ id = c0 + 9) (fun id k => (id = c0 + 10 ∧ k = 1) ∨ (id = c0 + 12 ∧ k = 1) ∨ (id = c0 + 8 ∧ k = 1)) σ0 σ0 := FX_rf
  have t_1 := XI_c1 m0 (id := (a1 + 10)) (k := 1) (lim_C10_1 ha1)
  have t_2 := XI_c1 m0 (id := (a1 + 12)) (k := 1) (lim_C12_1 ha1)
  have t_3 := XI_c1 m0 (id := (a1 + 8)) (k := 1) (lim_C8_1 ha1)
  have t_4 := XI_c1 m0 (id := (c0 + 10)) (k := 1) (lim_C10_1 hc0)
  have t_5 := XI_c1 m0 (id := (c0 + 12)) (k := 1) (lim_C12_1 hc0)
  have t_6 := XI_c1 m0 (id := (c0 + 8)) (k := 1) (lim_C8_1 hc0)
  have hc1 : ∀ j, (j = 8 ∨ j = 10 ∨ j = 12) → capI (c0 + j) = capI (a1 + j) ∧ (c0 + j) % 16 = (a1 + j) % 16 ∧ c0 + j ≠ a1 + j := by intro j hj; rcases hj with rfl | rfl | rfl <;> rcases hc0 with rfl | rfl | rfl <;> rcases ha1 with rfl | rfl | rfl <;> first | decide | (exfalso; omega)
  have H := H0
  unfold F_X1_becomesTold at H
  refine s_X1_becomesTold_0 C hN hc0 ha1 ?_
  refine kF_X5_becomes (isN_C8 hc0) (isN_C8 ha1) m0  (by first | exact (hc1 8 (by decide +kernel)).1 | exact (hc1 10 (by decide +kernel)).1 | exact (hc1 12 (by decide +kernel)).1) (by omega) (by omega) (fun σ1 mσ1 cσ1 (pσ1_0 : (gi σ1 (c0 + 8) 1).toInt = (gi σ0 (a1 + 8) 1).toInt) hσ1 => ?_)
  replace H := f_v hσ1 H
  have fσ1 : FX (fun id => id = c0 + 11 ∨ id = c0 + 13 ∨ id = c0 + 9) (fun id k => (id = c0 + 10 ∧ k = 1) ∨ (id = c0 + 12 ∧ k = 1) ∨ (id = c0 + 8 ∧ k = 1)) σ0 σ1 := FX_tr f0 cσ1 (fun x (h9 : x = c0 + 9) => (show x = c0 + 11 ∨ x = c0 + 13 ∨ x = c0 + 9 from Or.inr (Or.inr (h9)))) (fun x k (h9 : (x = c0 + 8 ∧ k = 1)) => (show (x = c0 + 11 ∨ x = c0 + 13 ∨ x = c0 + 9) ∨ ((x = c0 + 10 ∧ k = 1) ∨ (x = c0 + 12 ∧ k = 1) ∨ (x = c0 + 8 ∧ k = 1)) from Or.inr (show (x = c0 + 10 ∧ k = 1) ∨ (x = c0 + 12 ∧ k = 1) ∨ (x = c0 + 8 ∧ k = 1) from Or.inr (Or.inr (h9)))))
  have k_7 : (gi σ1 (a1 + 10) 1).toInt = (gi σ0 (a1 + 10) 1).toInt := congrArg Int32.toInt (FX_i cσ1 (show ¬ (a1 + 10 = c0 + 9) from by first | omega | (have uoc0 := un oc0; have uoa1 := un oa1; omega)) (show ¬ ((a1 + 10 = c0 + 8 ∧ 1 = 1)) from by first | omega | (have uoc0 := un oc0; have uoa1 := un oa1; omega)))
  have k_8 : (gi σ1 (a1 + 12) 1).toInt = (gi σ0 (a1 + 12) 1).toInt := congrArg Int32.toInt (FX_i cσ1 (show ¬ (a1 + 12 = c0 + 9) from by first | omega | (have uoc0 := un oc0; have uoa1 := un oa1; omega)) (show ¬ ((a1 + 12 = c0 + 8 ∧ 1 = 1)) from by first | omega | (have uoc0 := un oc0; have uoa1 := un oa1; omega)))
  have k_9 : (gi σ1 (a1 + 8) 1).toInt = (gi σ0 (a1 + 8) 1).toInt := congrArg Int32.toInt (FX_i cσ1 (show ¬ (a1 + 8 = c0 + 9) from by first | omega | (have uoc0 := un oc0; have uoa1 := un oa1; omega)) (show ¬ ((a1 + 8 = c0 + 8 ∧ 1 = 1)) from by first | omega | (have uoc0 := un oc0; have uoa1 := un oa1; omega)))
  have k_10 : (gi σ1 (c0 + 10) 1).toInt = (gi σ0 (c0 + 10) 1).toInt := congrArg Int32.toInt (FX_i cσ1 (show ¬ (c0 + 10 = c0 + 9) from by first | omega | (have uoc0 := un oc0; have uoa1 := un oa1; omega)) (show ¬ ((c0 + 10 = c0 + 8 ∧ 1 = 1)) from by first | omega | (have uoc0 := un oc0; have uoa1 := un oa1; omega)))
  have k_11 : (gi σ1 (c0 + 12) 1).toInt = (gi σ0 (c0 + 12) 1).toInt := congrArg Int32.toInt (FX_i cσ1 (show ¬ (c0 + 12 = c0 + 9) from by first | omega | (have uoc0 := un oc0; have uoa1 := un oa1; omega)) (show ¬ ((c0 + 12 = c0 + 8 ∧ 1 = 1)) from by first | omega | (have uoc0 := un oc0; have uoa1 := un oa1; omega)))
  have t_12 := XI_c1 mσ1 (id := (c0 + 8)) (k := 1) (lim_C8_1 hc0)
  refine kF_X5_becomes (isN_C10 hc0) (isN_C10 ha1) mσ1  (by first | exact (hc1 8 (by decide +kernel)).1 | exact (hc1 10 (by decide +kernel)).1 | exact (hc1 12 (by decide +kernel)).1) (by omega) (by omega) (fun σ2 mσ2 cσ2 (pσ2_0 : (gi σ2 (c0 + 10) 1).toInt = (gi σ1 (a1 + 10) 1).toInt) hσ2 => ?_)
  replace H := f_v hσ2 H
  have fσ2 : FX (fun id => id = c0 + 11 ∨ id = c0 + 13 ∨ id = c0 + 9) (fun id k => (id = c0 + 10 ∧ k = 1) ∨ (id = c0 + 12 ∧ k = 1) ∨ (id = c0 + 8 ∧ k = 1)) σ0 σ2 := FX_tr fσ1 cσ2 (fun x (h9 : x = c0 + 11) => (show x = c0 + 11 ∨ x = c0 + 13 ∨ x = c0 + 9 from Or.inl (h9))) (fun x k (h9 : (x = c0 + 10 ∧ k = 1)) => (show (x = c0 + 11 ∨ x = c0 + 13 ∨ x = c0 + 9) ∨ ((x = c0 + 10 ∧ k = 1) ∨ (x = c0 + 12 ∧ k = 1) ∨ (x = c0 + 8 ∧ k = 1)) from Or.inr (show (x = c0 + 10 ∧ k = 1) ∨ (x = c0 + 12 ∧ k = 1) ∨ (x = c0 + 8 ∧ k = 1) from Or.inl (h9))))
  have k_13 : (gi σ2 (a1 + 10) 1).toInt = (gi σ1 (a1 + 10) 1).toInt := congrArg Int32.toInt (FX_i cσ2 (show ¬ (a1 + 10 = c0 + 11) from by first | omega | (have uoc0 := un oc0; have uoa1 := un oa1; omega)) (show ¬ ((a1 + 10 = c0 + 10 ∧ 1 = 1)) from by first | omega | (have uoc0 := un oc0; have uoa1 := un oa1; omega)))
  have k_14 : (gi σ2 (a1 + 12) 1).toInt = (gi σ1 (a1 + 12) 1).toInt := congrArg Int32.toInt (FX_i cσ2 (show ¬ (a1 + 12 = c0 + 11) from by first | omega | (have uoc0 := un oc0; have uoa1 := un oa1; omega)) (show ¬ ((a1 + 12 = c0 + 10 ∧ 1 = 1)) from by first | omega | (have uoc0 := un oc0; have uoa1 := un oa1; omega)))
  have k_15 : (gi σ2 (a1 + 8) 1).toInt = (gi σ1 (a1 + 8) 1).toInt := congrArg Int32.toInt (FX_i cσ2 (show ¬ (a1 + 8 = c0 + 11) from by first | omega | (have uoc0 := un oc0; have uoa1 := un oa1; omega)) (show ¬ ((a1 + 8 = c0 + 10 ∧ 1 = 1)) from by first | omega | (have uoc0 := un oc0; have uoa1 := un oa1; omega)))
  have t_16 := XI_c1 mσ2 (id := (c0 + 10)) (k := 1) (lim_C10_1 hc0)
  have k_17 : (gi σ2 (c0 + 12) 1).toInt = (gi σ1 (c0 + 12) 1).toInt := congrArg Int32.toInt (FX_i cσ2 (show ¬ (c0 + 12 = c0 + 11) from by first | omega | (have uoc0 := un oc0; have uoa1 := un oa1; omega)) (show ¬ ((c0 + 12 = c0 + 10 ∧ 1 = 1)) from by first | omega | (have uoc0 := un oc0; have uoa1 := un oa1; omega)))
  have k_18 : (gi σ2 (c0 + 8) 1).toInt = (gi σ1 (c0 + 8) 1).toInt := congrArg Int32.toInt (FX_i cσ2 (show ¬ (c0 + 8 = c0 + 11) from by first | omega | (have uoc0 := un oc0; have uoa1 := un oa1; omega)) (show ¬ ((c0 + 8 = c0 + 10 ∧ 1 = 1)) from by first | omega | (have uoc0 := un oc0; have uoa1 := un oa1; omega)))
  refine kF_X5_becomes (isN_C12 hc0) (isN_C12 ha1) mσ2  (by first | exact (hc1 8 (by decide +kernel)).1 | exact (hc1 10 (by decide +kernel)).1 | exact (hc1 12 (by decide +kernel)).1) (by omega) (by omega) (fun σ3 mσ3 cσ3 (pσ3_0 : (gi σ3 (c0 + 12) 1).toInt = (gi σ2 (a1 + 12) 1).toInt) hσ3 => ?_)
  replace H := f_v hσ3 H
  have fσ3 : FX (fun id => id = c0 + 11 ∨ id = c0 + 13 ∨ id = c0 + 9) (fun id k => (id = c0 + 10 ∧ k = 1) ∨ (id = c0 + 12 ∧ k = 1) ∨ (id = c0 + 8 ∧ k = 1)) σ0 σ3 := FX_tr fσ2 cσ3 (fun x (h9 : x = c0 + 13) => (show x = c0 + 11 ∨ x = c0 + 13 ∨ x = c0 + 9 from Or.inr (Or.inl (h9)))) (fun x k (h9 : (x = c0 + 12 ∧ k = 1)) => (show (x = c0 + 11 ∨ x = c0 + 13 ∨ x = c0 + 9) ∨ ((x = c0 + 10 ∧ k = 1) ∨ (x = c0 + 12 ∧ k = 1) ∨ (x = c0 + 8 ∧ k = 1)) from Or.inr (show (x = c0 + 10 ∧ k = 1) ∨ (x = c0 + 12 ∧ k = 1) ∨ (x = c0 + 8 ∧ k = 1) from Or.inr (Or.inl (h9)))))
  have k_19 : (gi σ3 (a1 + 10) 1).toInt = (gi σ2 (a1 + 10) 1).toInt := congrArg Int32.toInt (FX_i cσ3 (show ¬ (a1 + 10 = c0 + 13) from by first | omega | (have uoc0 := un oc0; have uoa1 := un oa1; omega)) (show ¬ ((a1 + 10 = c0 + 12 ∧ 1 = 1)) from by first | omega | (have uoc0 := un oc0; have uoa1 := un oa1; omega)))
  have k_20 : (gi σ3 (a1 + 12) 1).toInt = (gi σ2 (a1 + 12) 1).toInt := congrArg Int32.toInt (FX_i cσ3 (show ¬ (a1 + 12 = c0 + 13) from by first | omega | (have uoc0 := un oc0; have uoa1 := un oa1; omega)) (show ¬ ((a1 + 12 = c0 + 12 ∧ 1 = 1)) from by first | omega | (have uoc0 := un oc0; have uoa1 := un oa1; omega)))
  have k_21 : (gi σ3 (a1 + 8) 1).toInt = (gi σ2 (a1 + 8) 1).toInt := congrArg Int32.toInt (FX_i cσ3 (show ¬ (a1 + 8 = c0 + 13) from by first | omega | (have uoc0 := un oc0; have uoa1 := un oa1; omega)) (show ¬ ((a1 + 8 = c0 + 12 ∧ 1 = 1)) from by first | omega | (have uoc0 := un oc0; have uoa1 := un oa1; omega)))
  have k_22 : (gi σ3 (c0 + 10) 1).toInt = (gi σ2 (c0 + 10) 1).toInt := congrArg Int32.toInt (FX_i cσ3 (show ¬ (c0 + 10 = c0 + 13) from by first | omega | (have uoc0 := un oc0; have uoa1 := un oa1; omega)) (show ¬ ((c0 + 10 = c0 + 12 ∧ 1 = 1)) from by first | omega | (have uoc0 := un oc0; have uoa1 := un oa1; omega)))
  have t_23 := XI_c1 mσ3 (id := (c0 + 12)) (k := 1) (lim_C12_1 hc0)
  have k_24 : (gi σ3 (c0 + 8) 1).toInt = (gi σ2 (c0 + 8) 1).toInt := congrArg Int32.toInt (FX_i cσ3 (show ¬ (c0 + 8 = c0 + 13) from by first | omega | (have uoc0 := un oc0; have uoa1 := un oa1; omega)) (show ¬ ((c0 + 8 = c0 + 12 ∧ 1 = 1)) from by first | omega | (have uoc0 := un oc0; have uoa1 := un oa1; omega)))
  exact h9ret σ3 mσ3 fσ3 (by first | with_reducible assumption | with_reducible rfl | omega | assumption | rfl) (by first | with_reducible assumption | with_reducible rfl | omega | assumption | rfl) (by first | with_reducible assumption | with_reducible rfl | omega | assumption | rfl) (H0.trans H.symm)
set_option maxRecDepth 100000 in
set_option maxHeartbeats 4000000 in
theorem kF_X11_hits {l : Launch} {V : Vx} {a1 : Int32} {σ0 : Sg} {Qk : Int32 → Sg → Prop} (m0 : XI V σ0) (h9ret : ∀ (r : Int32) (σ' : Sg), XI V σ' → FX (fun id => False) (fun _ _ => False) σ0 σ' → (F_X11_hits a1 σ0 = (r, σ')) → Qk r σ') : K_X11_hits l V a1 σ0 Qk := by
  refine e_X11_hits (fun M hl hV hN C => ?_)
  subst hl
  subst hV
  obtain ⟨R9, H0⟩ : ∃ R9, F_X11_hits a1 σ0 = R9 := ⟨_, rfl⟩
  have T : ∀ n : Nat, (∀ (x1 : Int32) (x2 : Int32) (x3 : Int32) (σ : Sg), XI (mV M) σ → FX (fun id => False) (fun _ _ => False) σ0 σ → (0 ≤ x3.toInt) → (x3.toInt ≤ 6) → (LF_X11_hits n x1 x2 x3 σ = R9) → (7 - x3.toInt).toNat < n → PS M 4 [(0, .ref 0), (1, .int x1), (2, .int x2), (3, .int x3)] [] σ (0, 0)) := by
    intro n
    induction n with
    | zero => exact fun _ _ _ _ _ _ _ _ _ h8 => absurd h8 (Nat.not_lt_zero _)
    | succ n ih =>
      have ih4 := ih
      · intro x1 x2 x3 σ mσ fσ lx3 ux3 H hmu
        replace H : LB_X11_hits_4 (LF_X11_hits n) x1 x2 x3 σ = R9 := H
        unfold LB_X11_hits_4 at H
        have k_1 : (gi σ 33 1).toInt = (gi σ0 33 1).toInt := congrArg Int32.toInt (FX_i fσ id id)
        have t_2 := XI_c1 mσ (id := 33) (k := 1) (lim_C0_1 (Or.inr (Or.inr rfl)))
        refine s_X11_hits_4 C hN  ?_
        refine ⟨?_, ?_⟩
        · intro q_3
          replace H := f_t q_3 H
          have b_4 : (gi σ 33 1).toInt ≤ x3.toInt := Int32.le_iff_toInt_le.mp q_3
          exact h9ret x2 σ mσ fσ (H0.trans H.symm)
        · intro q_3
          replace H := f_f q_3 H
          have b_5 : ¬ (gi σ 33 1).toInt ≤ x3.toInt := fun h9 => q_3 (Int32.le_iff_toInt_le.mpr h9)
          refine ⟨?_, ?_⟩
          · intro q_6
            replace H := f_t q_6 H
            have w_7 := Int32.toInt_lt x1
            have w_8 := Int32.le_toInt x1
            have b_9 : x3.toInt = x1.toInt := congrArg Int32.toInt q_6
            intro v3 ev3
            replace H := f_l ev3 H
            have t_10 : (x3 + (1 : Int32)).toInt = x3.toInt + 1 := i_add (x := x3) (y := (1 : Int32)) (by show (_ : Int) ≤ x3.toInt + 1; omega) (by show x3.toInt + 1 ≤ (_ : Int); omega)
            have t_11 : v3.toInt = (x3 + (1 : Int32)).toInt := congrArg Int32.toInt ev3
            have w_12 := Int32.toInt_lt x2
            have w_13 := Int32.le_toInt x2
            exact ih4 x1 x2 v3 σ mσ fσ (by omega) (by omega) H (by omega)
          · intro q_6
            replace H := f_f q_6 H
            have w_14 := Int32.toInt_lt x1
            have w_15 := Int32.le_toInt x1
            have b_16 : ¬ x3.toInt = x1.toInt := fun h9 => q_6 (Int32.toInt_inj.mp h9)
            have hv_17 : vp_in x3 6 := vp_in_iff.mpr ⟨by omega, by omega⟩
            refine ⟨hv_17, ?_⟩
            refine ⟨hv_17, ?_⟩
            refine ⟨?_, ?_⟩
            · intro q_18
              replace H := f_t q_18 H
              have w_19 := Int32.toInt_lt (gi σ 68 x3.toNatClampNeg)
              have w_20 := Int32.le_toInt (gi σ 68 x3.toNatClampNeg)
              have w_21 := Int32.toInt_lt (gi σ 36 x3.toNatClampNeg)
              have w_22 := Int32.le_toInt (gi σ 36 x3.toNatClampNeg)
              have b_23 : (gi σ 68 x3.toNatClampNeg).toInt ≤ (gi σ 36 x3.toNatClampNeg).toInt := Int32.le_iff_toInt_le.mp q_18
              intro v7 ev7
              replace H := f_l ev7 H
              have t_24 : (x3 + (1 : Int32)).toInt = x3.toInt + 1 := i_add (x := x3) (y := (1 : Int32)) (by show (_ : Int) ≤ x3.toInt + 1; omega) (by show x3.toInt + 1 ≤ (_ : Int); omega)
              have t_25 : v7.toInt = (x3 + (1 : Int32)).toInt := congrArg Int32.toInt ev7
              have w_26 := Int32.toInt_lt x2
              have w_27 := Int32.le_toInt x2
              exact ih4 x1 x2 v7 σ mσ fσ (by omega) (by omega) H (by omega)
            · intro q_18
              replace H := f_f q_18 H
              have w_28 := Int32.toInt_lt (gi σ 68 x3.toNatClampNeg)
              have w_29 := Int32.le_toInt (gi σ 68 x3.toNatClampNeg)
              have w_30 := Int32.toInt_lt (gi σ 36 x3.toNatClampNeg)
              have w_31 := Int32.le_toInt (gi σ 36 x3.toNatClampNeg)
              have b_32 : ¬ (gi σ 68 x3.toNatClampNeg).toInt ≤ (gi σ 36 x3.toNatClampNeg).toInt := fun h9 => q_18 (Int32.le_iff_toInt_le.mpr h9)
              intro v8 ev8
              replace H := f_l ev8 H
              intro v9 ev9
              replace H := f_l ev9 H
              have t_33 : (x3 + (1 : Int32)).toInt = x3.toInt + 1 := i_add (x := x3) (y := (1 : Int32)) (by show (_ : Int) ≤ x3.toInt + 1; omega) (by show x3.toInt + 1 ≤ (_ : Int); omega)
              have t_34 : v9.toInt = (x3 + (1 : Int32)).toInt := congrArg Int32.toInt ev9
              have w_35 := Int32.toInt_lt v8
              have w_36 := Int32.le_toInt v8
              exact ih4 x1 v8 v9 σ mσ fσ (by omega) (by omega) H (by omega)
  have U4 := T 9
  have f0 : FX (fun id => False) (fun _ _ => False) σ0 σ0 := FX_rf
  have t_37 := XI_c1 m0 (id := 33) (k := 1) (lim_C0_1 (Or.inr (Or.inr rfl)))
  have H := H0
  unfold F_X11_hits at H
  refine s_X11_hits_0 C hN  ?_
  have w_38 := Int32.toInt_lt a1
  have w_39 := Int32.le_toInt a1
  have z_40 : (0 : Int32).toInt = 0 := rfl
  exact U4 a1 (0 : Int32) (0 : Int32) σ0 m0 f0 (by omega) (by omega) H (by omega)
set_option maxRecDepth 100000 in
set_option maxHeartbeats 4000000 in
theorem kF_X11_whetsIn {l : Launch} {V : Vx} {a1 : Int32} {a2 : Int32} {σ0 : Sg} {Qk : Int32 → Sg → Prop} (m0 : XI V σ0) (l_a1 : 1 ≤ a1.toInt) (u_a1 : a1.toInt ≤ 61) (h9ret : ∀ (r : Int32) (σ' : Sg), XI V σ' → FX (fun id => False) (fun _ _ => False) σ0 σ' → (0 ≤ r.toInt) → (r.toInt ≤ 1) → (F_X11_whetsIn a1 a2 σ0 = (r, σ')) → Qk r σ') : K_X11_whetsIn l V a1 a2 σ0 Qk := by
  refine e_X11_whetsIn (fun M hl hV hN C => ?_)
  subst hl
  subst hV
  obtain ⟨R9, H0⟩ : ∃ R9, F_X11_whetsIn a1 a2 σ0 = R9 := ⟨_, rfl⟩
  have f0 : FX (fun id => False) (fun _ _ => False) σ0 σ0 := FX_rf
  have H := H0
  unfold F_X11_whetsIn at H
  refine s_X11_whetsIn_0 C hN  ?_
  refine ⟨?_, ?_⟩
  · intro q_1
    replace H := f_t q_1 H
    have w_2 := Int32.toInt_lt a2
    have w_3 := Int32.le_toInt a2
    have b_4 : a2.toInt < 1 := Int32.lt_iff_toInt_lt.mp q_1
    have z_5 : (0 : Int32).toInt = 0 := rfl
    exact h9ret (0 : Int32) σ0 m0 f0 (by omega) (by omega) (H0.trans H.symm)
  · intro q_1
    replace H := f_f q_1 H
    have w_6 := Int32.toInt_lt a2
    have w_7 := Int32.le_toInt a2
    have b_8 : ¬ a2.toInt < 1 := fun h9 => q_1 (Int32.lt_iff_toInt_lt.mpr h9)
    refine ⟨?_, ?_⟩
    · intro q_9
      replace H := f_t q_9 H
      have b_10 : (16 : Int) ≤ a2.toInt := Int32.le_iff_toInt_le.mp q_9
      have z_11 : (0 : Int32).toInt = 0 := rfl
      exact h9ret (0 : Int32) σ0 m0 f0 (by omega) (by omega) (H0.trans H.symm)
    · intro q_9
      replace H := f_f q_9 H
      have b_12 : ¬ (16 : Int) ≤ a2.toInt := fun h9 => q_9 (Int32.le_iff_toInt_le.mpr h9)
      refine ⟨fun h9 => ?_, ?_⟩
      · have h9 : a2.toInt = 0 := congrArg Int32.toInt h9
        omega
      refine ⟨?_, ?_⟩
      · intro q_13
        replace H := f_f q_13 H
        try have t_14 : (a1 - ((a1 / a2) * a2)).toInt = a1.toInt - ((a1 / a2) * a2).toInt := i_sub (x := a1) (y := ((a1 / a2) * a2)) (by show (_ : Int) ≤ a1.toInt - ((a1 / a2) * a2).toInt; omega) (by show a1.toInt - ((a1 / a2) * a2).toInt ≤ (_ : Int); omega)
        have b_15 : ¬ (a1 - ((a1 / a2) * a2)).toInt = 0 := fun h9 => q_13 (Int32.toInt_inj.mp h9)
        have z_16 : (0 : Int32).toInt = 0 := rfl
        exact h9ret (0 : Int32) σ0 m0 f0 (by omega) (by omega) (H0.trans H.symm)
      · intro q_13
        replace H := f_t q_13 H
        try have t_17 : (a1 - ((a1 / a2) * a2)).toInt = a1.toInt - ((a1 / a2) * a2).toInt := i_sub (x := a1) (y := ((a1 / a2) * a2)) (by show (_ : Int) ≤ a1.toInt - ((a1 / a2) * a2).toInt; omega) (by show a1.toInt - ((a1 / a2) * a2).toInt ≤ (_ : Int); omega)
        have b_18 : (a1 - ((a1 / a2) * a2)).toInt = 0 := congrArg Int32.toInt q_13
        have z_19 : (1 : Int32).toInt = 1 := rfl
        exact h9ret (1 : Int32) σ0 m0 f0 (by omega) (by omega) (H0.trans H.symm)
set_option maxRecDepth 100000 in
set_option maxHeartbeats 4000000 in
theorem kF_X11_told {l : Launch} {V : Vx} {a1 : Int32} {σ0 : Sg} {Qk : Int32 → Sg → Prop} (m0 : XI V σ0) (h9ret : ∀ (r : Int32) (σ' : Sg), XI V σ' → FX (fun id => False) (fun _ _ => False) σ0 σ' → (F_X11_told a1 σ0 = (r, σ')) → Qk r σ') : K_X11_told l V a1 σ0 Qk := by
  refine e_X11_told (fun M hl hV hN C => ?_)
  subst hl
  subst hV
  obtain ⟨R9, H0⟩ : ∃ R9, F_X11_told a1 σ0 = R9 := ⟨_, rfl⟩
  have f0 : FX (fun id => False) (fun _ _ => False) σ0 σ0 := FX_rf
  have t_1 := XI_c1 m0 (id := 1) (k := 1) (lim_C0_1 (Or.inl rfl))
  have t_2 := XI_c1 m0 (id := 1) (k := 9) (lim_C0_9 (Or.inl rfl))
  have H := H0
  unfold F_X11_told at H
  refine s_X11_told_0 C hN  ?_
  refine ⟨?_, ?_, ?_, ?_, ?_⟩
  · intro q_3
    replace H := f_f (by omega) H
    replace H := f_f (by omega) H
    replace H := f_f (by omega) H
    replace H := f_f (by omega) H
    refine ⟨?_, ?_⟩
    · intro q_4
      replace H := f_t q_4 H
      have w_5 := Int32.toInt_lt a1
      have w_6 := Int32.le_toInt a1
      have b_7 : a1.toInt < 10 := Int32.lt_iff_toInt_lt.mp q_4
      have z_8 : (-1 : Int32).toInt = -1 := rfl
      exact h9ret (-1 : Int32) σ0 m0 f0 (H0.trans H.symm)
    · intro q_4
      replace H := f_f q_4 H
      have w_9 := Int32.toInt_lt a1
      have w_10 := Int32.le_toInt a1
      have b_11 : ¬ a1.toInt < 10 := fun h9 => q_4 (Int32.lt_iff_toInt_lt.mpr h9)
      refine ⟨?_, ?_⟩
      · intro q_12
        replace H := f_t q_12 H
        try have t_13 : (a1 - (10 : Int32)).toInt = a1.toInt - 10 := i_sub (x := a1) (y := (10 : Int32)) (by show (_ : Int) ≤ a1.toInt - 10; omega) (by show a1.toInt - 10 ≤ (_ : Int); omega)
        have b_14 : (gi σ0 1 1).toInt ≤ (a1 - (10 : Int32)).toInt := Int32.le_iff_toInt_le.mp q_12
        have z_15 : (-1 : Int32).toInt = -1 := rfl
        exact h9ret (-1 : Int32) σ0 m0 f0 (H0.trans H.symm)
      · intro q_12
        replace H := f_f q_12 H
        try have t_16 : (a1 - (10 : Int32)).toInt = a1.toInt - 10 := i_sub (x := a1) (y := (10 : Int32)) (by show (_ : Int) ≤ a1.toInt - 10; omega) (by show a1.toInt - 10 ≤ (_ : Int); omega)
        have b_17 : ¬ (gi σ0 1 1).toInt ≤ (a1 - (10 : Int32)).toInt := fun h9 => q_12 (Int32.le_iff_toInt_le.mpr h9)
        have hv_18 : vp_in (a1 - (10 : Int32)) 6 := vp_in_iff.mpr ⟨by omega, by omega⟩
        refine ⟨hv_18, ?_⟩
        exact h9ret (gi σ0 3 (a1 - (10 : Int32)).toNatClampNeg) σ0 m0 f0 (H0.trans H.symm)
  · intro q_3
    replace H := f_t q_3 H
    exact h9ret (gi σ0 1 9) σ0 m0 f0 (H0.trans H.symm)
  · intro q_3
    replace H := f_f (by omega) H
    replace H := f_t q_3 H
    obtain ⟨f5, ef5, hf5, lf5⟩ := (m0.2.1 _ (Or.inl rfl)).1
    have gf5 : hid _ := kdF_ge hf5
    refine ⟨f5, ef5, hf5, lf5, ?_⟩
    replace H := f_o ef5 H
    exact h9ret (gi σ0 f5 0) σ0 m0 f0 (H0.trans H.symm)
  · intro q_3
    replace H := f_f (by omega) H
    replace H := f_f (by omega) H
    replace H := f_t q_3 H
    obtain ⟨f6, ef6, hf6, lf6⟩ := (m0.2.1 _ (Or.inl rfl)).1
    have gf6 : hid _ := kdF_ge hf6
    refine ⟨f6, ef6, hf6, lf6, ?_⟩
    replace H := f_o ef6 H
    exact h9ret (gi σ0 f6 1) σ0 m0 f0 (H0.trans H.symm)
  · intro q_3
    replace H := f_f (by omega) H
    replace H := f_f (by omega) H
    replace H := f_f (by omega) H
    replace H := f_t q_3 H
    obtain ⟨f7, ef7, hf7, lf7⟩ := (m0.2.1 _ (Or.inl rfl)).1
    have gf7 : hid _ := kdF_ge hf7
    refine ⟨f7, ef7, hf7, lf7, ?_⟩
    replace H := f_o ef7 H
    exact h9ret (gi σ0 f7 2) σ0 m0 f0 (H0.trans H.symm)
set_option maxRecDepth 100000 in
set_option maxHeartbeats 4000000 in
theorem kF_X11_of {l : Launch} {V : Vx} {a1 : Int32} {a2 : Int32} {σ0 : Sg} {Qk : Int32 → Sg → Prop} (m0 : XI V σ0) (nn_1 : NN σ0 1) (pre0 : (gi σ0 1 3).toInt = (gi σ0 1 1).toInt) (h9ret : ∀ (r : Int32) (σ' : Sg), XI V σ' → FX (fun id => id = 16) (fun _ _ => False) σ0 σ' → (NN σ' 1) → (F_X11_of a1 a2 σ0 = (r, σ')) → Qk r σ') : K_X11_of l V a1 a2 σ0 Qk := by
  refine e_X11_of (fun M hl hV hN C => ?_)
  subst hl
  subst hV
  obtain ⟨R9, H0⟩ : ∃ R9, F_X11_of a1 a2 σ0 = R9 := ⟨_, rfl⟩
  have f0 : FX (fun id => id = 16) (fun _ _ => False) σ0 σ0 := FX_rf
  have t_1 := XI_c1 m0 (id := 1) (k := 1) (lim_C0_1 (Or.inl rfl))
  have t_2 := XI_c1 m0 (id := 1) (k := 3) (lim_C0_3 (Or.inl rfl))
  have H := H0
  unfold F_X11_of at H
  refine s_X11_of_0 C hN  ?_
  refine kF_X11_isMower  m0   (fun r2 σ1 mσ1 cσ1 plσ1 phσ1 (pσ1_0 : (r2.toInt = 1 ∧ 0 ≤ a1.toInt ∧ a1.toInt < (gi σ0 1 1).toInt) ∨ (r2.toInt = 0 ∧ (a1.toInt < 0 ∨ (gi σ0 1 1).toInt ≤ a1.toInt))) hσ1 => ?_)
  obtain rfl := FX_nil cσ1
  replace H := f_b hσ1 H
  refine ⟨?_, ?_⟩
  · intro q_3
    replace H := f_f q_3 H
    have b_4 : ¬ r2.toInt = 0 := fun h9 => q_3 (Int32.toInt_inj.mp h9)
    refine ⟨?_, ?_, ?_, ?_, ?_, ?_, ?_, ?_, ?_, ?_⟩
    · intro q_5
      replace H := f_f (by omega) H
      replace H := f_f (by omega) H
      replace H := f_f (by omega) H
      replace H := f_f (by omega) H
      replace H := f_f (by omega) H
      replace H := f_f (by omega) H
      replace H := f_f (by omega) H
      replace H := f_f (by omega) H
      replace H := f_f (by omega) H
      have z_6 : (-1 : Int32).toInt = -1 := rfl
      exact h9ret (-1 : Int32) σ0 m0 f0 nn_1 (H0.trans H.symm)
    · intro q_5
      replace H := f_t q_5 H
      have w_7 := Int32.toInt_lt a1
      have w_8 := Int32.le_toInt a1
      have hv_9 : vp_in a1 6 := vp_in_iff.mpr ⟨by omega, by omega⟩
      have ec_10 := cl_eq (x := a1) (by omega)
      obtain ⟨μ6, ci6, eμ6, sμ6, hμ6, lμ6⟩ := XI_mow m0 (Or.inl rfl) (nn_1.2 a1.toNatClampNeg (by omega))
      have gμ6 := kdM_ge sμ6 hμ6
      refine ⟨hv_9, μ6, ci6, eμ6, sμ6, hμ6, lμ6, ?_⟩
      replace H := f_m eμ6 hμ6 H
      exact h9ret (gi σ0 μ6 0) σ0 m0 f0 nn_1 (H0.trans H.symm)
    · intro q_5
      replace H := f_f (by omega) H
      replace H := f_t q_5 H
      have w_11 := Int32.toInt_lt a1
      have w_12 := Int32.le_toInt a1
      have hv_13 : vp_in a1 6 := vp_in_iff.mpr ⟨by omega, by omega⟩
      have ec_14 := cl_eq (x := a1) (by omega)
      obtain ⟨μ8, ci8, eμ8, sμ8, hμ8, lμ8⟩ := XI_mow m0 (Or.inl rfl) (nn_1.2 a1.toNatClampNeg (by omega))
      have gμ8 := kdM_ge sμ8 hμ8
      refine ⟨hv_13, μ8, ci8, eμ8, sμ8, hμ8, lμ8, ?_⟩
      replace H := f_m eμ8 hμ8 H
      exact h9ret (gi σ0 μ8 2) σ0 m0 f0 nn_1 (H0.trans H.symm)
    · intro q_5
      replace H := f_f (by omega) H
      replace H := f_f (by omega) H
      replace H := f_t q_5 H
      have w_15 := Int32.toInt_lt a1
      have w_16 := Int32.le_toInt a1
      have hv_17 : vp_in a1 6 := vp_in_iff.mpr ⟨by omega, by omega⟩
      refine ⟨hv_17, ?_⟩
      exact h9ret (gi σ0 4 a1.toNatClampNeg) σ0 m0 f0 nn_1 (H0.trans H.symm)
    · intro q_5
      replace H := f_f (by omega) H
      replace H := f_f (by omega) H
      replace H := f_f (by omega) H
      replace H := f_t q_5 H
      have w_18 := Int32.toInt_lt a1
      have w_19 := Int32.le_toInt a1
      have hv_20 : vp_in a1 6 := vp_in_iff.mpr ⟨by omega, by omega⟩
      refine ⟨hv_20, ?_⟩
      exact h9ret (gi σ0 5 a1.toNatClampNeg) σ0 m0 f0 nn_1 (H0.trans H.symm)
    · intro q_5
      replace H := f_f (by omega) H
      replace H := f_f (by omega) H
      replace H := f_f (by omega) H
      replace H := f_f (by omega) H
      replace H := f_t q_5 H
      have w_21 := Int32.toInt_lt a1
      have w_22 := Int32.le_toInt a1
      have hv_23 : vp_in a1 6 := vp_in_iff.mpr ⟨by omega, by omega⟩
      refine ⟨hv_23, ?_⟩
      exact h9ret (gi σ0 6 a1.toNatClampNeg) σ0 m0 f0 nn_1 (H0.trans H.symm)
    · intro q_5
      replace H := f_f (by omega) H
      replace H := f_f (by omega) H
      replace H := f_f (by omega) H
      replace H := f_f (by omega) H
      replace H := f_f (by omega) H
      replace H := f_t q_5 H
      have w_24 := Int32.toInt_lt a1
      have w_25 := Int32.le_toInt a1
      have hv_26 : vp_in a1 6 := vp_in_iff.mpr ⟨by omega, by omega⟩
      refine ⟨hv_26, ?_⟩
      exact h9ret (gi σ0 7 a1.toNatClampNeg) σ0 m0 f0 nn_1 (H0.trans H.symm)
    · intro q_5
      replace H := f_f (by omega) H
      replace H := f_f (by omega) H
      replace H := f_f (by omega) H
      replace H := f_f (by omega) H
      replace H := f_f (by omega) H
      replace H := f_f (by omega) H
      replace H := f_t q_5 H
      refine kF_X1_placeOf (Or.inl rfl) m0   (fun r14 σ13 mσ13 cσ13 plσ13 phσ13 (pσ13_0 : r14.toInt = 0 ∨ r14.toInt < (gi σ0 1 3).toInt) hσ13 => ?_)
      obtain rfl := FX_nil cσ13
      replace H := f_b hσ13 H
      exact h9ret r14 σ0 m0 f0 nn_1 (H0.trans H.symm)
    · intro q_5
      replace H := f_f (by omega) H
      replace H := f_f (by omega) H
      replace H := f_f (by omega) H
      replace H := f_f (by omega) H
      replace H := f_f (by omega) H
      replace H := f_f (by omega) H
      replace H := f_f (by omega) H
      replace H := f_t q_5 H
      refine kF_X1_placeOf (Or.inl rfl) m0   (fun r16 σ15 mσ15 cσ15 plσ15 phσ15 (pσ15_0 : r16.toInt = 0 ∨ r16.toInt < (gi σ0 1 3).toInt) hσ15 => ?_)
      obtain rfl := FX_nil cσ15
      replace H := f_b hσ15 H
      refine kF_X1_paceAt (Or.inl rfl) m0 nn_1 (by omega) (by omega) (by first | with_reducible assumption | with_reducible rfl | omega | assumption | rfl) (fun r18 σ17 mσ17 cσ17 nσ17_1 hσ17 => ?_)
      replace H := f_b hσ17 H
      have fσ17 : FX (fun id => id = 16) (fun _ _ => False) σ0 σ17 := FX_tr f0 cσ17 (fun x (h9 : x = 16) => (show x = 16 from h9)) (fun _ _ h9 => h9.elim)
      have k_27 : (gi σ17 1 1).toInt = (gi σ0 1 1).toInt := congrArg Int32.toInt (FX_i cσ17 (show ¬ (1 = 16) from by omega) id)
      have k_28 : (gi σ17 1 3).toInt = (gi σ0 1 3).toInt := congrArg Int32.toInt (FX_i cσ17 (show ¬ (1 = 16) from by omega) id)
      exact h9ret r18 σ17 mσ17 fσ17 nσ17_1 (H0.trans H.symm)
    · intro q_5
      replace H := f_f (by omega) H
      replace H := f_f (by omega) H
      replace H := f_f (by omega) H
      replace H := f_f (by omega) H
      replace H := f_f (by omega) H
      replace H := f_f (by omega) H
      replace H := f_f (by omega) H
      replace H := f_f (by omega) H
      replace H := f_t q_5 H
      refine kF_X1_placeOf (Or.inl rfl) m0   (fun r20 σ19 mσ19 cσ19 plσ19 phσ19 (pσ19_0 : r20.toInt = 0 ∨ r20.toInt < (gi σ0 1 3).toInt) hσ19 => ?_)
      obtain rfl := FX_nil cσ19
      replace H := f_b hσ19 H
      refine kF_X1_strideAt (Or.inl rfl) m0 nn_1 (by omega) (by omega) (by first | with_reducible assumption | with_reducible rfl | omega | assumption | rfl) (fun r22 σ21 mσ21 cσ21 nσ21_1 hσ21 => ?_)
      replace H := f_b hσ21 H
      have fσ21 : FX (fun id => id = 16) (fun _ _ => False) σ0 σ21 := FX_tr f0 cσ21 (fun x (h9 : x = 16) => (show x = 16 from h9)) (fun _ _ h9 => h9.elim)
      have k_29 : (gi σ21 1 1).toInt = (gi σ0 1 1).toInt := congrArg Int32.toInt (FX_i cσ21 (show ¬ (1 = 16) from by omega) id)
      have k_30 : (gi σ21 1 3).toInt = (gi σ0 1 3).toInt := congrArg Int32.toInt (FX_i cσ21 (show ¬ (1 = 16) from by omega) id)
      exact h9ret r22 σ21 mσ21 fσ21 nσ21_1 (H0.trans H.symm)
  · intro q_3
    replace H := f_t q_3 H
    have b_31 : r2.toInt = 0 := congrArg Int32.toInt q_3
    have z_32 : (-1 : Int32).toInt = -1 := rfl
    exact h9ret (-1 : Int32) σ0 m0 f0 nn_1 (H0.trans H.symm)
set_option maxRecDepth 100000 in
set_option maxHeartbeats 4000000 in
theorem kF_X11_set {l : Launch} {V : Vx} {a1 : Int32} {a2 : Int32} {a3 : Int32} {σ0 : Sg} {Qk : Int32 → Sg → Prop} (m0 : XI V σ0) (h9ret : ∀ (r : Int32) (σ' : Sg), XI V σ' → FX (fun id => id = 4 ∨ id = 5 ∨ id = 6 ∨ id = 7) (fun _ _ => False) σ0 σ' → (F_X11_set a1 a2 a3 σ0 = (r, σ')) → Qk r σ') : K_X11_set l V a1 a2 a3 σ0 Qk := by
  refine e_X11_set (fun M hl hV hN C => ?_)
  subst hl
  subst hV
  obtain ⟨R9, H0⟩ : ∃ R9, F_X11_set a1 a2 a3 σ0 = R9 := ⟨_, rfl⟩
  have T : ∀ n : Nat, (∀ (x1 : Int32) (x2 : Int32) (x3 : Int32) (z0 : Int32) (σ : Sg), XI (mV M) σ → FX (fun id => id = 4 ∨ id = 5 ∨ id = 6 ∨ id = 7) (fun _ _ => False) σ0 σ → (0 ≤ x1.toInt) → (x1.toInt ≤ 5) → (LF_X11_set n x1 x2 x3 z0 σ = R9) → 1 < n → PS M 41 [(0, .ref 0), (1, .int x1), (2, .int x2), (3, .int x3)] [.int z0] σ (0, 0)) := by
    intro n
    induction n with
    | zero => exact fun _ _ _ _ _ _ _ _ _ _ h8 => absurd h8 (Nat.not_lt_zero _)
    | succ n ih =>
      have ih41 := ih
      · intro x1 x2 x3 z0 σ mσ fσ lx1 ux1 H hmu
        replace H : LB_X11_set_41 (LF_X11_set n) x1 x2 x3 z0 σ = R9 := H
        unfold LB_X11_set_41 at H
        have k_1 : (gi σ 1 1).toInt = (gi σ0 1 1).toInt := congrArg Int32.toInt (FX_i fσ (show ¬ (1 = 4 ∨ 1 = 5 ∨ 1 = 6 ∨ 1 = 7) from by omega) id)
        have t_2 := XI_c1 mσ (id := 1) (k := 1) (lim_C0_1 (Or.inl rfl))
        refine s_X11_set_41 C hN  ?_
        refine ⟨?_, ?_⟩
        · intro q_3
          replace H := f_t q_3 H
          have w_4 := Int32.toInt_lt x3
          have w_5 := Int32.le_toInt x3
          have b_6 : x3.toInt < 0 := Int32.lt_iff_toInt_lt.mp q_3
          have z_7 : (-2 : Int32).toInt = -2 := rfl
          exact h9ret (-2 : Int32) σ mσ fσ (H0.trans H.symm)
        · intro q_3
          replace H := f_f q_3 H
          have w_8 := Int32.toInt_lt x3
          have w_9 := Int32.le_toInt x3
          have b_10 : ¬ x3.toInt < 0 := fun h9 => q_3 (Int32.lt_iff_toInt_lt.mpr h9)
          refine ⟨?_, ?_⟩
          · intro q_11
            replace H := f_t q_11 H
            have w_12 := Int32.toInt_lt z0
            have w_13 := Int32.le_toInt z0
            have b_14 : x3.toInt ≤ z0.toInt := Int32.le_iff_toInt_le.mp q_11
            refine kF_X1_numbersOf (Or.inl rfl) mσ (fun a4 σ3 m9 c9 p9 h9F => ?_)
            obtain rfl := FX_nil c9
            replace H := f_b h9F H
            have hk9 : kd a4 = (0, 6) ∧ a4 ∈ ids (mV M) ∧ ∀ k, lim a4 k = none := by rcases p9 with rfl | rfl | rfl | rfl <;> exact ⟨by decide +kernel, fxl (by decide +kernel), fun _ => rfl⟩
            refine ⟨6, hk9.1, hk9.2.1, ?_⟩
            have hv_15 : vp_in x1 6 := vp_in_iff.mpr ⟨by omega, by omega⟩
            refine ⟨hv_15, ?_⟩
            intro v6 ev6
            replace H := f_l ev6 H
            refine ⟨hv_15, ?_⟩
            intro σ8 eσ8
            replace H := f_l eσ8 H
            have mσ8 : XI (mV M) σ8 := by rw [eσ8]; exact XIs_n mσ (hk9.2.2 _)
            have fσ8 : FX (fun id => id = 4 ∨ id = 5 ∨ id = 6 ∨ id = 7) (fun _ _ => False) σ0 σ8 := by rw [eσ8]; exact FX_si fσ (Or.inl (show a4 = 4 ∨ a4 = 5 ∨ a4 = 6 ∨ a4 = 7 from by omega))
            have k_16 : (gi σ8 1 1).toInt = (gi σ 1 1).toInt := by rw [eσ8]; exact congrArg Int32.toInt (gi_si_ne (Or.inl (by omega)))
            exact h9ret v6 σ8 mσ8 fσ8 (H0.trans H.symm)
          · intro q_11
            replace H := f_f q_11 H
            have w_17 := Int32.toInt_lt z0
            have w_18 := Int32.le_toInt z0
            have b_19 : ¬ x3.toInt ≤ z0.toInt := fun h9 => q_11 (Int32.le_iff_toInt_le.mpr h9)
            have z_20 : (-2 : Int32).toInt = -2 := rfl
            exact h9ret (-2 : Int32) σ mσ fσ (H0.trans H.symm)
  have U41 := T 9
  have f0 : FX (fun id => id = 4 ∨ id = 5 ∨ id = 6 ∨ id = 7) (fun _ _ => False) σ0 σ0 := FX_rf
  have t_21 := XI_c1 m0 (id := 1) (k := 1) (lim_C0_1 (Or.inl rfl))
  have H := H0
  unfold F_X11_set at H
  refine s_X11_set_0 C hN  ?_
  refine kF_X11_isMower  m0   (fun r2 σ1 mσ1 cσ1 plσ1 phσ1 (pσ1_0 : (r2.toInt = 1 ∧ 0 ≤ a1.toInt ∧ a1.toInt < (gi σ0 1 1).toInt) ∨ (r2.toInt = 0 ∧ (a1.toInt < 0 ∨ (gi σ0 1 1).toInt ≤ a1.toInt))) hσ1 => ?_)
  obtain rfl := FX_nil cσ1
  replace H := f_b hσ1 H
  refine ⟨?_, ?_⟩
  · intro q_22
    replace H := f_t q_22 H
    have b_23 : r2.toInt = 0 := congrArg Int32.toInt q_22
    have z_24 : (-1 : Int32).toInt = -1 := rfl
    exact h9ret (-1 : Int32) σ0 m0 f0 (H0.trans H.symm)
  · intro q_22
    replace H := f_f q_22 H
    have b_25 : ¬ r2.toInt = 0 := fun h9 => q_22 (Int32.toInt_inj.mp h9)
    refine ⟨?_, ?_⟩
    · intro q_26
      replace H := f_t q_26 H
      have w_27 := Int32.toInt_lt a2
      have w_28 := Int32.le_toInt a2
      have b_29 : a2.toInt < 0 := Int32.lt_iff_toInt_lt.mp q_26
      have z_30 : (-1 : Int32).toInt = -1 := rfl
      exact h9ret (-1 : Int32) σ0 m0 f0 (H0.trans H.symm)
    · intro q_26
      replace H := f_f q_26 H
      have w_31 := Int32.toInt_lt a2
      have w_32 := Int32.le_toInt a2
      have b_33 : ¬ a2.toInt < 0 := fun h9 => q_26 (Int32.lt_iff_toInt_lt.mpr h9)
      refine ⟨?_, ?_⟩
      · intro q_34
        replace H := f_t q_34 H
        have b_35 : a2.toInt ≤ 3 := Int32.le_iff_toInt_le.mp q_34
        refine ⟨?_, ?_⟩
        · intro q_36
          replace H := f_f q_36 H
          have b_37 : ¬ a2.toInt = 0 := fun h9 => q_36 (Int32.toInt_inj.mp h9)
          refine ⟨?_, ?_⟩
          · intro q_38
            replace H := f_f q_38 H
            have b_39 : ¬ a2.toInt = 1 := fun h9 => q_38 (Int32.toInt_inj.mp h9)
            have w_40 := Int32.toInt_lt a1
            have w_41 := Int32.le_toInt a1
            have w_42 := Int32.toInt_lt a3
            have w_43 := Int32.le_toInt a3
            have z_44 : (99 : Int32).toInt = 99 := rfl
            exact U41 a1 a2 a3 (99 : Int32) σ0 m0 f0 (by omega) (by omega) H (by omega)
          · intro q_38
            replace H := f_t q_38 H
            have b_45 : a2.toInt = 1 := congrArg Int32.toInt q_38
            have w_46 := Int32.toInt_lt a1
            have w_47 := Int32.le_toInt a1
            have w_48 := Int32.toInt_lt a3
            have w_49 := Int32.le_toInt a3
            have z_50 : (10 : Int32).toInt = 10 := rfl
            exact U41 a1 a2 a3 (10 : Int32) σ0 m0 f0 (by omega) (by omega) H (by omega)
        · intro q_36
          replace H := f_t q_36 H
          have b_51 : a2.toInt = 0 := congrArg Int32.toInt q_36
          have w_52 := Int32.toInt_lt a1
          have w_53 := Int32.le_toInt a1
          have w_54 := Int32.toInt_lt a3
          have w_55 := Int32.le_toInt a3
          have z_56 : (9999 : Int32).toInt = 9999 := rfl
          exact U41 a1 a2 a3 (9999 : Int32) σ0 m0 f0 (by omega) (by omega) H (by omega)
      · intro q_34
        replace H := f_f q_34 H
        have b_57 : ¬ a2.toInt ≤ 3 := fun h9 => q_34 (Int32.le_iff_toInt_le.mpr h9)
        have z_58 : (-1 : Int32).toInt = -1 := rfl
        exact h9ret (-1 : Int32) σ0 m0 f0 (H0.trans H.symm)
set_option maxRecDepth 100000 in
set_option maxHeartbeats 4000000 in
theorem kF_X11_minute {l : Launch} {V : Vx} {σ0 : Sg} {Qk : Int32 → Sg → Prop} (m0 : XI V σ0) (nn_1 : NN σ0 1) (pre0 : (gi σ0 1 9).toInt ≤ 9999) (h9ret : ∀ (r : Int32) (σ' : Sg), XI V σ' → FX (fun id => id = 15 ∨ id = 16 ∨ id = 4 ∨ id = 5 ∨ id = 6 ∨ id = 7) (fun id k => (id = 1 ∧ k = 9)) σ0 σ' → (NN σ' 1) → ((gi σ' 1 9).toInt ≤ 9999) → (F_X11_minute σ0 = (r, σ')) → Qk r σ') : K_X11_minute l V σ0 Qk := by
  refine e_X11_minute (fun M hl hV hN C => ?_)
  subst hl
  subst hV
  obtain ⟨R9, H0⟩ : ∃ R9, F_X11_minute σ0 = R9 := ⟨_, rfl⟩
  have f0 : FX (fun id => id = 15 ∨ id = 16 ∨ id = 4 ∨ id = 5 ∨ id = 6 ∨ id = 7) (fun id k => (id = 1 ∧ k = 9)) σ0 σ0 := FX_rf
  have t_1 := XI_c1 m0 (id := 1) (k := 1) (lim_C0_1 (Or.inl rfl))
  have t_2 := XI_c1 m0 (id := 1) (k := 9) (lim_C0_9 (Or.inl rfl))
  have H := H0
  unfold F_X11_minute at H
  refine s_X11_minute_0 C hN  ?_
  refine ⟨?_, ?_⟩
  · intro q_3
    replace H := f_t q_3 H
    have b_4 : (gi σ0 1 9).toInt < 9999 := Int32.lt_iff_toInt_lt.mp q_3
    refine kF_X1_goesMinute (Or.inl rfl) m0 nn_1 (by first | with_reducible assumption | with_reducible rfl | omega | assumption | rfl) (fun r3 σ2 mσ2 cσ2 nσ2_1 (pσ2_0 : (gi σ2 1 9).toInt = (gi σ0 1 9).toInt + 1) hσ2 => ?_)
    replace H := f_b hσ2 H
    have fσ2 : FX (fun id => id = 15 ∨ id = 16 ∨ id = 4 ∨ id = 5 ∨ id = 6 ∨ id = 7) (fun id k => (id = 1 ∧ k = 9)) σ0 σ2 := FX_tr f0 cσ2 (fun x (h9 : x = 15 ∨ x = 16 ∨ x = 4 ∨ x = 5 ∨ x = 6 ∨ x = 7) => h9.elim (fun e9 => (show x = 15 ∨ x = 16 ∨ x = 4 ∨ x = 5 ∨ x = 6 ∨ x = 7 from Or.inl (e9))) (fun h9 => h9.elim (fun e9 => (show x = 15 ∨ x = 16 ∨ x = 4 ∨ x = 5 ∨ x = 6 ∨ x = 7 from Or.inr (Or.inl (e9)))) (fun h9 => h9.elim (fun e9 => (show x = 15 ∨ x = 16 ∨ x = 4 ∨ x = 5 ∨ x = 6 ∨ x = 7 from Or.inr (Or.inr (Or.inl (e9))))) (fun h9 => h9.elim (fun e9 => (show x = 15 ∨ x = 16 ∨ x = 4 ∨ x = 5 ∨ x = 6 ∨ x = 7 from Or.inr (Or.inr (Or.inr (Or.inl (e9)))))) (fun h9 => h9.elim (fun e9 => (show x = 15 ∨ x = 16 ∨ x = 4 ∨ x = 5 ∨ x = 6 ∨ x = 7 from Or.inr (Or.inr (Or.inr (Or.inr (Or.inl (e9))))))) (fun h9 => (show x = 15 ∨ x = 16 ∨ x = 4 ∨ x = 5 ∨ x = 6 ∨ x = 7 from Or.inr (Or.inr (Or.inr (Or.inr (Or.inr (h9)))))))))))) (fun x k (h9 : (x = 1 ∧ k = 9)) => (show (x = 15 ∨ x = 16 ∨ x = 4 ∨ x = 5 ∨ x = 6 ∨ x = 7) ∨ ((x = 1 ∧ k = 9)) from Or.inr (show (x = 1 ∧ k = 9) from h9)))
    have k_5 : (gi σ2 1 1).toInt = (gi σ0 1 1).toInt := congrArg Int32.toInt (FX_i cσ2 (show ¬ (1 = 15 ∨ 1 = 16 ∨ 1 = 4 ∨ 1 = 5 ∨ 1 = 6 ∨ 1 = 7) from by omega) (show ¬ ((1 = 1 ∧ 1 = 9)) from by omega))
    have t_6 := XI_c1 mσ2 (id := 1) (k := 9) (lim_C0_9 (Or.inl rfl))
    have w_7 := Int32.toInt_lt r3
    have w_8 := Int32.le_toInt r3
    exact h9ret r3 σ2 mσ2 fσ2 nσ2_1 (by first | with_reducible assumption | with_reducible rfl | omega | assumption | rfl) (H0.trans H.symm)
  · intro q_3
    replace H := f_f q_3 H
    have b_9 : ¬ (gi σ0 1 9).toInt < 9999 := fun h9 => q_3 (Int32.lt_iff_toInt_lt.mpr h9)
    have z_10 : (-3 : Int32).toInt = -3 := rfl
    exact h9ret (-3 : Int32) σ0 m0 f0 nn_1 (by first | with_reducible assumption | with_reducible rfl | omega | assumption | rfl) (H0.trans H.symm)
set_option maxRecDepth 100000 in
set_option maxHeartbeats 4000000 in
theorem kF_X11_whet {l : Launch} {V : Vx} {σ0 : Sg} {Qk : Int32 → Sg → Prop} (m0 : XI V σ0) (nn_1 : NN σ0 1) (pre0 : (gi σ0 1 9).toInt ≤ 9999) (h9ret : ∀ (r : Int32) (σ' : Sg), XI V σ' → FX (fun id => id = 5 ∨ id = 6 ∨ id = 7) (fun id k => (id = 1 ∧ k = 9)) σ0 σ' → (NN σ' 1) → ((gi σ' 1 9).toInt ≤ 9999) → (F_X11_whet σ0 = (r, σ')) → Qk r σ') : K_X11_whet l V σ0 Qk := by
  refine e_X11_whet (fun M hl hV hN C => ?_)
  subst hl
  subst hV
  obtain ⟨R9, H0⟩ : ∃ R9, F_X11_whet σ0 = R9 := ⟨_, rfl⟩
  have f0 : FX (fun id => id = 5 ∨ id = 6 ∨ id = 7) (fun id k => (id = 1 ∧ k = 9)) σ0 σ0 := FX_rf
  have t_1 := XI_c1 m0 (id := 1) (k := 1) (lim_C0_1 (Or.inl rfl))
  have t_2 := XI_c1 m0 (id := 1) (k := 9) (lim_C0_9 (Or.inl rfl))
  have H := H0
  unfold F_X11_whet at H
  refine s_X11_whet_0 C hN  ?_
  refine ⟨?_, ?_⟩
  · intro q_3
    replace H := f_t q_3 H
    have b_4 : (gi σ0 1 9).toInt < 9999 := Int32.lt_iff_toInt_lt.mp q_3
    refine kF_X1_whetsAll (Or.inl rfl) m0 nn_1 (by first | with_reducible assumption | with_reducible rfl | omega | assumption | rfl) (fun σ2 mσ2 cσ2 nσ2_1 (pσ2_0 : (gi σ2 1 9).toInt = (gi σ0 1 9).toInt + 1) hσ2 => ?_)
    replace H := f_v hσ2 H
    have fσ2 : FX (fun id => id = 5 ∨ id = 6 ∨ id = 7) (fun id k => (id = 1 ∧ k = 9)) σ0 σ2 := FX_tr f0 cσ2 (fun x (h9 : x = 5 ∨ x = 6 ∨ x = 7) => h9.elim (fun e9 => (show x = 5 ∨ x = 6 ∨ x = 7 from Or.inl (e9))) (fun h9 => h9.elim (fun e9 => (show x = 5 ∨ x = 6 ∨ x = 7 from Or.inr (Or.inl (e9)))) (fun h9 => (show x = 5 ∨ x = 6 ∨ x = 7 from Or.inr (Or.inr (h9)))))) (fun x k (h9 : (x = 1 ∧ k = 9)) => (show (x = 5 ∨ x = 6 ∨ x = 7) ∨ ((x = 1 ∧ k = 9)) from Or.inr (show (x = 1 ∧ k = 9) from h9)))
    have k_5 : (gi σ2 1 1).toInt = (gi σ0 1 1).toInt := congrArg Int32.toInt (FX_i cσ2 (show ¬ (1 = 5 ∨ 1 = 6 ∨ 1 = 7) from by omega) (show ¬ ((1 = 1 ∧ 1 = 9)) from by omega))
    have t_6 := XI_c1 mσ2 (id := 1) (k := 9) (lim_C0_9 (Or.inl rfl))
    exact h9ret (gi σ2 1 9) σ2 mσ2 fσ2 nσ2_1 (by first | with_reducible assumption | with_reducible rfl | omega | assumption | rfl) (H0.trans H.symm)
  · intro q_3
    replace H := f_f q_3 H
    have b_7 : ¬ (gi σ0 1 9).toInt < 9999 := fun h9 => q_3 (Int32.lt_iff_toInt_lt.mpr h9)
    have z_8 : (-3 : Int32).toInt = -3 := rfl
    exact h9ret (-3 : Int32) σ0 m0 f0 nn_1 (by first | with_reducible assumption | with_reducible rfl | omega | assumption | rfl) (H0.trans H.symm)
set_option maxRecDepth 100000 in
set_option maxHeartbeats 4000000 in
theorem kF_X11_pause {l : Launch} {V : Vx} {a1 : Int32} {σ0 : Sg} {Qk : Int32 → Sg → Prop} (m0 : XI V σ0) (nn_1 : NN σ0 1) (pre0 : (gi σ0 1 9).toInt ≤ 9999) (h9ret : ∀ (r : Int32) (σ' : Sg), XI V σ' → FX (fun id => id = 6 ∨ id = 7) (fun id k => (id = 1 ∧ k = 9)) σ0 σ' → (NN σ' 1) → ((gi σ' 1 9).toInt ≤ 9999) → (F_X11_pause a1 σ0 = (r, σ')) → Qk r σ') : K_X11_pause l V a1 σ0 Qk := by
  refine e_X11_pause (fun M hl hV hN C => ?_)
  subst hl
  subst hV
  obtain ⟨R9, H0⟩ : ∃ R9, F_X11_pause a1 σ0 = R9 := ⟨_, rfl⟩
  have f0 : FX (fun id => id = 6 ∨ id = 7) (fun id k => (id = 1 ∧ k = 9)) σ0 σ0 := FX_rf
  have t_1 := XI_c1 m0 (id := 1) (k := 1) (lim_C0_1 (Or.inl rfl))
  have t_2 := XI_c1 m0 (id := 1) (k := 9) (lim_C0_9 (Or.inl rfl))
  have H := H0
  unfold F_X11_pause at H
  refine s_X11_pause_0 C hN  ?_
  refine ⟨?_, ?_⟩
  · intro q_3
    replace H := f_t q_3 H
    have w_4 := Int32.toInt_lt a1
    have w_5 := Int32.le_toInt a1
    have b_6 : a1.toInt < 1 := Int32.lt_iff_toInt_lt.mp q_3
    have z_7 : (-2 : Int32).toInt = -2 := rfl
    exact h9ret (-2 : Int32) σ0 m0 f0 nn_1 (by first | with_reducible assumption | with_reducible rfl | omega | assumption | rfl) (H0.trans H.symm)
  · intro q_3
    replace H := f_f q_3 H
    have w_8 := Int32.toInt_lt a1
    have w_9 := Int32.le_toInt a1
    have b_10 : ¬ a1.toInt < 1 := fun h9 => q_3 (Int32.lt_iff_toInt_lt.mpr h9)
    refine ⟨?_, ?_⟩
    · intro q_11
      replace H := f_t q_11 H
      have b_12 : a1.toInt ≤ 60 := Int32.le_iff_toInt_le.mp q_11
      refine ⟨?_, ?_⟩
      · intro q_13
        replace H := f_t q_13 H
        try have t_14 : ((gi σ0 1 9) + a1).toInt = (gi σ0 1 9).toInt + a1.toInt := i_add (x := (gi σ0 1 9)) (y := a1) (by show (_ : Int) ≤ (gi σ0 1 9).toInt + a1.toInt; omega) (by show (gi σ0 1 9).toInt + a1.toInt ≤ (_ : Int); omega)
        have b_15 : ((gi σ0 1 9) + a1).toInt ≤ 9999 := Int32.le_iff_toInt_le.mp q_13
        refine kF_X1_rests (Or.inl rfl) m0 nn_1 (by omega) (by omega) (by first | with_reducible assumption | with_reducible rfl | omega | assumption | rfl) (fun σ4 mσ4 cσ4 nσ4_1 (pσ4_0 : (gi σ4 1 9).toInt = (gi σ0 1 9).toInt + a1.toInt) hσ4 => ?_)
        replace H := f_v hσ4 H
        have fσ4 : FX (fun id => id = 6 ∨ id = 7) (fun id k => (id = 1 ∧ k = 9)) σ0 σ4 := FX_tr f0 cσ4 (fun x (h9 : x = 6 ∨ x = 7) => h9.elim (fun e9 => (show x = 6 ∨ x = 7 from Or.inl (e9))) (fun h9 => (show x = 6 ∨ x = 7 from Or.inr (h9)))) (fun x k (h9 : (x = 1 ∧ k = 9)) => (show (x = 6 ∨ x = 7) ∨ ((x = 1 ∧ k = 9)) from Or.inr (show (x = 1 ∧ k = 9) from h9)))
        have k_16 : (gi σ4 1 1).toInt = (gi σ0 1 1).toInt := congrArg Int32.toInt (FX_i cσ4 (show ¬ (1 = 6 ∨ 1 = 7) from by omega) (show ¬ ((1 = 1 ∧ 1 = 9)) from by omega))
        have t_17 := XI_c1 mσ4 (id := 1) (k := 9) (lim_C0_9 (Or.inl rfl))
        exact h9ret (gi σ4 1 9) σ4 mσ4 fσ4 nσ4_1 (by first | with_reducible assumption | with_reducible rfl | omega | assumption | rfl) (H0.trans H.symm)
      · intro q_13
        replace H := f_f q_13 H
        try have t_18 : ((gi σ0 1 9) + a1).toInt = (gi σ0 1 9).toInt + a1.toInt := i_add (x := (gi σ0 1 9)) (y := a1) (by show (_ : Int) ≤ (gi σ0 1 9).toInt + a1.toInt; omega) (by show (gi σ0 1 9).toInt + a1.toInt ≤ (_ : Int); omega)
        have b_19 : ¬ ((gi σ0 1 9) + a1).toInt ≤ 9999 := fun h9 => q_13 (Int32.le_iff_toInt_le.mpr h9)
        have z_20 : (-3 : Int32).toInt = -3 := rfl
        exact h9ret (-3 : Int32) σ0 m0 f0 nn_1 (by first | with_reducible assumption | with_reducible rfl | omega | assumption | rfl) (H0.trans H.symm)
    · intro q_11
      replace H := f_f q_11 H
      have b_21 : ¬ a1.toInt ≤ 60 := fun h9 => q_11 (Int32.le_iff_toInt_le.mpr h9)
      have z_22 : (-2 : Int32).toInt = -2 := rfl
      exact h9ret (-2 : Int32) σ0 m0 f0 nn_1 (by first | with_reducible assumption | with_reducible rfl | omega | assumption | rfl) (H0.trans H.symm)
set_option maxRecDepth 100000 in
set_option maxHeartbeats 4000000 in
theorem kF_X11_heldTimes {l : Launch} {V : Vx} {a1 : Int32} {a2 : Int32} {σ0 : Sg} {Qk : Int32 → Sg → Prop} (m0 : XI V σ0) (nn_33 : NN σ0 33) (l_a2 : 0 ≤ a2.toInt) (u_a2 : a2.toInt ≤ 60) (pre0 : (gi σ0 33 9).toInt ≤ 10000) (h9ret : ∀ (r : Int32) (σ' : Sg), XI V σ' → FX (fun id => id = 36 ∨ id = 37 ∨ id = 38 ∨ id = 39 ∨ id = 47 ∨ id = 48) (fun id k => (id = 33 ∧ k = 9)) σ0 σ' → (NN σ' 33) → (F_X11_heldTimes a1 a2 σ0 = (r, σ')) → Qk r σ') : K_X11_heldTimes l V a1 a2 σ0 Qk := by
  refine e_X11_heldTimes (fun M hl hV hN C => ?_)
  subst hl
  subst hV
  obtain ⟨R9, H0⟩ : ∃ R9, F_X11_heldTimes a1 a2 σ0 = R9 := ⟨_, rfl⟩
  have T : ∀ n : Nat, (∀ (x1 : Int32) (x2 : Int32) (x3 : Int32) (x4 : Int32) (σ : Sg), XI (mV M) σ → FX (fun id => id = 36 ∨ id = 37 ∨ id = 38 ∨ id = 39 ∨ id = 47 ∨ id = 48) (fun id k => (id = 33 ∧ k = 9)) σ0 σ → NN σ 33 → (0 ≤ x2.toInt) → (x2.toInt ≤ 60) → (0 ≤ x4.toInt) → (x4.toInt ≤ 60) → ((gi σ 33 9).toInt ≤ 10000 + x4.toInt) → (x4.toInt ≤ x2.toInt) → (LF_X11_heldTimes n x1 x2 x3 x4 σ = R9) → (61 - x4.toInt).toNat < n → PS M 5 [(0, .ref 0), (1, .int x1), (2, .int x2), (3, .int x3), (4, .int x4)] [] σ (0, 0)) := by
    intro n
    induction n with
    | zero => exact fun _ _ _ _ _ _ _ _ _ _ _ _ _ _ _ h8 => absurd h8 (Nat.not_lt_zero _)
    | succ n ih =>
      have ih5 := ih
      · intro x1 x2 x3 x4 σ mσ fσ nσ_33 lx2 ux2 lx4 ux4 i0 i1 H hmu
        replace H : LB_X11_heldTimes_5 (LF_X11_heldTimes n) x1 x2 x3 x4 σ = R9 := H
        unfold LB_X11_heldTimes_5 at H
        have k_1 : (gi σ 1 1).toInt = (gi σ0 1 1).toInt := congrArg Int32.toInt (FX_i fσ (show ¬ (1 = 36 ∨ 1 = 37 ∨ 1 = 38 ∨ 1 = 39 ∨ 1 = 47 ∨ 1 = 48) from by omega) (show ¬ ((1 = 33 ∧ 1 = 9)) from by omega))
        have t_2 := XI_c1 mσ (id := 1) (k := 1) (lim_C0_1 (Or.inl rfl))
        have t_3 := XI_c1 mσ (id := 33) (k := 9) (lim_C0_9 (Or.inr (Or.inr rfl)))
        refine s_X11_heldTimes_5 C hN  ?_
        refine ⟨?_, ?_⟩
        · intro q_4
          replace H := f_t q_4 H
          have b_5 : x2.toInt ≤ x4.toInt := Int32.le_iff_toInt_le.mp q_4
          exact h9ret x3 σ mσ fσ nσ_33 (H0.trans H.symm)
        · intro q_4
          replace H := f_f q_4 H
          have b_6 : ¬ x2.toInt ≤ x4.toInt := fun h9 => q_4 (Int32.le_iff_toInt_le.mpr h9)
          refine kF_X1_goesMinute (Or.inr (Or.inr rfl)) mσ nσ_33 (by first | with_reducible assumption | with_reducible rfl | omega | assumption | rfl) (fun r3 σ2 mσ2 cσ2 nσ2_33 (pσ2_0 : (gi σ2 33 9).toInt = (gi σ 33 9).toInt + 1) hσ2 => ?_)
          replace H := f_b hσ2 H
          have fσ2 : FX (fun id => id = 36 ∨ id = 37 ∨ id = 38 ∨ id = 39 ∨ id = 47 ∨ id = 48) (fun id k => (id = 33 ∧ k = 9)) σ0 σ2 := FX_tr fσ cσ2 (fun x (h9 : x = 47 ∨ x = 48 ∨ x = 36 ∨ x = 37 ∨ x = 38 ∨ x = 39) => h9.elim (fun e9 => (show x = 36 ∨ x = 37 ∨ x = 38 ∨ x = 39 ∨ x = 47 ∨ x = 48 from Or.inr (Or.inr (Or.inr (Or.inr (Or.inl (e9))))))) (fun h9 => h9.elim (fun e9 => (show x = 36 ∨ x = 37 ∨ x = 38 ∨ x = 39 ∨ x = 47 ∨ x = 48 from Or.inr (Or.inr (Or.inr (Or.inr (Or.inr (e9))))))) (fun h9 => h9.elim (fun e9 => (show x = 36 ∨ x = 37 ∨ x = 38 ∨ x = 39 ∨ x = 47 ∨ x = 48 from Or.inl (e9))) (fun h9 => h9.elim (fun e9 => (show x = 36 ∨ x = 37 ∨ x = 38 ∨ x = 39 ∨ x = 47 ∨ x = 48 from Or.inr (Or.inl (e9)))) (fun h9 => h9.elim (fun e9 => (show x = 36 ∨ x = 37 ∨ x = 38 ∨ x = 39 ∨ x = 47 ∨ x = 48 from Or.inr (Or.inr (Or.inl (e9))))) (fun h9 => (show x = 36 ∨ x = 37 ∨ x = 38 ∨ x = 39 ∨ x = 47 ∨ x = 48 from Or.inr (Or.inr (Or.inr (Or.inl (h9))))))))))) (fun x k (h9 : (x = 33 ∧ k = 9)) => (show (x = 36 ∨ x = 37 ∨ x = 38 ∨ x = 39 ∨ x = 47 ∨ x = 48) ∨ ((x = 33 ∧ k = 9)) from Or.inr (show (x = 33 ∧ k = 9) from h9)))
          have k_7 : (gi σ2 1 1).toInt = (gi σ 1 1).toInt := congrArg Int32.toInt (FX_i cσ2 (show ¬ (1 = 47 ∨ 1 = 48 ∨ 1 = 36 ∨ 1 = 37 ∨ 1 = 38 ∨ 1 = 39) from by omega) (show ¬ ((1 = 33 ∧ 1 = 9)) from by omega))
          have t_8 := XI_c1 mσ2 (id := 33) (k := 9) (lim_C0_9 (Or.inr (Or.inr rfl)))
          intro v4 ev4
          replace H := f_l ev4 H
          intro v5 ev5
          replace H := f_l ev5 H
          have t_9 : (x4 + (1 : Int32)).toInt = x4.toInt + 1 := i_add (x := x4) (y := (1 : Int32)) (by show (_ : Int) ≤ x4.toInt + 1; omega) (by show x4.toInt + 1 ≤ (_ : Int); omega)
          have t_10 : v5.toInt = (x4 + (1 : Int32)).toInt := congrArg Int32.toInt ev5
          have w_11 := Int32.toInt_lt x1
          have w_12 := Int32.le_toInt x1
          have w_13 := Int32.toInt_lt v4
          have w_14 := Int32.le_toInt v4
          exact ih5 x1 x2 v4 v5 σ2 mσ2 fσ2 nσ2_33 (by omega) (by omega) (by omega) (by omega) (by first | with_reducible assumption | with_reducible rfl | omega | assumption | rfl) (by first | with_reducible assumption | with_reducible rfl | omega | assumption | rfl) H (by omega)
  have U5 := T 90
  have f0 : FX (fun id => id = 36 ∨ id = 37 ∨ id = 38 ∨ id = 39 ∨ id = 47 ∨ id = 48) (fun id k => (id = 33 ∧ k = 9)) σ0 σ0 := FX_rf
  have t_15 := XI_c1 m0 (id := 1) (k := 1) (lim_C0_1 (Or.inl rfl))
  have t_16 := XI_c1 m0 (id := 33) (k := 9) (lim_C0_9 (Or.inr (Or.inr rfl)))
  have H := H0
  unfold F_X11_heldTimes at H
  refine s_X11_heldTimes_0 C hN  ?_
  have w_17 := Int32.toInt_lt a1
  have w_18 := Int32.le_toInt a1
  have z_19 : (0 : Int32).toInt = 0 := rfl
  exact U5 a1 a2 (0 : Int32) (0 : Int32) σ0 m0 f0 nn_33 (by omega) (by omega) (by omega) (by omega) (by first | with_reducible assumption | with_reducible rfl | omega | assumption | rfl) (by first | with_reducible assumption | with_reducible rfl | omega | assumption | rfl) H (by omega)
set_option maxRecDepth 100000 in
set_option maxHeartbeats 4000000 in
theorem kF_X11_on {l : Launch} {V : Vx} {a1 : Int32} {a2 : Int32} {σ0 : Sg} {Qk : Int32 → Sg → Prop} (m0 : XI V σ0) (nn_1 : NN σ0 1) (pre0 : (gi σ0 1 9).toInt ≤ 9999) (h9ret : ∀ (r : Int32) (σ' : Sg), XI V σ' → FX (fun id => id = 34 ∨ id = 35 ∨ id = 36 ∨ id = 37 ∨ id = 38 ∨ id = 39 ∨ id = 40 ∨ id = 47 ∨ id = 48) (fun id k => (id = 33 ∧ k = 1) ∨ (id = 33 ∧ k = 3) ∨ (id = 33 ∧ k = 9) ∨ (id = 33 ∧ k = 10) ∨ (id = 33 ∧ k = 11)) σ0 σ' → (NN σ' 1) → (F_X11_on a1 a2 σ0 = (r, σ')) → Qk r σ') : K_X11_on l V a1 a2 σ0 Qk := by
  refine e_X11_on (fun M hl hV hN C => ?_)
  subst hl
  subst hV
  obtain ⟨R9, H0⟩ : ∃ R9, F_X11_on a1 a2 σ0 = R9 := ⟨_, rfl⟩
  have T : ∀ n : Nat, (∀ (x1 : Int32) (x2 : Int32) (z0 : Int32) (σ : Sg), XI (mV M) σ → FX (fun id => id = 34 ∨ id = 35 ∨ id = 36 ∨ id = 37 ∨ id = 38 ∨ id = 39 ∨ id = 40 ∨ id = 47 ∨ id = 48) (fun id k => (id = 33 ∧ k = 1) ∨ (id = 33 ∧ k = 3) ∨ (id = 33 ∧ k = 9) ∨ (id = 33 ∧ k = 10) ∨ (id = 33 ∧ k = 11)) σ0 σ → NN σ 1 → (z0.toInt = 0 ∨ (10 ≤ x2.toInt ∧ x2.toInt < 10 + (gi σ 1 1).toInt)) → (LF_X11_on n 0 x1 x2 z0 0 0 σ = R9) → 3 < n → PS M 22 [(0, .ref 0), (1, .int x1), (2, .int x2)] [.int z0] σ (0, 0)) ∧ (∀ (x1 : Int32) (x2 : Int32) (x3 : Int32) (z0 : Int32) (σ : Sg), XI (mV M) σ → FX (fun id => id = 34 ∨ id = 35 ∨ id = 36 ∨ id = 37 ∨ id = 38 ∨ id = 39 ∨ id = 40 ∨ id = 47 ∨ id = 48) (fun id k => (id = 33 ∧ k = 1) ∨ (id = 33 ∧ k = 3) ∨ (id = 33 ∧ k = 9) ∨ (id = 33 ∧ k = 10) ∨ (id = 33 ∧ k = 11)) σ0 σ → NN σ 1 → (x3.toInt = 0 ∨ (10 ≤ x2.toInt ∧ x2.toInt < 10 + (gi σ 1 1).toInt)) → (z0.toInt = 0 ∨ (20 ≤ x2.toInt ∧ x2.toInt < 20 + (gi σ 1 1).toInt)) → (LF_X11_on n 1 x1 x2 z0 x3 0 σ = R9) → 2 < n → PS M 45 [(0, .ref 0), (1, .int x1), (2, .int x2), (3, .int x3)] [.int z0] σ (0, 0)) ∧ (∀ (x1 : Int32) (x2 : Int32) (x3 : Int32) (x4 : Int32) (σ : Sg), XI (mV M) σ → FX (fun id => id = 34 ∨ id = 35 ∨ id = 36 ∨ id = 37 ∨ id = 38 ∨ id = 39 ∨ id = 40 ∨ id = 47 ∨ id = 48) (fun id k => (id = 33 ∧ k = 1) ∨ (id = 33 ∧ k = 3) ∨ (id = 33 ∧ k = 9) ∨ (id = 33 ∧ k = 10) ∨ (id = 33 ∧ k = 11)) σ0 σ → NN σ 1 → (x3.toInt = 0 ∨ (10 ≤ x2.toInt ∧ x2.toInt < 10 + (gi σ 1 1).toInt)) → (x4.toInt = 0 ∨ (20 ≤ x2.toInt ∧ x2.toInt < 20 + (gi σ 1 1).toInt)) → (LF_X11_on n 2 x1 x2 0 x3 x4 σ = R9) → 1 < n → PS M 62 [(0, .ref 0), (1, .int x1), (2, .int x2), (3, .int x3), (4, .int x4)] [] σ (0, 0)) := by
    intro n
    induction n with
    | zero => exact ⟨fun _ _ _ _ _ _ _ _ _ h8 => absurd h8 (Nat.not_lt_zero _), fun _ _ _ _ _ _ _ _ _ _ _ h8 => absurd h8 (Nat.not_lt_zero _), fun _ _ _ _ _ _ _ _ _ _ _ h8 => absurd h8 (Nat.not_lt_zero _)⟩
    | succ n ih =>
      obtain ⟨ih22, ih45, ih62⟩ := ih
      refine ⟨?_, ?_, ?_⟩
      · intro x1 x2 z0 σ mσ fσ nσ_1 i0 H hmu
        replace H : LB_X11_on_22 (LF_X11_on n) x1 x2 z0 σ = R9 := H
        unfold LB_X11_on_22 at H
        have k_1 : (gi σ 1 1).toInt = (gi σ0 1 1).toInt := congrArg Int32.toInt (FX_i fσ (show ¬ (1 = 34 ∨ 1 = 35 ∨ 1 = 36 ∨ 1 = 37 ∨ 1 = 38 ∨ 1 = 39 ∨ 1 = 40 ∨ 1 = 47 ∨ 1 = 48) from by omega) (show ¬ ((1 = 33 ∧ 1 = 1) ∨ (1 = 33 ∧ 1 = 3) ∨ (1 = 33 ∧ 1 = 9) ∨ (1 = 33 ∧ 1 = 10) ∨ (1 = 33 ∧ 1 = 11)) from by omega))
        have t_2 := XI_c1 mσ (id := 1) (k := 1) (lim_C0_1 (Or.inl rfl))
        have k_3 : (gi σ 1 9).toInt = (gi σ0 1 9).toInt := congrArg Int32.toInt (FX_i fσ (show ¬ (1 = 34 ∨ 1 = 35 ∨ 1 = 36 ∨ 1 = 37 ∨ 1 = 38 ∨ 1 = 39 ∨ 1 = 40 ∨ 1 = 47 ∨ 1 = 48) from by omega) (show ¬ ((1 = 33 ∧ 9 = 1) ∨ (1 = 33 ∧ 9 = 3) ∨ (1 = 33 ∧ 9 = 9) ∨ (1 = 33 ∧ 9 = 10) ∨ (1 = 33 ∧ 9 = 11)) from by omega))
        have t_4 := XI_c1 mσ (id := 1) (k := 9) (lim_C0_9 (Or.inl rfl))
        refine s_X11_on_22 C hN  ?_
        refine ⟨?_, ?_⟩
        · intro q_5
          replace H := f_t q_5 H
          have w_6 := Int32.toInt_lt x2
          have w_7 := Int32.le_toInt x2
          have b_8 : x2.toInt < 20 := Int32.lt_iff_toInt_lt.mp q_5
          have w_9 := Int32.toInt_lt x1
          have w_10 := Int32.le_toInt x1
          have w_11 := Int32.toInt_lt z0
          have w_12 := Int32.le_toInt z0
          have z_13 : (0 : Int32).toInt = 0 := rfl
          exact ih45 x1 x2 z0 (0 : Int32) σ mσ fσ nσ_1 (by first | with_reducible assumption | with_reducible rfl | omega | assumption | rfl) (by first | with_reducible assumption | with_reducible rfl | omega | assumption | rfl) H (by omega)
        · intro q_5
          replace H := f_f q_5 H
          have w_14 := Int32.toInt_lt x2
          have w_15 := Int32.le_toInt x2
          have b_16 : ¬ x2.toInt < 20 := fun h9 => q_5 (Int32.lt_iff_toInt_lt.mpr h9)
          try have t_17 : (x2 - (20 : Int32)).toInt = x2.toInt - 20 := i_sub (x := x2) (y := (20 : Int32)) (by show (_ : Int) ≤ x2.toInt - 20; omega) (by show x2.toInt - 20 ≤ (_ : Int); omega)
          refine kF_X11_isMower  mσ   (fun r3 σ2 mσ2 cσ2 plσ2 phσ2 (pσ2_0 : (r3.toInt = 1 ∧ 0 ≤ (x2 - (20 : Int32)).toInt ∧ (x2 - (20 : Int32)).toInt < (gi σ 1 1).toInt) ∨ (r3.toInt = 0 ∧ ((x2 - (20 : Int32)).toInt < 0 ∨ (gi σ 1 1).toInt ≤ (x2 - (20 : Int32)).toInt))) hσ2 => ?_)
          obtain rfl := FX_nil cσ2
          replace H := f_b hσ2 H
          refine ⟨?_, ?_⟩
          · intro q_18
            replace H := f_t q_18 H
            have b_19 : r3.toInt = 0 := congrArg Int32.toInt q_18
            have w_20 := Int32.toInt_lt x1
            have w_21 := Int32.le_toInt x1
            have w_22 := Int32.toInt_lt z0
            have w_23 := Int32.le_toInt z0
            have z_24 : (0 : Int32).toInt = 0 := rfl
            exact ih45 x1 x2 z0 (0 : Int32) σ mσ fσ nσ_1 (by first | with_reducible assumption | with_reducible rfl | omega | assumption | rfl) (by first | with_reducible assumption | with_reducible rfl | omega | assumption | rfl) H (by omega)
          · intro q_18
            replace H := f_f q_18 H
            have b_25 : ¬ r3.toInt = 0 := fun h9 => q_18 (Int32.toInt_inj.mp h9)
            have w_26 := Int32.toInt_lt x1
            have w_27 := Int32.le_toInt x1
            have w_28 := Int32.toInt_lt z0
            have w_29 := Int32.le_toInt z0
            have z_30 : (1 : Int32).toInt = 1 := rfl
            exact ih45 x1 x2 z0 (1 : Int32) σ mσ fσ nσ_1 (by first | with_reducible assumption | with_reducible rfl | omega | assumption | rfl) (by first | with_reducible assumption | with_reducible rfl | omega | assumption | rfl) H (by omega)
      · intro x1 x2 x3 z0 σ mσ fσ nσ_1 i0 i1 H hmu
        replace H : LB_X11_on_45 (LF_X11_on n) x1 x2 x3 z0 σ = R9 := H
        unfold LB_X11_on_45 at H
        have k_31 : (gi σ 1 1).toInt = (gi σ0 1 1).toInt := congrArg Int32.toInt (FX_i fσ (show ¬ (1 = 34 ∨ 1 = 35 ∨ 1 = 36 ∨ 1 = 37 ∨ 1 = 38 ∨ 1 = 39 ∨ 1 = 40 ∨ 1 = 47 ∨ 1 = 48) from by omega) (show ¬ ((1 = 33 ∧ 1 = 1) ∨ (1 = 33 ∧ 1 = 3) ∨ (1 = 33 ∧ 1 = 9) ∨ (1 = 33 ∧ 1 = 10) ∨ (1 = 33 ∧ 1 = 11)) from by omega))
        have t_32 := XI_c1 mσ (id := 1) (k := 1) (lim_C0_1 (Or.inl rfl))
        have k_33 : (gi σ 1 9).toInt = (gi σ0 1 9).toInt := congrArg Int32.toInt (FX_i fσ (show ¬ (1 = 34 ∨ 1 = 35 ∨ 1 = 36 ∨ 1 = 37 ∨ 1 = 38 ∨ 1 = 39 ∨ 1 = 40 ∨ 1 = 47 ∨ 1 = 48) from by omega) (show ¬ ((1 = 33 ∧ 9 = 1) ∨ (1 = 33 ∧ 9 = 3) ∨ (1 = 33 ∧ 9 = 9) ∨ (1 = 33 ∧ 9 = 10) ∨ (1 = 33 ∧ 9 = 11)) from by omega))
        have t_34 := XI_c1 mσ (id := 1) (k := 9) (lim_C0_9 (Or.inl rfl))
        refine s_X11_on_45 C hN  ?_
        refine ⟨?_, ?_⟩
        · intro q_35
          replace H := f_t q_35 H
          have w_36 := Int32.toInt_lt x2
          have w_37 := Int32.le_toInt x2
          have b_38 : x2.toInt = 0 := congrArg Int32.toInt q_35
          have w_39 := Int32.toInt_lt x1
          have w_40 := Int32.le_toInt x1
          have w_41 := Int32.toInt_lt x3
          have w_42 := Int32.le_toInt x3
          have w_43 := Int32.toInt_lt z0
          have w_44 := Int32.le_toInt z0
          exact ih62 x1 x2 x3 z0 σ mσ fσ nσ_1 (by first | with_reducible assumption | with_reducible rfl | omega | assumption | rfl) (by first | with_reducible assumption | with_reducible rfl | omega | assumption | rfl) H (by omega)
        · intro q_35
          replace H := f_f q_35 H
          have w_45 := Int32.toInt_lt x2
          have w_46 := Int32.le_toInt x2
          have b_47 : ¬ x2.toInt = 0 := fun h9 => q_35 (Int32.toInt_inj.mp h9)
          refine ⟨?_, ?_⟩
          · intro q_48
            replace H := f_f q_48 H
            have w_49 := Int32.toInt_lt x3
            have w_50 := Int32.le_toInt x3
            have b_51 : ¬ x3.toInt = 0 := fun h9 => q_48 (Int32.toInt_inj.mp h9)
            have w_52 := Int32.toInt_lt x1
            have w_53 := Int32.le_toInt x1
            have w_54 := Int32.toInt_lt z0
            have w_55 := Int32.le_toInt z0
            exact ih62 x1 x2 x3 z0 σ mσ fσ nσ_1 (by first | with_reducible assumption | with_reducible rfl | omega | assumption | rfl) (by first | with_reducible assumption | with_reducible rfl | omega | assumption | rfl) H (by omega)
          · intro q_48
            replace H := f_t q_48 H
            have w_56 := Int32.toInt_lt x3
            have w_57 := Int32.le_toInt x3
            have b_58 : x3.toInt = 0 := congrArg Int32.toInt q_48
            refine ⟨?_, ?_⟩
            · intro q_59
              replace H := f_f q_59 H
              have w_60 := Int32.toInt_lt z0
              have w_61 := Int32.le_toInt z0
              have b_62 : ¬ z0.toInt = 0 := fun h9 => q_59 (Int32.toInt_inj.mp h9)
              have w_63 := Int32.toInt_lt x1
              have w_64 := Int32.le_toInt x1
              exact ih62 x1 x2 x3 z0 σ mσ fσ nσ_1 (by first | with_reducible assumption | with_reducible rfl | omega | assumption | rfl) (by first | with_reducible assumption | with_reducible rfl | omega | assumption | rfl) H (by omega)
            · intro q_59
              replace H := f_t q_59 H
              have w_65 := Int32.toInt_lt z0
              have w_66 := Int32.le_toInt z0
              have b_67 : z0.toInt = 0 := congrArg Int32.toInt q_59
              have z_68 : (-1 : Int32).toInt = -1 := rfl
              exact h9ret (-1 : Int32) σ mσ fσ nσ_1 (H0.trans H.symm)
      · intro x1 x2 x3 x4 σ mσ fσ nσ_1 i0 i1 H hmu
        replace H : LB_X11_on_62 (LF_X11_on n) x1 x2 x3 x4 σ = R9 := H
        unfold LB_X11_on_62 at H
        have k_69 : (gi σ 1 1).toInt = (gi σ0 1 1).toInt := congrArg Int32.toInt (FX_i fσ (show ¬ (1 = 34 ∨ 1 = 35 ∨ 1 = 36 ∨ 1 = 37 ∨ 1 = 38 ∨ 1 = 39 ∨ 1 = 40 ∨ 1 = 47 ∨ 1 = 48) from by omega) (show ¬ ((1 = 33 ∧ 1 = 1) ∨ (1 = 33 ∧ 1 = 3) ∨ (1 = 33 ∧ 1 = 9) ∨ (1 = 33 ∧ 1 = 10) ∨ (1 = 33 ∧ 1 = 11)) from by omega))
        have t_70 := XI_c1 mσ (id := 1) (k := 1) (lim_C0_1 (Or.inl rfl))
        have k_71 : (gi σ 1 9).toInt = (gi σ0 1 9).toInt := congrArg Int32.toInt (FX_i fσ (show ¬ (1 = 34 ∨ 1 = 35 ∨ 1 = 36 ∨ 1 = 37 ∨ 1 = 38 ∨ 1 = 39 ∨ 1 = 40 ∨ 1 = 47 ∨ 1 = 48) from by omega) (show ¬ ((1 = 33 ∧ 9 = 1) ∨ (1 = 33 ∧ 9 = 3) ∨ (1 = 33 ∧ 9 = 9) ∨ (1 = 33 ∧ 9 = 10) ∨ (1 = 33 ∧ 9 = 11)) from by omega))
        have t_72 := XI_c1 mσ (id := 1) (k := 9) (lim_C0_9 (Or.inl rfl))
        refine s_X11_on_62 C hN  ?_
        refine ⟨?_, ?_⟩
        · intro q_73
          replace H := f_t q_73 H
          have w_74 := Int32.toInt_lt x1
          have w_75 := Int32.le_toInt x1
          have b_76 : x1.toInt < 0 := Int32.lt_iff_toInt_lt.mp q_73
          have z_77 : (-2 : Int32).toInt = -2 := rfl
          exact h9ret (-2 : Int32) σ mσ fσ nσ_1 (H0.trans H.symm)
        · intro q_73
          replace H := f_f q_73 H
          have w_78 := Int32.toInt_lt x1
          have w_79 := Int32.le_toInt x1
          have b_80 : ¬ x1.toInt < 0 := fun h9 => q_73 (Int32.lt_iff_toInt_lt.mpr h9)
          refine ⟨?_, ?_⟩
          · intro q_81
            replace H := f_t q_81 H
            have b_82 : x1.toInt ≤ 60 := Int32.le_iff_toInt_le.mp q_81
            have z_83 : (1 : Int32).toInt = 1 := rfl
            refine kF_X1_becomes (Or.inr (Or.inr rfl)) (Or.inl rfl) mσ nσ_1 (by first | with_reducible assumption | with_reducible rfl | omega | assumption | rfl) (fun σ3 mσ3 cσ3 nσ3_1 nσ3_33 (pσ3_0 : (gi σ3 33 1).toInt = (gi σ 1 1).toInt) (pσ3_1 : (gi σ3 33 3).toInt = (gi σ 1 3).toInt) (pσ3_2 : (gi σ3 33 9).toInt = (gi σ 1 9).toInt) (pσ3_3 : CPY σ σ3 33 1) hσ3 => ?_)
            replace H := f_v hσ3 H
            have fσ3 : FX (fun id => id = 34 ∨ id = 35 ∨ id = 36 ∨ id = 37 ∨ id = 38 ∨ id = 39 ∨ id = 40 ∨ id = 47 ∨ id = 48) (fun id k => (id = 33 ∧ k = 1) ∨ (id = 33 ∧ k = 3) ∨ (id = 33 ∧ k = 9) ∨ (id = 33 ∧ k = 10) ∨ (id = 33 ∧ k = 11)) σ0 σ3 := FX_tr fσ cσ3 (fun x (h9 : x = 34 ∨ x = 35 ∨ x = 36 ∨ x = 37 ∨ x = 38 ∨ x = 39 ∨ x = 40) => h9.elim (fun e9 => (show x = 34 ∨ x = 35 ∨ x = 36 ∨ x = 37 ∨ x = 38 ∨ x = 39 ∨ x = 40 ∨ x = 47 ∨ x = 48 from Or.inl (e9))) (fun h9 => h9.elim (fun e9 => (show x = 34 ∨ x = 35 ∨ x = 36 ∨ x = 37 ∨ x = 38 ∨ x = 39 ∨ x = 40 ∨ x = 47 ∨ x = 48 from Or.inr (Or.inl (e9)))) (fun h9 => h9.elim (fun e9 => (show x = 34 ∨ x = 35 ∨ x = 36 ∨ x = 37 ∨ x = 38 ∨ x = 39 ∨ x = 40 ∨ x = 47 ∨ x = 48 from Or.inr (Or.inr (Or.inl (e9))))) (fun h9 => h9.elim (fun e9 => (show x = 34 ∨ x = 35 ∨ x = 36 ∨ x = 37 ∨ x = 38 ∨ x = 39 ∨ x = 40 ∨ x = 47 ∨ x = 48 from Or.inr (Or.inr (Or.inr (Or.inl (e9)))))) (fun h9 => h9.elim (fun e9 => (show x = 34 ∨ x = 35 ∨ x = 36 ∨ x = 37 ∨ x = 38 ∨ x = 39 ∨ x = 40 ∨ x = 47 ∨ x = 48 from Or.inr (Or.inr (Or.inr (Or.inr (Or.inl (e9))))))) (fun h9 => h9.elim (fun e9 => (show x = 34 ∨ x = 35 ∨ x = 36 ∨ x = 37 ∨ x = 38 ∨ x = 39 ∨ x = 40 ∨ x = 47 ∨ x = 48 from Or.inr (Or.inr (Or.inr (Or.inr (Or.inr (Or.inl (e9)))))))) (fun h9 => (show x = 34 ∨ x = 35 ∨ x = 36 ∨ x = 37 ∨ x = 38 ∨ x = 39 ∨ x = 40 ∨ x = 47 ∨ x = 48 from Or.inr (Or.inr (Or.inr (Or.inr (Or.inr (Or.inr (Or.inl (h9))))))))))))))) (fun x k (h9 : (x = 33 ∧ k = 1) ∨ (x = 33 ∧ k = 3) ∨ (x = 33 ∧ k = 9) ∨ (x = 33 ∧ k = 10) ∨ (x = 33 ∧ k = 11)) => (show (x = 34 ∨ x = 35 ∨ x = 36 ∨ x = 37 ∨ x = 38 ∨ x = 39 ∨ x = 40 ∨ x = 47 ∨ x = 48) ∨ ((x = 33 ∧ k = 1) ∨ (x = 33 ∧ k = 3) ∨ (x = 33 ∧ k = 9) ∨ (x = 33 ∧ k = 10) ∨ (x = 33 ∧ k = 11)) from h9.elim (fun e9 => Or.inr (show (x = 33 ∧ k = 1) ∨ (x = 33 ∧ k = 3) ∨ (x = 33 ∧ k = 9) ∨ (x = 33 ∧ k = 10) ∨ (x = 33 ∧ k = 11) from Or.inl (e9))) (fun h9 => h9.elim (fun e9 => Or.inr (show (x = 33 ∧ k = 1) ∨ (x = 33 ∧ k = 3) ∨ (x = 33 ∧ k = 9) ∨ (x = 33 ∧ k = 10) ∨ (x = 33 ∧ k = 11) from Or.inr (Or.inl (e9)))) (fun h9 => h9.elim (fun e9 => Or.inr (show (x = 33 ∧ k = 1) ∨ (x = 33 ∧ k = 3) ∨ (x = 33 ∧ k = 9) ∨ (x = 33 ∧ k = 10) ∨ (x = 33 ∧ k = 11) from Or.inr (Or.inr (Or.inl (e9))))) (fun h9 => h9.elim (fun e9 => Or.inr (show (x = 33 ∧ k = 1) ∨ (x = 33 ∧ k = 3) ∨ (x = 33 ∧ k = 9) ∨ (x = 33 ∧ k = 10) ∨ (x = 33 ∧ k = 11) from Or.inr (Or.inr (Or.inr (Or.inl (e9)))))) (fun h9 => Or.inr (show (x = 33 ∧ k = 1) ∨ (x = 33 ∧ k = 3) ∨ (x = 33 ∧ k = 9) ∨ (x = 33 ∧ k = 10) ∨ (x = 33 ∧ k = 11) from Or.inr (Or.inr (Or.inr (Or.inr (h9)))))))))))
            have k_84 : (gi σ3 1 1).toInt = (gi σ 1 1).toInt := congrArg Int32.toInt (FX_i cσ3 (show ¬ (1 = 34 ∨ 1 = 35 ∨ 1 = 36 ∨ 1 = 37 ∨ 1 = 38 ∨ 1 = 39 ∨ 1 = 40) from by omega) (show ¬ ((1 = 33 ∧ 1 = 1) ∨ (1 = 33 ∧ 1 = 3) ∨ (1 = 33 ∧ 1 = 9) ∨ (1 = 33 ∧ 1 = 10) ∨ (1 = 33 ∧ 1 = 11)) from by omega))
            have k_85 : (gi σ3 1 9).toInt = (gi σ 1 9).toInt := congrArg Int32.toInt (FX_i cσ3 (show ¬ (1 = 34 ∨ 1 = 35 ∨ 1 = 36 ∨ 1 = 37 ∨ 1 = 38 ∨ 1 = 39 ∨ 1 = 40) from by omega) (show ¬ ((1 = 33 ∧ 9 = 1) ∨ (1 = 33 ∧ 9 = 3) ∨ (1 = 33 ∧ 9 = 9) ∨ (1 = 33 ∧ 9 = 10) ∨ (1 = 33 ∧ 9 = 11)) from by omega))
            refine ⟨?_, ?_⟩
            · intro q_86
              replace H := f_t q_86 H
              have w_87 := Int32.toInt_lt x4
              have w_88 := Int32.le_toInt x4
              have b_89 : x4.toInt = 0 := congrArg Int32.toInt q_86
              refine kF_X1_goes (Or.inr (Or.inr rfl)) mσ3 nσ3_33 (by omega) (by omega) (by first | with_reducible assumption | with_reducible rfl | omega | assumption | rfl) (fun σ5 mσ5 cσ5 nσ5_33 (pσ5_0 : (gi σ5 33 9).toInt = (gi σ3 33 9).toInt + x1.toInt) hσ5 => ?_)
              replace H := f_v hσ5 H
              have fσ5 : FX (fun id => id = 34 ∨ id = 35 ∨ id = 36 ∨ id = 37 ∨ id = 38 ∨ id = 39 ∨ id = 40 ∨ id = 47 ∨ id = 48) (fun id k => (id = 33 ∧ k = 1) ∨ (id = 33 ∧ k = 3) ∨ (id = 33 ∧ k = 9) ∨ (id = 33 ∧ k = 10) ∨ (id = 33 ∧ k = 11)) σ0 σ5 := FX_tr fσ3 cσ5 (fun x (h9 : x = 47 ∨ x = 48 ∨ x = 36 ∨ x = 37 ∨ x = 38 ∨ x = 39) => h9.elim (fun e9 => (show x = 34 ∨ x = 35 ∨ x = 36 ∨ x = 37 ∨ x = 38 ∨ x = 39 ∨ x = 40 ∨ x = 47 ∨ x = 48 from Or.inr (Or.inr (Or.inr (Or.inr (Or.inr (Or.inr (Or.inr (Or.inl (e9)))))))))) (fun h9 => h9.elim (fun e9 => (show x = 34 ∨ x = 35 ∨ x = 36 ∨ x = 37 ∨ x = 38 ∨ x = 39 ∨ x = 40 ∨ x = 47 ∨ x = 48 from Or.inr (Or.inr (Or.inr (Or.inr (Or.inr (Or.inr (Or.inr (Or.inr (e9)))))))))) (fun h9 => h9.elim (fun e9 => (show x = 34 ∨ x = 35 ∨ x = 36 ∨ x = 37 ∨ x = 38 ∨ x = 39 ∨ x = 40 ∨ x = 47 ∨ x = 48 from Or.inr (Or.inr (Or.inl (e9))))) (fun h9 => h9.elim (fun e9 => (show x = 34 ∨ x = 35 ∨ x = 36 ∨ x = 37 ∨ x = 38 ∨ x = 39 ∨ x = 40 ∨ x = 47 ∨ x = 48 from Or.inr (Or.inr (Or.inr (Or.inl (e9)))))) (fun h9 => h9.elim (fun e9 => (show x = 34 ∨ x = 35 ∨ x = 36 ∨ x = 37 ∨ x = 38 ∨ x = 39 ∨ x = 40 ∨ x = 47 ∨ x = 48 from Or.inr (Or.inr (Or.inr (Or.inr (Or.inl (e9))))))) (fun h9 => (show x = 34 ∨ x = 35 ∨ x = 36 ∨ x = 37 ∨ x = 38 ∨ x = 39 ∨ x = 40 ∨ x = 47 ∨ x = 48 from Or.inr (Or.inr (Or.inr (Or.inr (Or.inr (Or.inl (h9))))))))))))) (fun x k (h9 : (x = 33 ∧ k = 9)) => (show (x = 34 ∨ x = 35 ∨ x = 36 ∨ x = 37 ∨ x = 38 ∨ x = 39 ∨ x = 40 ∨ x = 47 ∨ x = 48) ∨ ((x = 33 ∧ k = 1) ∨ (x = 33 ∧ k = 3) ∨ (x = 33 ∧ k = 9) ∨ (x = 33 ∧ k = 10) ∨ (x = 33 ∧ k = 11)) from Or.inr (show (x = 33 ∧ k = 1) ∨ (x = 33 ∧ k = 3) ∨ (x = 33 ∧ k = 9) ∨ (x = 33 ∧ k = 10) ∨ (x = 33 ∧ k = 11) from Or.inr (Or.inr (Or.inl (h9))))))
              have k_90 : (gi σ5 1 1).toInt = (gi σ3 1 1).toInt := congrArg Int32.toInt (FX_i cσ5 (show ¬ (1 = 47 ∨ 1 = 48 ∨ 1 = 36 ∨ 1 = 37 ∨ 1 = 38 ∨ 1 = 39) from by omega) (show ¬ ((1 = 33 ∧ 1 = 9)) from by omega))
              have k_91 : (gi σ5 1 9).toInt = (gi σ3 1 9).toInt := congrArg Int32.toInt (FX_i cσ5 (show ¬ (1 = 47 ∨ 1 = 48 ∨ 1 = 36 ∨ 1 = 37 ∨ 1 = 38 ∨ 1 = 39) from by omega) (show ¬ ((1 = 33 ∧ 9 = 9)) from by omega))
              have nσ5_1 : NN σ5 1 := NN_fx nσ3_1 cσ5 (show ¬ (1 = 47 ∨ 1 = 48 ∨ 1 = 36 ∨ 1 = 37 ∨ 1 = 38 ∨ 1 = 39) from by omega) (show ¬ (2 = 47 ∨ 2 = 48 ∨ 2 = 36 ∨ 2 = 37 ∨ 2 = 38 ∨ 2 = 39) from by omega) (show ¬ (3 = 47 ∨ 3 = 48 ∨ 3 = 36 ∨ 3 = 37 ∨ 3 = 38 ∨ 3 = 39) from by omega) (show ¬ ((1 = 33 ∧ 1 = 9)) from by omega) (show ¬ ((1 = 33 ∧ 3 = 9)) from by omega) (fun k (h9 : (2 = 33 ∧ k = 9)) => by omega) (fun k (h9 : (3 = 33 ∧ k = 9)) => by omega)
              refine ⟨?_, ?_⟩
              · intro q_92
                replace H := f_t q_92 H
                have w_93 := Int32.toInt_lt x3
                have w_94 := Int32.le_toInt x3
                have b_95 : x3.toInt = 0 := congrArg Int32.toInt q_92
                refine kF_X1_allAt (Or.inr (Or.inr rfl)) mσ5   (fun r8 σ7 mσ7 cσ7 hσ7 => ?_)
                obtain rfl := FX_nil cσ7
                replace H := f_b hσ7 H
                have t_96 := XI_c1 mσ5 (id := 1) (k := 1) (lim_C0_1 (Or.inl rfl))
                have t_97 := XI_c1 mσ5 (id := 1) (k := 9) (lim_C0_9 (Or.inl rfl))
                exact h9ret r8 σ5 mσ5 fσ5 nσ5_1 (H0.trans H.symm)
              · intro q_92
                replace H := f_f q_92 H
                have w_98 := Int32.toInt_lt x3
                have w_99 := Int32.le_toInt x3
                have b_100 : ¬ x3.toInt = 0 := fun h9 => q_92 (Int32.toInt_inj.mp h9)
                have w_101 := Int32.toInt_lt x2
                have w_102 := Int32.le_toInt x2
                try have t_103 : (x2 - (10 : Int32)).toInt = x2.toInt - 10 := i_sub (x := x2) (y := (10 : Int32)) (by show (_ : Int) ≤ x2.toInt - 10; omega) (by show x2.toInt - 10 ≤ (_ : Int); omega)
                have hv_104 : vp_in (x2 - (10 : Int32)) 6 := vp_in_iff.mpr ⟨by omega, by omega⟩
                refine ⟨hv_104, ?_⟩
                exact h9ret (gi σ5 36 (x2 - (10 : Int32)).toNatClampNeg) σ5 mσ5 fσ5 nσ5_1 (H0.trans H.symm)
            · intro q_86
              replace H := f_f q_86 H
              have w_105 := Int32.toInt_lt x4
              have w_106 := Int32.le_toInt x4
              have b_107 : ¬ x4.toInt = 0 := fun h9 => q_86 (Int32.toInt_inj.mp h9)
              have w_108 := Int32.toInt_lt x2
              have w_109 := Int32.le_toInt x2
              try have t_110 : (x2 - (20 : Int32)).toInt = x2.toInt - 20 := i_sub (x := x2) (y := (20 : Int32)) (by show (_ : Int) ≤ x2.toInt - 20; omega) (by show x2.toInt - 20 ≤ (_ : Int); omega)
              refine kF_X11_heldTimes  mσ3 nσ3_33 (by omega) (by omega) (by first | with_reducible assumption | with_reducible rfl | omega | assumption | rfl) (fun r11 σ10 mσ10 cσ10 nσ10_33 hσ10 => ?_)
              replace H := f_b hσ10 H
              have fσ10 : FX (fun id => id = 34 ∨ id = 35 ∨ id = 36 ∨ id = 37 ∨ id = 38 ∨ id = 39 ∨ id = 40 ∨ id = 47 ∨ id = 48) (fun id k => (id = 33 ∧ k = 1) ∨ (id = 33 ∧ k = 3) ∨ (id = 33 ∧ k = 9) ∨ (id = 33 ∧ k = 10) ∨ (id = 33 ∧ k = 11)) σ0 σ10 := FX_tr fσ3 cσ10 (fun x (h9 : x = 36 ∨ x = 37 ∨ x = 38 ∨ x = 39 ∨ x = 47 ∨ x = 48) => h9.elim (fun e9 => (show x = 34 ∨ x = 35 ∨ x = 36 ∨ x = 37 ∨ x = 38 ∨ x = 39 ∨ x = 40 ∨ x = 47 ∨ x = 48 from Or.inr (Or.inr (Or.inl (e9))))) (fun h9 => h9.elim (fun e9 => (show x = 34 ∨ x = 35 ∨ x = 36 ∨ x = 37 ∨ x = 38 ∨ x = 39 ∨ x = 40 ∨ x = 47 ∨ x = 48 from Or.inr (Or.inr (Or.inr (Or.inl (e9)))))) (fun h9 => h9.elim (fun e9 => (show x = 34 ∨ x = 35 ∨ x = 36 ∨ x = 37 ∨ x = 38 ∨ x = 39 ∨ x = 40 ∨ x = 47 ∨ x = 48 from Or.inr (Or.inr (Or.inr (Or.inr (Or.inl (e9))))))) (fun h9 => h9.elim (fun e9 => (show x = 34 ∨ x = 35 ∨ x = 36 ∨ x = 37 ∨ x = 38 ∨ x = 39 ∨ x = 40 ∨ x = 47 ∨ x = 48 from Or.inr (Or.inr (Or.inr (Or.inr (Or.inr (Or.inl (e9)))))))) (fun h9 => h9.elim (fun e9 => (show x = 34 ∨ x = 35 ∨ x = 36 ∨ x = 37 ∨ x = 38 ∨ x = 39 ∨ x = 40 ∨ x = 47 ∨ x = 48 from Or.inr (Or.inr (Or.inr (Or.inr (Or.inr (Or.inr (Or.inr (Or.inl (e9)))))))))) (fun h9 => (show x = 34 ∨ x = 35 ∨ x = 36 ∨ x = 37 ∨ x = 38 ∨ x = 39 ∨ x = 40 ∨ x = 47 ∨ x = 48 from Or.inr (Or.inr (Or.inr (Or.inr (Or.inr (Or.inr (Or.inr (Or.inr (h9))))))))))))))) (fun x k (h9 : (x = 33 ∧ k = 9)) => (show (x = 34 ∨ x = 35 ∨ x = 36 ∨ x = 37 ∨ x = 38 ∨ x = 39 ∨ x = 40 ∨ x = 47 ∨ x = 48) ∨ ((x = 33 ∧ k = 1) ∨ (x = 33 ∧ k = 3) ∨ (x = 33 ∧ k = 9) ∨ (x = 33 ∧ k = 10) ∨ (x = 33 ∧ k = 11)) from Or.inr (show (x = 33 ∧ k = 1) ∨ (x = 33 ∧ k = 3) ∨ (x = 33 ∧ k = 9) ∨ (x = 33 ∧ k = 10) ∨ (x = 33 ∧ k = 11) from Or.inr (Or.inr (Or.inl (h9))))))
              have k_111 : (gi σ10 1 1).toInt = (gi σ3 1 1).toInt := congrArg Int32.toInt (FX_i cσ10 (show ¬ (1 = 36 ∨ 1 = 37 ∨ 1 = 38 ∨ 1 = 39 ∨ 1 = 47 ∨ 1 = 48) from by omega) (show ¬ ((1 = 33 ∧ 1 = 9)) from by omega))
              have k_112 : (gi σ10 1 9).toInt = (gi σ3 1 9).toInt := congrArg Int32.toInt (FX_i cσ10 (show ¬ (1 = 36 ∨ 1 = 37 ∨ 1 = 38 ∨ 1 = 39 ∨ 1 = 47 ∨ 1 = 48) from by omega) (show ¬ ((1 = 33 ∧ 9 = 9)) from by omega))
              have nσ10_1 : NN σ10 1 := NN_fx nσ3_1 cσ10 (show ¬ (1 = 36 ∨ 1 = 37 ∨ 1 = 38 ∨ 1 = 39 ∨ 1 = 47 ∨ 1 = 48) from by omega) (show ¬ (2 = 36 ∨ 2 = 37 ∨ 2 = 38 ∨ 2 = 39 ∨ 2 = 47 ∨ 2 = 48) from by omega) (show ¬ (3 = 36 ∨ 3 = 37 ∨ 3 = 38 ∨ 3 = 39 ∨ 3 = 47 ∨ 3 = 48) from by omega) (show ¬ ((1 = 33 ∧ 1 = 9)) from by omega) (show ¬ ((1 = 33 ∧ 3 = 9)) from by omega) (fun k (h9 : (2 = 33 ∧ k = 9)) => by omega) (fun k (h9 : (3 = 33 ∧ k = 9)) => by omega)
              exact h9ret r11 σ10 mσ10 fσ10 nσ10_1 (H0.trans H.symm)
          · intro q_81
            replace H := f_f q_81 H
            have b_113 : ¬ x1.toInt ≤ 60 := fun h9 => q_81 (Int32.le_iff_toInt_le.mpr h9)
            have z_114 : (-2 : Int32).toInt = -2 := rfl
            exact h9ret (-2 : Int32) σ mσ fσ nσ_1 (H0.trans H.symm)
  obtain ⟨U22, U45, U62⟩ := T 9
  have f0 : FX (fun id => id = 34 ∨ id = 35 ∨ id = 36 ∨ id = 37 ∨ id = 38 ∨ id = 39 ∨ id = 40 ∨ id = 47 ∨ id = 48) (fun id k => (id = 33 ∧ k = 1) ∨ (id = 33 ∧ k = 3) ∨ (id = 33 ∧ k = 9) ∨ (id = 33 ∧ k = 10) ∨ (id = 33 ∧ k = 11)) σ0 σ0 := FX_rf
  have t_115 := XI_c1 m0 (id := 1) (k := 1) (lim_C0_1 (Or.inl rfl))
  have t_116 := XI_c1 m0 (id := 1) (k := 9) (lim_C0_9 (Or.inl rfl))
  have H := H0
  unfold F_X11_on at H
  refine s_X11_on_0 C hN  ?_
  refine ⟨?_, ?_⟩
  · intro q_117
    replace H := f_t q_117 H
    have w_118 := Int32.toInt_lt a2
    have w_119 := Int32.le_toInt a2
    have b_120 : a2.toInt < 10 := Int32.lt_iff_toInt_lt.mp q_117
    have w_121 := Int32.toInt_lt a1
    have w_122 := Int32.le_toInt a1
    have z_123 : (0 : Int32).toInt = 0 := rfl
    exact U22 a1 a2 (0 : Int32) σ0 m0 f0 nn_1 (by first | with_reducible assumption | with_reducible rfl | omega | assumption | rfl) H (by omega)
  · intro q_117
    replace H := f_f q_117 H
    have w_124 := Int32.toInt_lt a2
    have w_125 := Int32.le_toInt a2
    have b_126 : ¬ a2.toInt < 10 := fun h9 => q_117 (Int32.lt_iff_toInt_lt.mpr h9)
    try have t_127 : (a2 - (10 : Int32)).toInt = a2.toInt - 10 := i_sub (x := a2) (y := (10 : Int32)) (by show (_ : Int) ≤ a2.toInt - 10; omega) (by show a2.toInt - 10 ≤ (_ : Int); omega)
    refine kF_X11_isMower  m0   (fun r3 σ2 mσ2 cσ2 plσ2 phσ2 (pσ2_0 : (r3.toInt = 1 ∧ 0 ≤ (a2 - (10 : Int32)).toInt ∧ (a2 - (10 : Int32)).toInt < (gi σ0 1 1).toInt) ∨ (r3.toInt = 0 ∧ ((a2 - (10 : Int32)).toInt < 0 ∨ (gi σ0 1 1).toInt ≤ (a2 - (10 : Int32)).toInt))) hσ2 => ?_)
    obtain rfl := FX_nil cσ2
    replace H := f_b hσ2 H
    refine ⟨?_, ?_⟩
    · intro q_128
      replace H := f_t q_128 H
      have b_129 : r3.toInt = 0 := congrArg Int32.toInt q_128
      have w_130 := Int32.toInt_lt a1
      have w_131 := Int32.le_toInt a1
      have z_132 : (0 : Int32).toInt = 0 := rfl
      exact U22 a1 a2 (0 : Int32) σ0 m0 f0 nn_1 (by first | with_reducible assumption | with_reducible rfl | omega | assumption | rfl) H (by omega)
    · intro q_128
      replace H := f_f q_128 H
      have b_133 : ¬ r3.toInt = 0 := fun h9 => q_128 (Int32.toInt_inj.mp h9)
      have w_134 := Int32.toInt_lt a1
      have w_135 := Int32.le_toInt a1
      have z_136 : (1 : Int32).toInt = 1 := rfl
      exact U22 a1 a2 (1 : Int32) σ0 m0 f0 nn_1 (by first | with_reducible assumption | with_reducible rfl | omega | assumption | rfl) H (by omega)
set_option maxRecDepth 100000 in
set_option maxHeartbeats 4000000 in
theorem kF_X11_done {l : Launch} {V : Vx} {σ0 : Sg} {Qk : Int32 → Sg → Prop} (m0 : XI V σ0) (nn_1 : NN σ0 1) (pre0 : (gi σ0 1 9).toInt ≤ 9999) (h9ret : ∀ (r : Int32) (σ' : Sg), XI V σ' → FX (fun id => id = 34 ∨ id = 35 ∨ id = 36 ∨ id = 37 ∨ id = 38 ∨ id = 39 ∨ id = 40 ∨ id = 47 ∨ id = 48) (fun id k => (id = 33 ∧ k = 1) ∨ (id = 33 ∧ k = 3) ∨ (id = 33 ∧ k = 9) ∨ (id = 33 ∧ k = 10) ∨ (id = 33 ∧ k = 11)) σ0 σ' → (NN σ' 1) → (F_X11_done σ0 = (r, σ')) → Qk r σ') : K_X11_done l V σ0 Qk := by
  refine e_X11_done (fun M hl hV hN C => ?_)
  subst hl
  subst hV
  obtain ⟨R9, H0⟩ : ∃ R9, F_X11_done σ0 = R9 := ⟨_, rfl⟩
  have T : ∀ n : Nat, (∀ (x1 : Int32) (σ : Sg), XI (mV M) σ → FX (fun id => id = 34 ∨ id = 35 ∨ id = 36 ∨ id = 37 ∨ id = 38 ∨ id = 39 ∨ id = 40 ∨ id = 47 ∨ id = 48) (fun id k => (id = 33 ∧ k = 1) ∨ (id = 33 ∧ k = 3) ∨ (id = 33 ∧ k = 9) ∨ (id = 33 ∧ k = 10) ∨ (id = 33 ∧ k = 11)) σ0 σ → NN σ 1 → NN σ 33 → (0 ≤ x1.toInt) → (x1.toInt ≤ 121) → ((gi σ 33 9).toInt ≤ 9999 + x1.toInt) → (LF_X11_done n x1 σ = R9) → (122 - x1.toInt).toNat < n → PS M 13 [(0, .ref 0), (1, .int x1)] [] σ (0, 0)) := by
    intro n
    induction n with
    | zero => exact fun _ _ _ _ _ _ _ _ _ _ h8 => absurd h8 (Nat.not_lt_zero _)
    | succ n ih =>
      have ih13 := ih
      · intro x1 σ mσ fσ nσ_1 nσ_33 lx1 ux1 i0 H hmu
        replace H : LB_X11_done_13 (LF_X11_done n) x1 σ = R9 := H
        unfold LB_X11_done_13 at H
        have k_1 : (gi σ 1 1).toInt = (gi σ0 1 1).toInt := congrArg Int32.toInt (FX_i fσ (show ¬ (1 = 34 ∨ 1 = 35 ∨ 1 = 36 ∨ 1 = 37 ∨ 1 = 38 ∨ 1 = 39 ∨ 1 = 40 ∨ 1 = 47 ∨ 1 = 48) from by omega) (show ¬ ((1 = 33 ∧ 1 = 1) ∨ (1 = 33 ∧ 1 = 3) ∨ (1 = 33 ∧ 1 = 9) ∨ (1 = 33 ∧ 1 = 10) ∨ (1 = 33 ∧ 1 = 11)) from by omega))
        have t_2 := XI_c1 mσ (id := 1) (k := 1) (lim_C0_1 (Or.inl rfl))
        have k_3 : (gi σ 1 9).toInt = (gi σ0 1 9).toInt := congrArg Int32.toInt (FX_i fσ (show ¬ (1 = 34 ∨ 1 = 35 ∨ 1 = 36 ∨ 1 = 37 ∨ 1 = 38 ∨ 1 = 39 ∨ 1 = 40 ∨ 1 = 47 ∨ 1 = 48) from by omega) (show ¬ ((1 = 33 ∧ 9 = 1) ∨ (1 = 33 ∧ 9 = 3) ∨ (1 = 33 ∧ 9 = 9) ∨ (1 = 33 ∧ 9 = 10) ∨ (1 = 33 ∧ 9 = 11)) from by omega))
        have t_4 := XI_c1 mσ (id := 1) (k := 9) (lim_C0_9 (Or.inl rfl))
        have t_5 := XI_c1 mσ (id := 33) (k := 9) (lim_C0_9 (Or.inr (Or.inr rfl)))
        refine s_X11_done_13 C hN  ?_
        refine ⟨?_, ?_⟩
        · intro q_6
          replace H := f_t q_6 H
          have b_7 : (120 : Int) < x1.toInt := Int32.lt_iff_toInt_lt.mp q_6
          have z_8 : (-5 : Int32).toInt = -5 := rfl
          exact h9ret (-5 : Int32) σ mσ fσ nσ_1 (H0.trans H.symm)
        · intro q_6
          replace H := f_f q_6 H
          have b_9 : ¬ (120 : Int) < x1.toInt := fun h9 => q_6 (Int32.lt_iff_toInt_lt.mpr h9)
          refine kF_X1_isDone (Or.inr (Or.inr rfl)) mσ   (fun r3 σ2 mσ2 cσ2 plσ2 phσ2 hσ2 => ?_)
          obtain rfl := FX_nil cσ2
          replace H := f_b hσ2 H
          refine ⟨?_, ?_⟩
          · intro q_10
            replace H := f_t q_10 H
            have b_11 : r3.toInt = 0 := congrArg Int32.toInt q_10
            refine kF_X1_goesMinute (Or.inr (Or.inr rfl)) mσ nσ_33 (by first | with_reducible assumption | with_reducible rfl | omega | assumption | rfl) (fun r6 σ5 mσ5 cσ5 nσ5_33 (pσ5_0 : (gi σ5 33 9).toInt = (gi σ 33 9).toInt + 1) hσ5 => ?_)
            replace H := f_b hσ5 H
            have fσ5 : FX (fun id => id = 34 ∨ id = 35 ∨ id = 36 ∨ id = 37 ∨ id = 38 ∨ id = 39 ∨ id = 40 ∨ id = 47 ∨ id = 48) (fun id k => (id = 33 ∧ k = 1) ∨ (id = 33 ∧ k = 3) ∨ (id = 33 ∧ k = 9) ∨ (id = 33 ∧ k = 10) ∨ (id = 33 ∧ k = 11)) σ0 σ5 := FX_tr fσ cσ5 (fun x (h9 : x = 47 ∨ x = 48 ∨ x = 36 ∨ x = 37 ∨ x = 38 ∨ x = 39) => h9.elim (fun e9 => (show x = 34 ∨ x = 35 ∨ x = 36 ∨ x = 37 ∨ x = 38 ∨ x = 39 ∨ x = 40 ∨ x = 47 ∨ x = 48 from Or.inr (Or.inr (Or.inr (Or.inr (Or.inr (Or.inr (Or.inr (Or.inl (e9)))))))))) (fun h9 => h9.elim (fun e9 => (show x = 34 ∨ x = 35 ∨ x = 36 ∨ x = 37 ∨ x = 38 ∨ x = 39 ∨ x = 40 ∨ x = 47 ∨ x = 48 from Or.inr (Or.inr (Or.inr (Or.inr (Or.inr (Or.inr (Or.inr (Or.inr (e9)))))))))) (fun h9 => h9.elim (fun e9 => (show x = 34 ∨ x = 35 ∨ x = 36 ∨ x = 37 ∨ x = 38 ∨ x = 39 ∨ x = 40 ∨ x = 47 ∨ x = 48 from Or.inr (Or.inr (Or.inl (e9))))) (fun h9 => h9.elim (fun e9 => (show x = 34 ∨ x = 35 ∨ x = 36 ∨ x = 37 ∨ x = 38 ∨ x = 39 ∨ x = 40 ∨ x = 47 ∨ x = 48 from Or.inr (Or.inr (Or.inr (Or.inl (e9)))))) (fun h9 => h9.elim (fun e9 => (show x = 34 ∨ x = 35 ∨ x = 36 ∨ x = 37 ∨ x = 38 ∨ x = 39 ∨ x = 40 ∨ x = 47 ∨ x = 48 from Or.inr (Or.inr (Or.inr (Or.inr (Or.inl (e9))))))) (fun h9 => (show x = 34 ∨ x = 35 ∨ x = 36 ∨ x = 37 ∨ x = 38 ∨ x = 39 ∨ x = 40 ∨ x = 47 ∨ x = 48 from Or.inr (Or.inr (Or.inr (Or.inr (Or.inr (Or.inl (h9))))))))))))) (fun x k (h9 : (x = 33 ∧ k = 9)) => (show (x = 34 ∨ x = 35 ∨ x = 36 ∨ x = 37 ∨ x = 38 ∨ x = 39 ∨ x = 40 ∨ x = 47 ∨ x = 48) ∨ ((x = 33 ∧ k = 1) ∨ (x = 33 ∧ k = 3) ∨ (x = 33 ∧ k = 9) ∨ (x = 33 ∧ k = 10) ∨ (x = 33 ∧ k = 11)) from Or.inr (show (x = 33 ∧ k = 1) ∨ (x = 33 ∧ k = 3) ∨ (x = 33 ∧ k = 9) ∨ (x = 33 ∧ k = 10) ∨ (x = 33 ∧ k = 11) from Or.inr (Or.inr (Or.inl (h9))))))
            have k_12 : (gi σ5 1 1).toInt = (gi σ 1 1).toInt := congrArg Int32.toInt (FX_i cσ5 (show ¬ (1 = 47 ∨ 1 = 48 ∨ 1 = 36 ∨ 1 = 37 ∨ 1 = 38 ∨ 1 = 39) from by omega) (show ¬ ((1 = 33 ∧ 1 = 9)) from by omega))
            have k_13 : (gi σ5 1 9).toInt = (gi σ 1 9).toInt := congrArg Int32.toInt (FX_i cσ5 (show ¬ (1 = 47 ∨ 1 = 48 ∨ 1 = 36 ∨ 1 = 37 ∨ 1 = 38 ∨ 1 = 39) from by omega) (show ¬ ((1 = 33 ∧ 9 = 9)) from by omega))
            have t_14 := XI_c1 mσ5 (id := 33) (k := 9) (lim_C0_9 (Or.inr (Or.inr rfl)))
            have nσ5_1 : NN σ5 1 := NN_fx nσ_1 cσ5 (show ¬ (1 = 47 ∨ 1 = 48 ∨ 1 = 36 ∨ 1 = 37 ∨ 1 = 38 ∨ 1 = 39) from by omega) (show ¬ (2 = 47 ∨ 2 = 48 ∨ 2 = 36 ∨ 2 = 37 ∨ 2 = 38 ∨ 2 = 39) from by omega) (show ¬ (3 = 47 ∨ 3 = 48 ∨ 3 = 36 ∨ 3 = 37 ∨ 3 = 38 ∨ 3 = 39) from by omega) (show ¬ ((1 = 33 ∧ 1 = 9)) from by omega) (show ¬ ((1 = 33 ∧ 3 = 9)) from by omega) (fun k (h9 : (2 = 33 ∧ k = 9)) => by omega) (fun k (h9 : (3 = 33 ∧ k = 9)) => by omega)
            intro v7 ev7
            replace H := f_l ev7 H
            have t_15 : (x1 + (1 : Int32)).toInt = x1.toInt + 1 := i_add (x := x1) (y := (1 : Int32)) (by show (_ : Int) ≤ x1.toInt + 1; omega) (by show x1.toInt + 1 ≤ (_ : Int); omega)
            have t_16 : v7.toInt = (x1 + (1 : Int32)).toInt := congrArg Int32.toInt ev7
            exact ih13 v7 σ5 mσ5 fσ5 nσ5_1 nσ5_33 (by omega) (by omega) (by first | with_reducible assumption | with_reducible rfl | omega | assumption | rfl) H (by omega)
          · intro q_10
            replace H := f_f q_10 H
            have b_17 : ¬ r3.toInt = 0 := fun h9 => q_10 (Int32.toInt_inj.mp h9)
            exact h9ret x1 σ mσ fσ nσ_1 (H0.trans H.symm)
  have U13 := T 200
  have f0 : FX (fun id => id = 34 ∨ id = 35 ∨ id = 36 ∨ id = 37 ∨ id = 38 ∨ id = 39 ∨ id = 40 ∨ id = 47 ∨ id = 48) (fun id k => (id = 33 ∧ k = 1) ∨ (id = 33 ∧ k = 3) ∨ (id = 33 ∧ k = 9) ∨ (id = 33 ∧ k = 10) ∨ (id = 33 ∧ k = 11)) σ0 σ0 := FX_rf
  have t_18 := XI_c1 m0 (id := 1) (k := 1) (lim_C0_1 (Or.inl rfl))
  have t_19 := XI_c1 m0 (id := 1) (k := 9) (lim_C0_9 (Or.inl rfl))
  have t_20 := XI_c1 m0 (id := 33) (k := 9) (lim_C0_9 (Or.inr (Or.inr rfl)))
  have H := H0
  unfold F_X11_done at H
  refine s_X11_done_0 C hN  ?_
  have z_21 : (1 : Int32).toInt = 1 := rfl
  refine kF_X1_becomes (Or.inr (Or.inr rfl)) (Or.inl rfl) m0 nn_1 (by first | with_reducible assumption | with_reducible rfl | omega | assumption | rfl) (fun σ1 mσ1 cσ1 nσ1_1 nσ1_33 (pσ1_0 : (gi σ1 33 1).toInt = (gi σ0 1 1).toInt) (pσ1_1 : (gi σ1 33 3).toInt = (gi σ0 1 3).toInt) (pσ1_2 : (gi σ1 33 9).toInt = (gi σ0 1 9).toInt) (pσ1_3 : CPY σ0 σ1 33 1) hσ1 => ?_)
  replace H := f_v hσ1 H
  have fσ1 : FX (fun id => id = 34 ∨ id = 35 ∨ id = 36 ∨ id = 37 ∨ id = 38 ∨ id = 39 ∨ id = 40 ∨ id = 47 ∨ id = 48) (fun id k => (id = 33 ∧ k = 1) ∨ (id = 33 ∧ k = 3) ∨ (id = 33 ∧ k = 9) ∨ (id = 33 ∧ k = 10) ∨ (id = 33 ∧ k = 11)) σ0 σ1 := FX_tr f0 cσ1 (fun x (h9 : x = 34 ∨ x = 35 ∨ x = 36 ∨ x = 37 ∨ x = 38 ∨ x = 39 ∨ x = 40) => h9.elim (fun e9 => (show x = 34 ∨ x = 35 ∨ x = 36 ∨ x = 37 ∨ x = 38 ∨ x = 39 ∨ x = 40 ∨ x = 47 ∨ x = 48 from Or.inl (e9))) (fun h9 => h9.elim (fun e9 => (show x = 34 ∨ x = 35 ∨ x = 36 ∨ x = 37 ∨ x = 38 ∨ x = 39 ∨ x = 40 ∨ x = 47 ∨ x = 48 from Or.inr (Or.inl (e9)))) (fun h9 => h9.elim (fun e9 => (show x = 34 ∨ x = 35 ∨ x = 36 ∨ x = 37 ∨ x = 38 ∨ x = 39 ∨ x = 40 ∨ x = 47 ∨ x = 48 from Or.inr (Or.inr (Or.inl (e9))))) (fun h9 => h9.elim (fun e9 => (show x = 34 ∨ x = 35 ∨ x = 36 ∨ x = 37 ∨ x = 38 ∨ x = 39 ∨ x = 40 ∨ x = 47 ∨ x = 48 from Or.inr (Or.inr (Or.inr (Or.inl (e9)))))) (fun h9 => h9.elim (fun e9 => (show x = 34 ∨ x = 35 ∨ x = 36 ∨ x = 37 ∨ x = 38 ∨ x = 39 ∨ x = 40 ∨ x = 47 ∨ x = 48 from Or.inr (Or.inr (Or.inr (Or.inr (Or.inl (e9))))))) (fun h9 => h9.elim (fun e9 => (show x = 34 ∨ x = 35 ∨ x = 36 ∨ x = 37 ∨ x = 38 ∨ x = 39 ∨ x = 40 ∨ x = 47 ∨ x = 48 from Or.inr (Or.inr (Or.inr (Or.inr (Or.inr (Or.inl (e9)))))))) (fun h9 => (show x = 34 ∨ x = 35 ∨ x = 36 ∨ x = 37 ∨ x = 38 ∨ x = 39 ∨ x = 40 ∨ x = 47 ∨ x = 48 from Or.inr (Or.inr (Or.inr (Or.inr (Or.inr (Or.inr (Or.inl (h9))))))))))))))) (fun x k (h9 : (x = 33 ∧ k = 1) ∨ (x = 33 ∧ k = 3) ∨ (x = 33 ∧ k = 9) ∨ (x = 33 ∧ k = 10) ∨ (x = 33 ∧ k = 11)) => (show (x = 34 ∨ x = 35 ∨ x = 36 ∨ x = 37 ∨ x = 38 ∨ x = 39 ∨ x = 40 ∨ x = 47 ∨ x = 48) ∨ ((x = 33 ∧ k = 1) ∨ (x = 33 ∧ k = 3) ∨ (x = 33 ∧ k = 9) ∨ (x = 33 ∧ k = 10) ∨ (x = 33 ∧ k = 11)) from h9.elim (fun e9 => Or.inr (show (x = 33 ∧ k = 1) ∨ (x = 33 ∧ k = 3) ∨ (x = 33 ∧ k = 9) ∨ (x = 33 ∧ k = 10) ∨ (x = 33 ∧ k = 11) from Or.inl (e9))) (fun h9 => h9.elim (fun e9 => Or.inr (show (x = 33 ∧ k = 1) ∨ (x = 33 ∧ k = 3) ∨ (x = 33 ∧ k = 9) ∨ (x = 33 ∧ k = 10) ∨ (x = 33 ∧ k = 11) from Or.inr (Or.inl (e9)))) (fun h9 => h9.elim (fun e9 => Or.inr (show (x = 33 ∧ k = 1) ∨ (x = 33 ∧ k = 3) ∨ (x = 33 ∧ k = 9) ∨ (x = 33 ∧ k = 10) ∨ (x = 33 ∧ k = 11) from Or.inr (Or.inr (Or.inl (e9))))) (fun h9 => h9.elim (fun e9 => Or.inr (show (x = 33 ∧ k = 1) ∨ (x = 33 ∧ k = 3) ∨ (x = 33 ∧ k = 9) ∨ (x = 33 ∧ k = 10) ∨ (x = 33 ∧ k = 11) from Or.inr (Or.inr (Or.inr (Or.inl (e9)))))) (fun h9 => Or.inr (show (x = 33 ∧ k = 1) ∨ (x = 33 ∧ k = 3) ∨ (x = 33 ∧ k = 9) ∨ (x = 33 ∧ k = 10) ∨ (x = 33 ∧ k = 11) from Or.inr (Or.inr (Or.inr (Or.inr (h9)))))))))))
  have k_22 : (gi σ1 1 1).toInt = (gi σ0 1 1).toInt := congrArg Int32.toInt (FX_i cσ1 (show ¬ (1 = 34 ∨ 1 = 35 ∨ 1 = 36 ∨ 1 = 37 ∨ 1 = 38 ∨ 1 = 39 ∨ 1 = 40) from by omega) (show ¬ ((1 = 33 ∧ 1 = 1) ∨ (1 = 33 ∧ 1 = 3) ∨ (1 = 33 ∧ 1 = 9) ∨ (1 = 33 ∧ 1 = 10) ∨ (1 = 33 ∧ 1 = 11)) from by omega))
  have k_23 : (gi σ1 1 9).toInt = (gi σ0 1 9).toInt := congrArg Int32.toInt (FX_i cσ1 (show ¬ (1 = 34 ∨ 1 = 35 ∨ 1 = 36 ∨ 1 = 37 ∨ 1 = 38 ∨ 1 = 39 ∨ 1 = 40) from by omega) (show ¬ ((1 = 33 ∧ 9 = 1) ∨ (1 = 33 ∧ 9 = 3) ∨ (1 = 33 ∧ 9 = 9) ∨ (1 = 33 ∧ 9 = 10) ∨ (1 = 33 ∧ 9 = 11)) from by omega))
  have t_24 := XI_c1 mσ1 (id := 33) (k := 9) (lim_C0_9 (Or.inr (Or.inr rfl)))
  have z_25 : (0 : Int32).toInt = 0 := rfl
  exact U13 (0 : Int32) σ1 mσ1 fσ1 nσ1_1 nσ1_33 (by omega) (by omega) (by first | with_reducible assumption | with_reducible rfl | omega | assumption | rfl) H (by omega)
set_option maxRecDepth 100000 in
set_option maxHeartbeats 4000000 in
theorem kF_X11_totalBy {l : Launch} {V : Vx} {a1 : Int32} {a2 : Int32} {a3 : Int32} {σ0 : Sg} {Qk : Int32 → Sg → Prop} (m0 : XI V σ0) (nn_1 : NN σ0 1) (l_a2 : 1 ≤ a2.toInt) (u_a2 : a2.toInt ≤ 60) (pre0 : (gi σ0 1 9).toInt ≤ 9999) (h9ret : ∀ (r : Int32) (σ' : Sg), XI V σ' → FX (fun id => id = 34 ∨ id = 35 ∨ id = 36 ∨ id = 37 ∨ id = 38 ∨ id = 39 ∨ id = 40 ∨ id = 47 ∨ id = 48) (fun id k => (id = 33 ∧ k = 1) ∨ (id = 33 ∧ k = 3) ∨ (id = 33 ∧ k = 9) ∨ (id = 33 ∧ k = 10) ∨ (id = 33 ∧ k = 11)) σ0 σ' → (NN σ' 1) → (F_X11_totalBy a1 a2 a3 σ0 = (r, σ')) → Qk r σ') : K_X11_totalBy l V a1 a2 a3 σ0 Qk := by
  refine e_X11_totalBy (fun M hl hV hN C => ?_)
  subst hl
  subst hV
  obtain ⟨R9, H0⟩ : ∃ R9, F_X11_totalBy a1 a2 a3 σ0 = R9 := ⟨_, rfl⟩
  have T : ∀ n : Nat, (∀ (x1 : Int32) (x2 : Int32) (x3 : Int32) (σ : Sg), XI (mV M) σ → FX (fun id => id = 34 ∨ id = 35 ∨ id = 36 ∨ id = 37 ∨ id = 38 ∨ id = 39 ∨ id = 40 ∨ id = 47 ∨ id = 48) (fun id k => (id = 33 ∧ k = 1) ∨ (id = 33 ∧ k = 3) ∨ (id = 33 ∧ k = 9) ∨ (id = 33 ∧ k = 10) ∨ (id = 33 ∧ k = 11)) σ0 σ → NN σ 1 → NN σ 33 → (1 ≤ x2.toInt) → (x2.toInt ≤ 60) → ((gi σ 33 9).toInt = (gi σ0 1 9).toInt) → (LF_X11_totalBy n 0 x1 x2 x3 0 σ = R9) → 900 < n → PS M 24 [(0, .ref 0), (1, .int x1), (2, .int x2), (3, .int x3)] [] σ (0, 0)) ∧ (∀ (x1 : Int32) (x2 : Int32) (x3 : Int32) (x4 : Int32) (σ : Sg), XI (mV M) σ → FX (fun id => id = 34 ∨ id = 35 ∨ id = 36 ∨ id = 37 ∨ id = 38 ∨ id = 39 ∨ id = 40 ∨ id = 47 ∨ id = 48) (fun id k => (id = 33 ∧ k = 1) ∨ (id = 33 ∧ k = 3) ∨ (id = 33 ∧ k = 9) ∨ (id = 33 ∧ k = 10) ∨ (id = 33 ∧ k = 11)) σ0 σ → NN σ 1 → NN σ 33 → (1 ≤ x2.toInt) → (x2.toInt ≤ 60) → (0 ≤ x4.toInt) → (x4.toInt ≤ 60) → ((gi σ 33 9).toInt ≤ 9999 + 6 * x4.toInt) → (x4.toInt ≤ x2.toInt) → (LF_X11_totalBy n 1 x1 x2 x3 x4 σ = R9) → (61 - x4.toInt).toNat * 2 + 1 < n → PS M 53 [(0, .ref 0), (1, .int x1), (2, .int x2), (3, .int x3), (4, .int x4)] [] σ (0, 0)) ∧ (∀ (x1 : Int32) (x2 : Int32) (x3 : Int32) (x4 : Int32) (σ : Sg), XI (mV M) σ → FX (fun id => id = 34 ∨ id = 35 ∨ id = 36 ∨ id = 37 ∨ id = 38 ∨ id = 39 ∨ id = 40 ∨ id = 47 ∨ id = 48) (fun id k => (id = 33 ∧ k = 1) ∨ (id = 33 ∧ k = 3) ∨ (id = 33 ∧ k = 9) ∨ (id = 33 ∧ k = 10) ∨ (id = 33 ∧ k = 11)) σ0 σ → NN σ 1 → NN σ 33 → (1 ≤ x2.toInt) → (x2.toInt ≤ 60) → (0 ≤ x4.toInt) → (x4.toInt ≤ 59) → ((gi σ 33 9).toInt ≤ 9999 + 6 * x4.toInt + 5) → (x4.toInt < x2.toInt) → (LF_X11_totalBy n 2 x1 x2 x3 x4 σ = R9) → (61 - x4.toInt).toNat * 2 < n → PS M 78 [(0, .ref 0), (1, .int x1), (2, .int x2), (3, .int x3), (4, .int x4)] [] σ (0, 0)) := by
    intro n
    induction n with
    | zero => exact ⟨fun _ _ _ _ _ _ _ _ _ _ _ _ h8 => absurd h8 (Nat.not_lt_zero _), fun _ _ _ _ _ _ _ _ _ _ _ _ _ _ _ _ h8 => absurd h8 (Nat.not_lt_zero _), fun _ _ _ _ _ _ _ _ _ _ _ _ _ _ _ _ h8 => absurd h8 (Nat.not_lt_zero _)⟩
    | succ n ih =>
      obtain ⟨ih24, ih53, ih78⟩ := ih
      refine ⟨?_, ?_, ?_⟩
      · intro x1 x2 x3 σ mσ fσ nσ_1 nσ_33 lx2 ux2 i0 H hmu
        replace H : LB_X11_totalBy_24 (LF_X11_totalBy n) x1 x2 x3 σ = R9 := H
        unfold LB_X11_totalBy_24 at H
        have k_1 : (gi σ 1 1).toInt = (gi σ0 1 1).toInt := congrArg Int32.toInt (FX_i fσ (show ¬ (1 = 34 ∨ 1 = 35 ∨ 1 = 36 ∨ 1 = 37 ∨ 1 = 38 ∨ 1 = 39 ∨ 1 = 40 ∨ 1 = 47 ∨ 1 = 48) from by omega) (show ¬ ((1 = 33 ∧ 1 = 1) ∨ (1 = 33 ∧ 1 = 3) ∨ (1 = 33 ∧ 1 = 9) ∨ (1 = 33 ∧ 1 = 10) ∨ (1 = 33 ∧ 1 = 11)) from by omega))
        have t_2 := XI_c1 mσ (id := 1) (k := 1) (lim_C0_1 (Or.inl rfl))
        have k_3 : (gi σ 1 9).toInt = (gi σ0 1 9).toInt := congrArg Int32.toInt (FX_i fσ (show ¬ (1 = 34 ∨ 1 = 35 ∨ 1 = 36 ∨ 1 = 37 ∨ 1 = 38 ∨ 1 = 39 ∨ 1 = 40 ∨ 1 = 47 ∨ 1 = 48) from by omega) (show ¬ ((1 = 33 ∧ 9 = 1) ∨ (1 = 33 ∧ 9 = 3) ∨ (1 = 33 ∧ 9 = 9) ∨ (1 = 33 ∧ 9 = 10) ∨ (1 = 33 ∧ 9 = 11)) from by omega))
        have t_4 := XI_c1 mσ (id := 1) (k := 9) (lim_C0_9 (Or.inl rfl))
        have t_5 := XI_c1 mσ (id := 33) (k := 9) (lim_C0_9 (Or.inr (Or.inr rfl)))
        refine s_X11_totalBy_24 C hN  ?_
        refine ⟨?_, ?_⟩
        · intro q_6
          replace H := f_f q_6 H
          have w_7 := Int32.toInt_lt x1
          have w_8 := Int32.le_toInt x1
          have b_9 : ¬ x1.toInt = 2 := fun h9 => q_6 (Int32.toInt_inj.mp h9)
          have w_10 := Int32.toInt_lt x3
          have w_11 := Int32.le_toInt x3
          have z_12 : (0 : Int32).toInt = 0 := rfl
          exact ih53 x1 x2 x3 (0 : Int32) σ mσ fσ nσ_1 nσ_33 (by omega) (by omega) (by omega) (by omega) (by first | with_reducible assumption | with_reducible rfl | omega | assumption | rfl) (by first | with_reducible assumption | with_reducible rfl | omega | assumption | rfl) H (by omega)
        · intro q_6
          replace H := f_t q_6 H
          have w_13 := Int32.toInt_lt x1
          have w_14 := Int32.le_toInt x1
          have b_15 : x1.toInt = 2 := congrArg Int32.toInt q_6
          refine kF_X11_isMower  mσ   (fun r3 σ2 mσ2 cσ2 plσ2 phσ2 (pσ2_0 : (r3.toInt = 1 ∧ 0 ≤ x3.toInt ∧ x3.toInt < (gi σ 1 1).toInt) ∨ (r3.toInt = 0 ∧ (x3.toInt < 0 ∨ (gi σ 1 1).toInt ≤ x3.toInt))) hσ2 => ?_)
          obtain rfl := FX_nil cσ2
          replace H := f_b hσ2 H
          refine ⟨?_, ?_⟩
          · intro q_16
            replace H := f_t q_16 H
            have b_17 : r3.toInt = 0 := congrArg Int32.toInt q_16
            have w_18 := Int32.toInt_lt x3
            have w_19 := Int32.le_toInt x3
            have z_20 : (0 : Int32).toInt = 0 := rfl
            exact ih53 x1 x2 x3 (0 : Int32) σ mσ fσ nσ_1 nσ_33 (by omega) (by omega) (by omega) (by omega) (by first | with_reducible assumption | with_reducible rfl | omega | assumption | rfl) (by first | with_reducible assumption | with_reducible rfl | omega | assumption | rfl) H (by omega)
          · intro q_16
            replace H := f_f q_16 H
            have b_21 : ¬ r3.toInt = 0 := fun h9 => q_16 (Int32.toInt_inj.mp h9)
            have w_22 := Int32.toInt_lt x3
            have w_23 := Int32.le_toInt x3
            have hv_24 : vp_in x3 6 := vp_in_iff.mpr ⟨by omega, by omega⟩
            refine ⟨hv_24, ?_⟩
            refine ⟨hv_24, ?_⟩
            intro σ7 eσ7
            replace H := f_l eσ7 H
            have mσ7 : XI (mV M) σ7 := by rw [eσ7]; exact XIs_n mσ (lim_C6 (Or.inr (Or.inr rfl)) _)
            have fσ7 : FX (fun id => id = 34 ∨ id = 35 ∨ id = 36 ∨ id = 37 ∨ id = 38 ∨ id = 39 ∨ id = 40 ∨ id = 47 ∨ id = 48) (fun id k => (id = 33 ∧ k = 1) ∨ (id = 33 ∧ k = 3) ∨ (id = 33 ∧ k = 9) ∨ (id = 33 ∧ k = 10) ∨ (id = 33 ∧ k = 11)) σ0 σ7 := by rw [eσ7]; exact FX_si fσ (Or.inl (show 39 = 34 ∨ 39 = 35 ∨ 39 = 36 ∨ 39 = 37 ∨ 39 = 38 ∨ 39 = 39 ∨ 39 = 40 ∨ 39 = 47 ∨ 39 = 48 from Or.inr (Or.inr (Or.inr (Or.inr (Or.inr (Or.inl (rfl))))))))
            have k_25 : (gi σ7 1 1).toInt = (gi σ 1 1).toInt := by rw [eσ7]; exact congrArg Int32.toInt (gi_si_ne (Or.inl (by omega)))
            have k_26 : (gi σ7 1 9).toInt = (gi σ 1 9).toInt := by rw [eσ7]; exact congrArg Int32.toInt (gi_si_ne (Or.inl (by omega)))
            have k_27 : (gi σ7 33 9).toInt = (gi σ 33 9).toInt := by rw [eσ7]; exact congrArg Int32.toInt (gi_si_ne (Or.inl (by omega)))
            have nσ7_1 : NN σ7 1 := by rw [eσ7]; exact NN_si nσ_1 (by omega) (fun h9 => absurd h9 (by omega))
            have nσ7_33 : NN σ7 33 := by rw [eσ7]; exact NN_si nσ_33 (by omega) (fun h9 => absurd h9 (by omega))
            have z_28 : (0 : Int32).toInt = 0 := rfl
            exact ih53 x1 x2 x3 (0 : Int32) σ7 mσ7 fσ7 nσ7_1 nσ7_33 (by omega) (by omega) (by omega) (by omega) (by first | with_reducible assumption | with_reducible rfl | omega | assumption | rfl) (by first | with_reducible assumption | with_reducible rfl | omega | assumption | rfl) H (by omega)
      · intro x1 x2 x3 x4 σ mσ fσ nσ_1 nσ_33 lx2 ux2 lx4 ux4 i0 i1 H hmu
        replace H : LB_X11_totalBy_53 (LF_X11_totalBy n) x1 x2 x3 x4 σ = R9 := H
        unfold LB_X11_totalBy_53 at H
        have k_29 : (gi σ 1 1).toInt = (gi σ0 1 1).toInt := congrArg Int32.toInt (FX_i fσ (show ¬ (1 = 34 ∨ 1 = 35 ∨ 1 = 36 ∨ 1 = 37 ∨ 1 = 38 ∨ 1 = 39 ∨ 1 = 40 ∨ 1 = 47 ∨ 1 = 48) from by omega) (show ¬ ((1 = 33 ∧ 1 = 1) ∨ (1 = 33 ∧ 1 = 3) ∨ (1 = 33 ∧ 1 = 9) ∨ (1 = 33 ∧ 1 = 10) ∨ (1 = 33 ∧ 1 = 11)) from by omega))
        have t_30 := XI_c1 mσ (id := 1) (k := 1) (lim_C0_1 (Or.inl rfl))
        have k_31 : (gi σ 1 9).toInt = (gi σ0 1 9).toInt := congrArg Int32.toInt (FX_i fσ (show ¬ (1 = 34 ∨ 1 = 35 ∨ 1 = 36 ∨ 1 = 37 ∨ 1 = 38 ∨ 1 = 39 ∨ 1 = 40 ∨ 1 = 47 ∨ 1 = 48) from by omega) (show ¬ ((1 = 33 ∧ 9 = 1) ∨ (1 = 33 ∧ 9 = 3) ∨ (1 = 33 ∧ 9 = 9) ∨ (1 = 33 ∧ 9 = 10) ∨ (1 = 33 ∧ 9 = 11)) from by omega))
        have t_32 := XI_c1 mσ (id := 1) (k := 9) (lim_C0_9 (Or.inl rfl))
        have t_33 := XI_c1 mσ (id := 33) (k := 9) (lim_C0_9 (Or.inr (Or.inr rfl)))
        refine s_X11_totalBy_53 C hN  ?_
        refine ⟨?_, ?_⟩
        · intro q_34
          replace H := f_t q_34 H
          have b_35 : x2.toInt ≤ x4.toInt := Int32.le_iff_toInt_le.mp q_34
          refine kF_X1_allAt (Or.inr (Or.inr rfl)) mσ   (fun r3 σ2 mσ2 cσ2 hσ2 => ?_)
          obtain rfl := FX_nil cσ2
          replace H := f_b hσ2 H
          exact h9ret r3 σ mσ fσ nσ_1 (H0.trans H.symm)
        · intro q_34
          replace H := f_f q_34 H
          have b_36 : ¬ x2.toInt ≤ x4.toInt := fun h9 => q_34 (Int32.le_iff_toInt_le.mpr h9)
          refine ⟨?_, ?_⟩
          · intro q_37
            replace H := f_f q_37 H
            have w_38 := Int32.toInt_lt x1
            have w_39 := Int32.le_toInt x1
            have b_40 : ¬ x1.toInt = 3 := fun h9 => q_37 (Int32.toInt_inj.mp h9)
            have w_41 := Int32.toInt_lt x3
            have w_42 := Int32.le_toInt x3
            exact ih78 x1 x2 x3 x4 σ mσ fσ nσ_1 nσ_33 (by omega) (by omega) (by omega) (by omega) (by first | with_reducible assumption | with_reducible rfl | omega | assumption | rfl) (by first | with_reducible assumption | with_reducible rfl | omega | assumption | rfl) H (by omega)
          · intro q_37
            replace H := f_t q_37 H
            have w_43 := Int32.toInt_lt x1
            have w_44 := Int32.le_toInt x1
            have b_45 : x1.toInt = 3 := congrArg Int32.toInt q_37
            refine ⟨?_, ?_⟩
            · intro q_46
              replace H := f_f q_46 H
              have w_47 := Int32.toInt_lt x3
              have w_48 := Int32.le_toInt x3
              have b_49 : ¬ x4.toInt = x3.toInt := fun h9 => q_46 (Int32.toInt_inj.mp h9)
              exact ih78 x1 x2 x3 x4 σ mσ fσ nσ_1 nσ_33 (by omega) (by omega) (by omega) (by omega) (by first | with_reducible assumption | with_reducible rfl | omega | assumption | rfl) (by first | with_reducible assumption | with_reducible rfl | omega | assumption | rfl) H (by omega)
            · intro q_46
              replace H := f_t q_46 H
              have w_50 := Int32.toInt_lt x3
              have w_51 := Int32.le_toInt x3
              have b_52 : x4.toInt = x3.toInt := congrArg Int32.toInt q_46
              have z_53 : (5 : Int32).toInt = 5 := rfl
              refine kF_X1_rests (Or.inr (Or.inr rfl)) mσ nσ_33 (by omega) (by omega) (by first | with_reducible assumption | with_reducible rfl | omega | assumption | rfl) (fun σ6 mσ6 cσ6 nσ6_33 (pσ6_0 : (gi σ6 33 9).toInt = (gi σ 33 9).toInt + (5 : Int)) hσ6 => ?_)
              replace H := f_v hσ6 H
              have fσ6 : FX (fun id => id = 34 ∨ id = 35 ∨ id = 36 ∨ id = 37 ∨ id = 38 ∨ id = 39 ∨ id = 40 ∨ id = 47 ∨ id = 48) (fun id k => (id = 33 ∧ k = 1) ∨ (id = 33 ∧ k = 3) ∨ (id = 33 ∧ k = 9) ∨ (id = 33 ∧ k = 10) ∨ (id = 33 ∧ k = 11)) σ0 σ6 := FX_tr fσ cσ6 (fun x (h9 : x = 38 ∨ x = 39) => h9.elim (fun e9 => (show x = 34 ∨ x = 35 ∨ x = 36 ∨ x = 37 ∨ x = 38 ∨ x = 39 ∨ x = 40 ∨ x = 47 ∨ x = 48 from Or.inr (Or.inr (Or.inr (Or.inr (Or.inl (e9))))))) (fun h9 => (show x = 34 ∨ x = 35 ∨ x = 36 ∨ x = 37 ∨ x = 38 ∨ x = 39 ∨ x = 40 ∨ x = 47 ∨ x = 48 from Or.inr (Or.inr (Or.inr (Or.inr (Or.inr (Or.inl (h9))))))))) (fun x k (h9 : (x = 33 ∧ k = 9)) => (show (x = 34 ∨ x = 35 ∨ x = 36 ∨ x = 37 ∨ x = 38 ∨ x = 39 ∨ x = 40 ∨ x = 47 ∨ x = 48) ∨ ((x = 33 ∧ k = 1) ∨ (x = 33 ∧ k = 3) ∨ (x = 33 ∧ k = 9) ∨ (x = 33 ∧ k = 10) ∨ (x = 33 ∧ k = 11)) from Or.inr (show (x = 33 ∧ k = 1) ∨ (x = 33 ∧ k = 3) ∨ (x = 33 ∧ k = 9) ∨ (x = 33 ∧ k = 10) ∨ (x = 33 ∧ k = 11) from Or.inr (Or.inr (Or.inl (h9))))))
              have k_54 : (gi σ6 1 1).toInt = (gi σ 1 1).toInt := congrArg Int32.toInt (FX_i cσ6 (show ¬ (1 = 38 ∨ 1 = 39) from by omega) (show ¬ ((1 = 33 ∧ 1 = 9)) from by omega))
              have k_55 : (gi σ6 1 9).toInt = (gi σ 1 9).toInt := congrArg Int32.toInt (FX_i cσ6 (show ¬ (1 = 38 ∨ 1 = 39) from by omega) (show ¬ ((1 = 33 ∧ 9 = 9)) from by omega))
              have t_56 := XI_c1 mσ6 (id := 33) (k := 9) (lim_C0_9 (Or.inr (Or.inr rfl)))
              have nσ6_1 : NN σ6 1 := NN_fx nσ_1 cσ6 (show ¬ (1 = 38 ∨ 1 = 39) from by omega) (show ¬ (2 = 38 ∨ 2 = 39) from by omega) (show ¬ (3 = 38 ∨ 3 = 39) from by omega) (show ¬ ((1 = 33 ∧ 1 = 9)) from by omega) (show ¬ ((1 = 33 ∧ 3 = 9)) from by omega) (fun k (h9 : (2 = 33 ∧ k = 9)) => by omega) (fun k (h9 : (3 = 33 ∧ k = 9)) => by omega)
              exact ih78 x1 x2 x3 x4 σ6 mσ6 fσ6 nσ6_1 nσ6_33 (by omega) (by omega) (by omega) (by omega) (by first | with_reducible assumption | with_reducible rfl | omega | assumption | rfl) (by first | with_reducible assumption | with_reducible rfl | omega | assumption | rfl) H (by omega)
      · intro x1 x2 x3 x4 σ mσ fσ nσ_1 nσ_33 lx2 ux2 lx4 ux4 i0 i1 H hmu
        replace H : LB_X11_totalBy_78 (LF_X11_totalBy n) x1 x2 x3 x4 σ = R9 := H
        unfold LB_X11_totalBy_78 at H
        have k_57 : (gi σ 1 1).toInt = (gi σ0 1 1).toInt := congrArg Int32.toInt (FX_i fσ (show ¬ (1 = 34 ∨ 1 = 35 ∨ 1 = 36 ∨ 1 = 37 ∨ 1 = 38 ∨ 1 = 39 ∨ 1 = 40 ∨ 1 = 47 ∨ 1 = 48) from by omega) (show ¬ ((1 = 33 ∧ 1 = 1) ∨ (1 = 33 ∧ 1 = 3) ∨ (1 = 33 ∧ 1 = 9) ∨ (1 = 33 ∧ 1 = 10) ∨ (1 = 33 ∧ 1 = 11)) from by omega))
        have t_58 := XI_c1 mσ (id := 1) (k := 1) (lim_C0_1 (Or.inl rfl))
        have k_59 : (gi σ 1 9).toInt = (gi σ0 1 9).toInt := congrArg Int32.toInt (FX_i fσ (show ¬ (1 = 34 ∨ 1 = 35 ∨ 1 = 36 ∨ 1 = 37 ∨ 1 = 38 ∨ 1 = 39 ∨ 1 = 40 ∨ 1 = 47 ∨ 1 = 48) from by omega) (show ¬ ((1 = 33 ∧ 9 = 1) ∨ (1 = 33 ∧ 9 = 3) ∨ (1 = 33 ∧ 9 = 9) ∨ (1 = 33 ∧ 9 = 10) ∨ (1 = 33 ∧ 9 = 11)) from by omega))
        have t_60 := XI_c1 mσ (id := 1) (k := 9) (lim_C0_9 (Or.inl rfl))
        have t_61 := XI_c1 mσ (id := 33) (k := 9) (lim_C0_9 (Or.inr (Or.inr rfl)))
        refine s_X11_totalBy_78 C hN  ?_
        refine ⟨?_, ?_⟩
        · intro q_62
          replace H := f_f q_62 H
          have w_63 := Int32.toInt_lt x1
          have w_64 := Int32.le_toInt x1
          have b_65 : ¬ x1.toInt = 0 := fun h9 => q_62 (Int32.toInt_inj.mp h9)
          refine kF_X1_goesMinute (Or.inr (Or.inr rfl)) mσ nσ_33 (by first | with_reducible assumption | with_reducible rfl | omega | assumption | rfl) (fun r3 σ2 mσ2 cσ2 nσ2_33 (pσ2_0 : (gi σ2 33 9).toInt = (gi σ 33 9).toInt + 1) hσ2 => ?_)
          replace H := f_b hσ2 H
          have fσ2 : FX (fun id => id = 34 ∨ id = 35 ∨ id = 36 ∨ id = 37 ∨ id = 38 ∨ id = 39 ∨ id = 40 ∨ id = 47 ∨ id = 48) (fun id k => (id = 33 ∧ k = 1) ∨ (id = 33 ∧ k = 3) ∨ (id = 33 ∧ k = 9) ∨ (id = 33 ∧ k = 10) ∨ (id = 33 ∧ k = 11)) σ0 σ2 := FX_tr fσ cσ2 (fun x (h9 : x = 47 ∨ x = 48 ∨ x = 36 ∨ x = 37 ∨ x = 38 ∨ x = 39) => h9.elim (fun e9 => (show x = 34 ∨ x = 35 ∨ x = 36 ∨ x = 37 ∨ x = 38 ∨ x = 39 ∨ x = 40 ∨ x = 47 ∨ x = 48 from Or.inr (Or.inr (Or.inr (Or.inr (Or.inr (Or.inr (Or.inr (Or.inl (e9)))))))))) (fun h9 => h9.elim (fun e9 => (show x = 34 ∨ x = 35 ∨ x = 36 ∨ x = 37 ∨ x = 38 ∨ x = 39 ∨ x = 40 ∨ x = 47 ∨ x = 48 from Or.inr (Or.inr (Or.inr (Or.inr (Or.inr (Or.inr (Or.inr (Or.inr (e9)))))))))) (fun h9 => h9.elim (fun e9 => (show x = 34 ∨ x = 35 ∨ x = 36 ∨ x = 37 ∨ x = 38 ∨ x = 39 ∨ x = 40 ∨ x = 47 ∨ x = 48 from Or.inr (Or.inr (Or.inl (e9))))) (fun h9 => h9.elim (fun e9 => (show x = 34 ∨ x = 35 ∨ x = 36 ∨ x = 37 ∨ x = 38 ∨ x = 39 ∨ x = 40 ∨ x = 47 ∨ x = 48 from Or.inr (Or.inr (Or.inr (Or.inl (e9)))))) (fun h9 => h9.elim (fun e9 => (show x = 34 ∨ x = 35 ∨ x = 36 ∨ x = 37 ∨ x = 38 ∨ x = 39 ∨ x = 40 ∨ x = 47 ∨ x = 48 from Or.inr (Or.inr (Or.inr (Or.inr (Or.inl (e9))))))) (fun h9 => (show x = 34 ∨ x = 35 ∨ x = 36 ∨ x = 37 ∨ x = 38 ∨ x = 39 ∨ x = 40 ∨ x = 47 ∨ x = 48 from Or.inr (Or.inr (Or.inr (Or.inr (Or.inr (Or.inl (h9))))))))))))) (fun x k (h9 : (x = 33 ∧ k = 9)) => (show (x = 34 ∨ x = 35 ∨ x = 36 ∨ x = 37 ∨ x = 38 ∨ x = 39 ∨ x = 40 ∨ x = 47 ∨ x = 48) ∨ ((x = 33 ∧ k = 1) ∨ (x = 33 ∧ k = 3) ∨ (x = 33 ∧ k = 9) ∨ (x = 33 ∧ k = 10) ∨ (x = 33 ∧ k = 11)) from Or.inr (show (x = 33 ∧ k = 1) ∨ (x = 33 ∧ k = 3) ∨ (x = 33 ∧ k = 9) ∨ (x = 33 ∧ k = 10) ∨ (x = 33 ∧ k = 11) from Or.inr (Or.inr (Or.inl (h9))))))
          have k_66 : (gi σ2 1 1).toInt = (gi σ 1 1).toInt := congrArg Int32.toInt (FX_i cσ2 (show ¬ (1 = 47 ∨ 1 = 48 ∨ 1 = 36 ∨ 1 = 37 ∨ 1 = 38 ∨ 1 = 39) from by omega) (show ¬ ((1 = 33 ∧ 1 = 9)) from by omega))
          have k_67 : (gi σ2 1 9).toInt = (gi σ 1 9).toInt := congrArg Int32.toInt (FX_i cσ2 (show ¬ (1 = 47 ∨ 1 = 48 ∨ 1 = 36 ∨ 1 = 37 ∨ 1 = 38 ∨ 1 = 39) from by omega) (show ¬ ((1 = 33 ∧ 9 = 9)) from by omega))
          have t_68 := XI_c1 mσ2 (id := 33) (k := 9) (lim_C0_9 (Or.inr (Or.inr rfl)))
          have nσ2_1 : NN σ2 1 := NN_fx nσ_1 cσ2 (show ¬ (1 = 47 ∨ 1 = 48 ∨ 1 = 36 ∨ 1 = 37 ∨ 1 = 38 ∨ 1 = 39) from by omega) (show ¬ (2 = 47 ∨ 2 = 48 ∨ 2 = 36 ∨ 2 = 37 ∨ 2 = 38 ∨ 2 = 39) from by omega) (show ¬ (3 = 47 ∨ 3 = 48 ∨ 3 = 36 ∨ 3 = 37 ∨ 3 = 38 ∨ 3 = 39) from by omega) (show ¬ ((1 = 33 ∧ 1 = 9)) from by omega) (show ¬ ((1 = 33 ∧ 3 = 9)) from by omega) (fun k (h9 : (2 = 33 ∧ k = 9)) => by omega) (fun k (h9 : (3 = 33 ∧ k = 9)) => by omega)
          intro v4 ev4
          replace H := f_l ev4 H
          have t_69 : (x4 + (1 : Int32)).toInt = x4.toInt + 1 := i_add (x := x4) (y := (1 : Int32)) (by show (_ : Int) ≤ x4.toInt + 1; omega) (by show x4.toInt + 1 ≤ (_ : Int); omega)
          have t_70 : v4.toInt = (x4 + (1 : Int32)).toInt := congrArg Int32.toInt ev4
          have w_71 := Int32.toInt_lt x3
          have w_72 := Int32.le_toInt x3
          exact ih53 x1 x2 x3 v4 σ2 mσ2 fσ2 nσ2_1 nσ2_33 (by omega) (by omega) (by omega) (by omega) (by first | with_reducible assumption | with_reducible rfl | omega | assumption | rfl) (by first | with_reducible assumption | with_reducible rfl | omega | assumption | rfl) H (by omega)
        · intro q_62
          replace H := f_t q_62 H
          have w_73 := Int32.toInt_lt x1
          have w_74 := Int32.le_toInt x1
          have b_75 : x1.toInt = 0 := congrArg Int32.toInt q_62
          have t_76 : (x4 + (1 : Int32)).toInt = x4.toInt + 1 := i_add (x := x4) (y := (1 : Int32)) (by show (_ : Int) ≤ x4.toInt + 1; omega) (by show x4.toInt + 1 ≤ (_ : Int); omega)
          refine kF_X11_whetsIn  mσ  (by omega) (by omega) (fun r6 σ5 mσ5 cσ5 plσ5 phσ5 hσ5 => ?_)
          obtain rfl := FX_nil cσ5
          replace H := f_b hσ5 H
          refine ⟨?_, ?_⟩
          · intro q_77
            replace H := f_t q_77 H
            have b_78 : r6.toInt = 0 := congrArg Int32.toInt q_77
            refine kF_X1_goesMinute (Or.inr (Or.inr rfl)) mσ nσ_33 (by first | with_reducible assumption | with_reducible rfl | omega | assumption | rfl) (fun r9 σ8 mσ8 cσ8 nσ8_33 (pσ8_0 : (gi σ8 33 9).toInt = (gi σ 33 9).toInt + 1) hσ8 => ?_)
            replace H := f_b hσ8 H
            have fσ8 : FX (fun id => id = 34 ∨ id = 35 ∨ id = 36 ∨ id = 37 ∨ id = 38 ∨ id = 39 ∨ id = 40 ∨ id = 47 ∨ id = 48) (fun id k => (id = 33 ∧ k = 1) ∨ (id = 33 ∧ k = 3) ∨ (id = 33 ∧ k = 9) ∨ (id = 33 ∧ k = 10) ∨ (id = 33 ∧ k = 11)) σ0 σ8 := FX_tr fσ cσ8 (fun x (h9 : x = 47 ∨ x = 48 ∨ x = 36 ∨ x = 37 ∨ x = 38 ∨ x = 39) => h9.elim (fun e9 => (show x = 34 ∨ x = 35 ∨ x = 36 ∨ x = 37 ∨ x = 38 ∨ x = 39 ∨ x = 40 ∨ x = 47 ∨ x = 48 from Or.inr (Or.inr (Or.inr (Or.inr (Or.inr (Or.inr (Or.inr (Or.inl (e9)))))))))) (fun h9 => h9.elim (fun e9 => (show x = 34 ∨ x = 35 ∨ x = 36 ∨ x = 37 ∨ x = 38 ∨ x = 39 ∨ x = 40 ∨ x = 47 ∨ x = 48 from Or.inr (Or.inr (Or.inr (Or.inr (Or.inr (Or.inr (Or.inr (Or.inr (e9)))))))))) (fun h9 => h9.elim (fun e9 => (show x = 34 ∨ x = 35 ∨ x = 36 ∨ x = 37 ∨ x = 38 ∨ x = 39 ∨ x = 40 ∨ x = 47 ∨ x = 48 from Or.inr (Or.inr (Or.inl (e9))))) (fun h9 => h9.elim (fun e9 => (show x = 34 ∨ x = 35 ∨ x = 36 ∨ x = 37 ∨ x = 38 ∨ x = 39 ∨ x = 40 ∨ x = 47 ∨ x = 48 from Or.inr (Or.inr (Or.inr (Or.inl (e9)))))) (fun h9 => h9.elim (fun e9 => (show x = 34 ∨ x = 35 ∨ x = 36 ∨ x = 37 ∨ x = 38 ∨ x = 39 ∨ x = 40 ∨ x = 47 ∨ x = 48 from Or.inr (Or.inr (Or.inr (Or.inr (Or.inl (e9))))))) (fun h9 => (show x = 34 ∨ x = 35 ∨ x = 36 ∨ x = 37 ∨ x = 38 ∨ x = 39 ∨ x = 40 ∨ x = 47 ∨ x = 48 from Or.inr (Or.inr (Or.inr (Or.inr (Or.inr (Or.inl (h9))))))))))))) (fun x k (h9 : (x = 33 ∧ k = 9)) => (show (x = 34 ∨ x = 35 ∨ x = 36 ∨ x = 37 ∨ x = 38 ∨ x = 39 ∨ x = 40 ∨ x = 47 ∨ x = 48) ∨ ((x = 33 ∧ k = 1) ∨ (x = 33 ∧ k = 3) ∨ (x = 33 ∧ k = 9) ∨ (x = 33 ∧ k = 10) ∨ (x = 33 ∧ k = 11)) from Or.inr (show (x = 33 ∧ k = 1) ∨ (x = 33 ∧ k = 3) ∨ (x = 33 ∧ k = 9) ∨ (x = 33 ∧ k = 10) ∨ (x = 33 ∧ k = 11) from Or.inr (Or.inr (Or.inl (h9))))))
            have k_79 : (gi σ8 1 1).toInt = (gi σ 1 1).toInt := congrArg Int32.toInt (FX_i cσ8 (show ¬ (1 = 47 ∨ 1 = 48 ∨ 1 = 36 ∨ 1 = 37 ∨ 1 = 38 ∨ 1 = 39) from by omega) (show ¬ ((1 = 33 ∧ 1 = 9)) from by omega))
            have k_80 : (gi σ8 1 9).toInt = (gi σ 1 9).toInt := congrArg Int32.toInt (FX_i cσ8 (show ¬ (1 = 47 ∨ 1 = 48 ∨ 1 = 36 ∨ 1 = 37 ∨ 1 = 38 ∨ 1 = 39) from by omega) (show ¬ ((1 = 33 ∧ 9 = 9)) from by omega))
            have t_81 := XI_c1 mσ8 (id := 33) (k := 9) (lim_C0_9 (Or.inr (Or.inr rfl)))
            have nσ8_1 : NN σ8 1 := NN_fx nσ_1 cσ8 (show ¬ (1 = 47 ∨ 1 = 48 ∨ 1 = 36 ∨ 1 = 37 ∨ 1 = 38 ∨ 1 = 39) from by omega) (show ¬ (2 = 47 ∨ 2 = 48 ∨ 2 = 36 ∨ 2 = 37 ∨ 2 = 38 ∨ 2 = 39) from by omega) (show ¬ (3 = 47 ∨ 3 = 48 ∨ 3 = 36 ∨ 3 = 37 ∨ 3 = 38 ∨ 3 = 39) from by omega) (show ¬ ((1 = 33 ∧ 1 = 9)) from by omega) (show ¬ ((1 = 33 ∧ 3 = 9)) from by omega) (fun k (h9 : (2 = 33 ∧ k = 9)) => by omega) (fun k (h9 : (3 = 33 ∧ k = 9)) => by omega)
            intro v10 ev10
            replace H := f_l ev10 H
            have t_82 : v10.toInt = (x4 + (1 : Int32)).toInt := congrArg Int32.toInt ev10
            have w_83 := Int32.toInt_lt x3
            have w_84 := Int32.le_toInt x3
            exact ih53 x1 x2 x3 v10 σ8 mσ8 fσ8 nσ8_1 nσ8_33 (by omega) (by omega) (by omega) (by omega) (by first | with_reducible assumption | with_reducible rfl | omega | assumption | rfl) (by first | with_reducible assumption | with_reducible rfl | omega | assumption | rfl) H (by omega)
          · intro q_77
            replace H := f_f q_77 H
            have b_85 : ¬ r6.toInt = 0 := fun h9 => q_77 (Int32.toInt_inj.mp h9)
            refine kF_X1_whetsAll (Or.inr (Or.inr rfl)) mσ nσ_33 (by first | with_reducible assumption | with_reducible rfl | omega | assumption | rfl) (fun σ11 mσ11 cσ11 nσ11_33 (pσ11_0 : (gi σ11 33 9).toInt = (gi σ 33 9).toInt + 1) hσ11 => ?_)
            replace H := f_v hσ11 H
            have fσ11 : FX (fun id => id = 34 ∨ id = 35 ∨ id = 36 ∨ id = 37 ∨ id = 38 ∨ id = 39 ∨ id = 40 ∨ id = 47 ∨ id = 48) (fun id k => (id = 33 ∧ k = 1) ∨ (id = 33 ∧ k = 3) ∨ (id = 33 ∧ k = 9) ∨ (id = 33 ∧ k = 10) ∨ (id = 33 ∧ k = 11)) σ0 σ11 := FX_tr fσ cσ11 (fun x (h9 : x = 37 ∨ x = 38 ∨ x = 39) => h9.elim (fun e9 => (show x = 34 ∨ x = 35 ∨ x = 36 ∨ x = 37 ∨ x = 38 ∨ x = 39 ∨ x = 40 ∨ x = 47 ∨ x = 48 from Or.inr (Or.inr (Or.inr (Or.inl (e9)))))) (fun h9 => h9.elim (fun e9 => (show x = 34 ∨ x = 35 ∨ x = 36 ∨ x = 37 ∨ x = 38 ∨ x = 39 ∨ x = 40 ∨ x = 47 ∨ x = 48 from Or.inr (Or.inr (Or.inr (Or.inr (Or.inl (e9))))))) (fun h9 => (show x = 34 ∨ x = 35 ∨ x = 36 ∨ x = 37 ∨ x = 38 ∨ x = 39 ∨ x = 40 ∨ x = 47 ∨ x = 48 from Or.inr (Or.inr (Or.inr (Or.inr (Or.inr (Or.inl (h9)))))))))) (fun x k (h9 : (x = 33 ∧ k = 9)) => (show (x = 34 ∨ x = 35 ∨ x = 36 ∨ x = 37 ∨ x = 38 ∨ x = 39 ∨ x = 40 ∨ x = 47 ∨ x = 48) ∨ ((x = 33 ∧ k = 1) ∨ (x = 33 ∧ k = 3) ∨ (x = 33 ∧ k = 9) ∨ (x = 33 ∧ k = 10) ∨ (x = 33 ∧ k = 11)) from Or.inr (show (x = 33 ∧ k = 1) ∨ (x = 33 ∧ k = 3) ∨ (x = 33 ∧ k = 9) ∨ (x = 33 ∧ k = 10) ∨ (x = 33 ∧ k = 11) from Or.inr (Or.inr (Or.inl (h9))))))
            have k_86 : (gi σ11 1 1).toInt = (gi σ 1 1).toInt := congrArg Int32.toInt (FX_i cσ11 (show ¬ (1 = 37 ∨ 1 = 38 ∨ 1 = 39) from by omega) (show ¬ ((1 = 33 ∧ 1 = 9)) from by omega))
            have k_87 : (gi σ11 1 9).toInt = (gi σ 1 9).toInt := congrArg Int32.toInt (FX_i cσ11 (show ¬ (1 = 37 ∨ 1 = 38 ∨ 1 = 39) from by omega) (show ¬ ((1 = 33 ∧ 9 = 9)) from by omega))
            have t_88 := XI_c1 mσ11 (id := 33) (k := 9) (lim_C0_9 (Or.inr (Or.inr rfl)))
            have nσ11_1 : NN σ11 1 := NN_fx nσ_1 cσ11 (show ¬ (1 = 37 ∨ 1 = 38 ∨ 1 = 39) from by omega) (show ¬ (2 = 37 ∨ 2 = 38 ∨ 2 = 39) from by omega) (show ¬ (3 = 37 ∨ 3 = 38 ∨ 3 = 39) from by omega) (show ¬ ((1 = 33 ∧ 1 = 9)) from by omega) (show ¬ ((1 = 33 ∧ 3 = 9)) from by omega) (fun k (h9 : (2 = 33 ∧ k = 9)) => by omega) (fun k (h9 : (3 = 33 ∧ k = 9)) => by omega)
            intro v12 ev12
            replace H := f_l ev12 H
            have t_89 : v12.toInt = (x4 + (1 : Int32)).toInt := congrArg Int32.toInt ev12
            have w_90 := Int32.toInt_lt x3
            have w_91 := Int32.le_toInt x3
            exact ih53 x1 x2 x3 v12 σ11 mσ11 fσ11 nσ11_1 nσ11_33 (by omega) (by omega) (by omega) (by omega) (by first | with_reducible assumption | with_reducible rfl | omega | assumption | rfl) (by first | with_reducible assumption | with_reducible rfl | omega | assumption | rfl) H (by omega)
  obtain ⟨U24, U53, U78⟩ := T 2000
  have f0 : FX (fun id => id = 34 ∨ id = 35 ∨ id = 36 ∨ id = 37 ∨ id = 38 ∨ id = 39 ∨ id = 40 ∨ id = 47 ∨ id = 48) (fun id k => (id = 33 ∧ k = 1) ∨ (id = 33 ∧ k = 3) ∨ (id = 33 ∧ k = 9) ∨ (id = 33 ∧ k = 10) ∨ (id = 33 ∧ k = 11)) σ0 σ0 := FX_rf
  have t_92 := XI_c1 m0 (id := 1) (k := 1) (lim_C0_1 (Or.inl rfl))
  have t_93 := XI_c1 m0 (id := 1) (k := 9) (lim_C0_9 (Or.inl rfl))
  have t_94 := XI_c1 m0 (id := 33) (k := 9) (lim_C0_9 (Or.inr (Or.inr rfl)))
  have H := H0
  unfold F_X11_totalBy at H
  refine s_X11_totalBy_0 C hN  ?_
  have z_95 : (1 : Int32).toInt = 1 := rfl
  refine kF_X1_becomes (Or.inr (Or.inr rfl)) (Or.inl rfl) m0 nn_1 (by first | with_reducible assumption | with_reducible rfl | omega | assumption | rfl) (fun σ1 mσ1 cσ1 nσ1_1 nσ1_33 (pσ1_0 : (gi σ1 33 1).toInt = (gi σ0 1 1).toInt) (pσ1_1 : (gi σ1 33 3).toInt = (gi σ0 1 3).toInt) (pσ1_2 : (gi σ1 33 9).toInt = (gi σ0 1 9).toInt) (pσ1_3 : CPY σ0 σ1 33 1) hσ1 => ?_)
  replace H := f_v hσ1 H
  have fσ1 : FX (fun id => id = 34 ∨ id = 35 ∨ id = 36 ∨ id = 37 ∨ id = 38 ∨ id = 39 ∨ id = 40 ∨ id = 47 ∨ id = 48) (fun id k => (id = 33 ∧ k = 1) ∨ (id = 33 ∧ k = 3) ∨ (id = 33 ∧ k = 9) ∨ (id = 33 ∧ k = 10) ∨ (id = 33 ∧ k = 11)) σ0 σ1 := FX_tr f0 cσ1 (fun x (h9 : x = 34 ∨ x = 35 ∨ x = 36 ∨ x = 37 ∨ x = 38 ∨ x = 39 ∨ x = 40) => h9.elim (fun e9 => (show x = 34 ∨ x = 35 ∨ x = 36 ∨ x = 37 ∨ x = 38 ∨ x = 39 ∨ x = 40 ∨ x = 47 ∨ x = 48 from Or.inl (e9))) (fun h9 => h9.elim (fun e9 => (show x = 34 ∨ x = 35 ∨ x = 36 ∨ x = 37 ∨ x = 38 ∨ x = 39 ∨ x = 40 ∨ x = 47 ∨ x = 48 from Or.inr (Or.inl (e9)))) (fun h9 => h9.elim (fun e9 => (show x = 34 ∨ x = 35 ∨ x = 36 ∨ x = 37 ∨ x = 38 ∨ x = 39 ∨ x = 40 ∨ x = 47 ∨ x = 48 from Or.inr (Or.inr (Or.inl (e9))))) (fun h9 => h9.elim (fun e9 => (show x = 34 ∨ x = 35 ∨ x = 36 ∨ x = 37 ∨ x = 38 ∨ x = 39 ∨ x = 40 ∨ x = 47 ∨ x = 48 from Or.inr (Or.inr (Or.inr (Or.inl (e9)))))) (fun h9 => h9.elim (fun e9 => (show x = 34 ∨ x = 35 ∨ x = 36 ∨ x = 37 ∨ x = 38 ∨ x = 39 ∨ x = 40 ∨ x = 47 ∨ x = 48 from Or.inr (Or.inr (Or.inr (Or.inr (Or.inl (e9))))))) (fun h9 => h9.elim (fun e9 => (show x = 34 ∨ x = 35 ∨ x = 36 ∨ x = 37 ∨ x = 38 ∨ x = 39 ∨ x = 40 ∨ x = 47 ∨ x = 48 from Or.inr (Or.inr (Or.inr (Or.inr (Or.inr (Or.inl (e9)))))))) (fun h9 => (show x = 34 ∨ x = 35 ∨ x = 36 ∨ x = 37 ∨ x = 38 ∨ x = 39 ∨ x = 40 ∨ x = 47 ∨ x = 48 from Or.inr (Or.inr (Or.inr (Or.inr (Or.inr (Or.inr (Or.inl (h9))))))))))))))) (fun x k (h9 : (x = 33 ∧ k = 1) ∨ (x = 33 ∧ k = 3) ∨ (x = 33 ∧ k = 9) ∨ (x = 33 ∧ k = 10) ∨ (x = 33 ∧ k = 11)) => (show (x = 34 ∨ x = 35 ∨ x = 36 ∨ x = 37 ∨ x = 38 ∨ x = 39 ∨ x = 40 ∨ x = 47 ∨ x = 48) ∨ ((x = 33 ∧ k = 1) ∨ (x = 33 ∧ k = 3) ∨ (x = 33 ∧ k = 9) ∨ (x = 33 ∧ k = 10) ∨ (x = 33 ∧ k = 11)) from h9.elim (fun e9 => Or.inr (show (x = 33 ∧ k = 1) ∨ (x = 33 ∧ k = 3) ∨ (x = 33 ∧ k = 9) ∨ (x = 33 ∧ k = 10) ∨ (x = 33 ∧ k = 11) from Or.inl (e9))) (fun h9 => h9.elim (fun e9 => Or.inr (show (x = 33 ∧ k = 1) ∨ (x = 33 ∧ k = 3) ∨ (x = 33 ∧ k = 9) ∨ (x = 33 ∧ k = 10) ∨ (x = 33 ∧ k = 11) from Or.inr (Or.inl (e9)))) (fun h9 => h9.elim (fun e9 => Or.inr (show (x = 33 ∧ k = 1) ∨ (x = 33 ∧ k = 3) ∨ (x = 33 ∧ k = 9) ∨ (x = 33 ∧ k = 10) ∨ (x = 33 ∧ k = 11) from Or.inr (Or.inr (Or.inl (e9))))) (fun h9 => h9.elim (fun e9 => Or.inr (show (x = 33 ∧ k = 1) ∨ (x = 33 ∧ k = 3) ∨ (x = 33 ∧ k = 9) ∨ (x = 33 ∧ k = 10) ∨ (x = 33 ∧ k = 11) from Or.inr (Or.inr (Or.inr (Or.inl (e9)))))) (fun h9 => Or.inr (show (x = 33 ∧ k = 1) ∨ (x = 33 ∧ k = 3) ∨ (x = 33 ∧ k = 9) ∨ (x = 33 ∧ k = 10) ∨ (x = 33 ∧ k = 11) from Or.inr (Or.inr (Or.inr (Or.inr (h9)))))))))))
  have k_96 : (gi σ1 1 1).toInt = (gi σ0 1 1).toInt := congrArg Int32.toInt (FX_i cσ1 (show ¬ (1 = 34 ∨ 1 = 35 ∨ 1 = 36 ∨ 1 = 37 ∨ 1 = 38 ∨ 1 = 39 ∨ 1 = 40) from by omega) (show ¬ ((1 = 33 ∧ 1 = 1) ∨ (1 = 33 ∧ 1 = 3) ∨ (1 = 33 ∧ 1 = 9) ∨ (1 = 33 ∧ 1 = 10) ∨ (1 = 33 ∧ 1 = 11)) from by omega))
  have k_97 : (gi σ1 1 9).toInt = (gi σ0 1 9).toInt := congrArg Int32.toInt (FX_i cσ1 (show ¬ (1 = 34 ∨ 1 = 35 ∨ 1 = 36 ∨ 1 = 37 ∨ 1 = 38 ∨ 1 = 39 ∨ 1 = 40) from by omega) (show ¬ ((1 = 33 ∧ 9 = 1) ∨ (1 = 33 ∧ 9 = 3) ∨ (1 = 33 ∧ 9 = 9) ∨ (1 = 33 ∧ 9 = 10) ∨ (1 = 33 ∧ 9 = 11)) from by omega))
  have t_98 := XI_c1 mσ1 (id := 33) (k := 9) (lim_C0_9 (Or.inr (Or.inr rfl)))
  refine ⟨?_, ?_⟩
  · intro q_99
    replace H := f_f q_99 H
    have w_100 := Int32.toInt_lt a1
    have w_101 := Int32.le_toInt a1
    have b_102 : ¬ a1.toInt = 1 := fun h9 => q_99 (Int32.toInt_inj.mp h9)
    have w_103 := Int32.toInt_lt a3
    have w_104 := Int32.le_toInt a3
    exact U24 a1 a2 a3 σ1 mσ1 fσ1 nσ1_1 nσ1_33 (by omega) (by omega) (by first | with_reducible assumption | with_reducible rfl | omega | assumption | rfl) H (by omega)
  · intro q_99
    replace H := f_t q_99 H
    have w_105 := Int32.toInt_lt a1
    have w_106 := Int32.le_toInt a1
    have b_107 : a1.toInt = 1 := congrArg Int32.toInt q_99
    intro σ3 eσ3
    replace H := f_l eσ3 H
    have mσ3 : XI (mV M) σ3 := by rw [eσ3]; exact XIs_n mσ1 (lim_C0_n (Or.inr (Or.inr rfl)) _ (by decide +kernel))
    have fσ3 : FX (fun id => id = 34 ∨ id = 35 ∨ id = 36 ∨ id = 37 ∨ id = 38 ∨ id = 39 ∨ id = 40 ∨ id = 47 ∨ id = 48) (fun id k => (id = 33 ∧ k = 1) ∨ (id = 33 ∧ k = 3) ∨ (id = 33 ∧ k = 9) ∨ (id = 33 ∧ k = 10) ∨ (id = 33 ∧ k = 11)) σ0 σ3 := by rw [eσ3]; exact FX_si fσ1 (Or.inr (show (33 = 33 ∧ 11 = 1) ∨ (33 = 33 ∧ 11 = 3) ∨ (33 = 33 ∧ 11 = 9) ∨ (33 = 33 ∧ 11 = 10) ∨ (33 = 33 ∧ 11 = 11) from Or.inr (Or.inr (Or.inr (Or.inr (⟨rfl, rfl⟩))))))
    have k_108 : (gi σ3 1 1).toInt = (gi σ1 1 1).toInt := by rw [eσ3]; exact congrArg Int32.toInt (gi_si_ne (Or.inl (by omega)))
    have k_109 : (gi σ3 1 9).toInt = (gi σ1 1 9).toInt := by rw [eσ3]; exact congrArg Int32.toInt (gi_si_ne (Or.inl (by omega)))
    have k_110 : (gi σ3 33 9).toInt = (gi σ1 33 9).toInt := gk_r eσ3 rfl
    have nσ3_1 : NN σ3 1 := by rw [eσ3]; exact NN_si nσ1_1 (by omega) (fun h9 => absurd h9 (by omega))
    have nσ3_33 : NN σ3 33 := by rw [eσ3]; exact NN_si nσ1_33 (by omega) (fun _ => by decide +kernel)
    have w_111 := Int32.toInt_lt a3
    have w_112 := Int32.le_toInt a3
    exact U24 a1 a2 a3 σ3 mσ3 fσ3 nσ3_1 nσ3_33 (by omega) (by omega) (by first | with_reducible assumption | with_reducible rfl | omega | assumption | rfl) H (by omega)
set_option maxRecDepth 100000 in
set_option maxHeartbeats 4000000 in
theorem kF_X11_mostBy {l : Launch} {V : Vx} {a1 : Int32} {a2 : Int32} {a3 : Int32} {a4 : Int32} {a5 : Int32} {σ0 : Sg} {Qk : Int32 → Sg → Prop} (m0 : XI V σ0) (nn_1 : NN σ0 1) (l_a2 : 1 ≤ a2.toInt) (u_a2 : a2.toInt ≤ 60) (l_a3 : -1 ≤ a3.toInt) (u_a3 : a3.toInt ≤ 1) (l_a4 : -1 ≤ a4.toInt) (u_a4 : a4.toInt ≤ 60) (pre0 : (gi σ0 1 9).toInt ≤ 9999) (h9ret : ∀ (r : Int32) (σ' : Sg), XI V σ' → FX (fun id => id = 34 ∨ id = 35 ∨ id = 36 ∨ id = 37 ∨ id = 38 ∨ id = 39 ∨ id = 40 ∨ id = 47 ∨ id = 48) (fun id k => (id = 33 ∧ k = 1) ∨ (id = 33 ∧ k = 3) ∨ (id = 33 ∧ k = 9) ∨ (id = 33 ∧ k = 10) ∨ (id = 33 ∧ k = 11)) σ0 σ' → (NN σ' 1) → (F_X11_mostBy a1 a2 a3 a4 a5 σ0 = (r, σ')) → Qk r σ') : K_X11_mostBy l V a1 a2 a3 a4 a5 σ0 Qk := by
  refine e_X11_mostBy (fun M hl hV hN C => ?_)
  subst hl
  subst hV
  obtain ⟨R9, H0⟩ : ∃ R9, F_X11_mostBy a1 a2 a3 a4 a5 σ0 = R9 := ⟨_, rfl⟩
  have T : ∀ n : Nat, (∀ (x1 : Int32) (x2 : Int32) (x4 : Int32) (x5 : Int32) (x6 : Int32) (x7 : Int32) (x8 : Int32) (σ : Sg), XI (mV M) σ → FX (fun id => id = 34 ∨ id = 35 ∨ id = 36 ∨ id = 37 ∨ id = 38 ∨ id = 39 ∨ id = 40 ∨ id = 47 ∨ id = 48) (fun id k => (id = 33 ∧ k = 1) ∨ (id = 33 ∧ k = 3) ∨ (id = 33 ∧ k = 9) ∨ (id = 33 ∧ k = 10) ∨ (id = 33 ∧ k = 11)) σ0 σ → NN σ 1 → (1 ≤ x2.toInt) → (x2.toInt ≤ 60) → (-1 ≤ x4.toInt) → (x4.toInt ≤ 60) → (0 ≤ x8.toInt) → (x8.toInt ≤ 61) → (LF_X11_mostBy n x1 x2 x4 x5 x6 x7 x8 σ = R9) → (62 - x8.toInt).toNat < n → PS M 17 [(0, .ref 0), (1, .int x1), (2, .int x2), (4, .int x4), (5, .int x5), (6, .int x6), (7, .int x7), (8, .int x8)] [] σ (0, 0)) := by
    intro n
    induction n with
    | zero => exact fun _ _ _ _ _ _ _ _ _ _ _ _ _ _ _ _ _ _ h8 => absurd h8 (Nat.not_lt_zero _)
    | succ n ih =>
      have ih17 := ih
      · intro x1 x2 x4 x5 x6 x7 x8 σ mσ fσ nσ_1 lx2 ux2 lx4 ux4 lx8 ux8 H hmu
        replace H : LB_X11_mostBy_17 (LF_X11_mostBy n) x1 x2 x4 x5 x6 x7 x8 σ = R9 := H
        unfold LB_X11_mostBy_17 at H
        have k_1 : (gi σ 1 1).toInt = (gi σ0 1 1).toInt := congrArg Int32.toInt (FX_i fσ (show ¬ (1 = 34 ∨ 1 = 35 ∨ 1 = 36 ∨ 1 = 37 ∨ 1 = 38 ∨ 1 = 39 ∨ 1 = 40 ∨ 1 = 47 ∨ 1 = 48) from by omega) (show ¬ ((1 = 33 ∧ 1 = 1) ∨ (1 = 33 ∧ 1 = 3) ∨ (1 = 33 ∧ 1 = 9) ∨ (1 = 33 ∧ 1 = 10) ∨ (1 = 33 ∧ 1 = 11)) from by omega))
        have t_2 := XI_c1 mσ (id := 1) (k := 1) (lim_C0_1 (Or.inl rfl))
        have k_3 : (gi σ 1 9).toInt = (gi σ0 1 9).toInt := congrArg Int32.toInt (FX_i fσ (show ¬ (1 = 34 ∨ 1 = 35 ∨ 1 = 36 ∨ 1 = 37 ∨ 1 = 38 ∨ 1 = 39 ∨ 1 = 40 ∨ 1 = 47 ∨ 1 = 48) from by omega) (show ¬ ((1 = 33 ∧ 9 = 1) ∨ (1 = 33 ∧ 9 = 3) ∨ (1 = 33 ∧ 9 = 9) ∨ (1 = 33 ∧ 9 = 10) ∨ (1 = 33 ∧ 9 = 11)) from by omega))
        have t_4 := XI_c1 mσ (id := 1) (k := 9) (lim_C0_9 (Or.inl rfl))
        refine s_X11_mostBy_17 C hN  ?_
        refine ⟨?_, ?_⟩
        · intro q_5
          replace H := f_t q_5 H
          have b_6 : x4.toInt < x8.toInt := Int32.lt_iff_toInt_lt.mp q_5
          refine ⟨?_, ?_⟩
          · intro q_7
            replace H := f_f q_7 H
            have w_8 := Int32.toInt_lt x5
            have w_9 := Int32.le_toInt x5
            have b_10 : ¬ x5.toInt = 0 := fun h9 => q_7 (Int32.toInt_inj.mp h9)
            exact h9ret x7 σ mσ fσ nσ_1 (H0.trans H.symm)
          · intro q_7
            replace H := f_t q_7 H
            have w_11 := Int32.toInt_lt x5
            have w_12 := Int32.le_toInt x5
            have b_13 : x5.toInt = 0 := congrArg Int32.toInt q_7
            exact h9ret x6 σ mσ fσ nσ_1 (H0.trans H.symm)
        · intro q_5
          replace H := f_f q_5 H
          have b_14 : ¬ x4.toInt < x8.toInt := fun h9 => q_5 (Int32.lt_iff_toInt_lt.mpr h9)
          refine kF_X11_totalBy  mσ nσ_1 (by omega) (by omega) (by first | with_reducible assumption | with_reducible rfl | omega | assumption | rfl) (fun r4 σ3 mσ3 cσ3 nσ3_1 hσ3 => ?_)
          replace H := f_b hσ3 H
          have fσ3 : FX (fun id => id = 34 ∨ id = 35 ∨ id = 36 ∨ id = 37 ∨ id = 38 ∨ id = 39 ∨ id = 40 ∨ id = 47 ∨ id = 48) (fun id k => (id = 33 ∧ k = 1) ∨ (id = 33 ∧ k = 3) ∨ (id = 33 ∧ k = 9) ∨ (id = 33 ∧ k = 10) ∨ (id = 33 ∧ k = 11)) σ0 σ3 := FX_tr fσ cσ3 (fun x (h9 : x = 34 ∨ x = 35 ∨ x = 36 ∨ x = 37 ∨ x = 38 ∨ x = 39 ∨ x = 40 ∨ x = 47 ∨ x = 48) => h9.elim (fun e9 => (show x = 34 ∨ x = 35 ∨ x = 36 ∨ x = 37 ∨ x = 38 ∨ x = 39 ∨ x = 40 ∨ x = 47 ∨ x = 48 from Or.inl (e9))) (fun h9 => h9.elim (fun e9 => (show x = 34 ∨ x = 35 ∨ x = 36 ∨ x = 37 ∨ x = 38 ∨ x = 39 ∨ x = 40 ∨ x = 47 ∨ x = 48 from Or.inr (Or.inl (e9)))) (fun h9 => h9.elim (fun e9 => (show x = 34 ∨ x = 35 ∨ x = 36 ∨ x = 37 ∨ x = 38 ∨ x = 39 ∨ x = 40 ∨ x = 47 ∨ x = 48 from Or.inr (Or.inr (Or.inl (e9))))) (fun h9 => h9.elim (fun e9 => (show x = 34 ∨ x = 35 ∨ x = 36 ∨ x = 37 ∨ x = 38 ∨ x = 39 ∨ x = 40 ∨ x = 47 ∨ x = 48 from Or.inr (Or.inr (Or.inr (Or.inl (e9)))))) (fun h9 => h9.elim (fun e9 => (show x = 34 ∨ x = 35 ∨ x = 36 ∨ x = 37 ∨ x = 38 ∨ x = 39 ∨ x = 40 ∨ x = 47 ∨ x = 48 from Or.inr (Or.inr (Or.inr (Or.inr (Or.inl (e9))))))) (fun h9 => h9.elim (fun e9 => (show x = 34 ∨ x = 35 ∨ x = 36 ∨ x = 37 ∨ x = 38 ∨ x = 39 ∨ x = 40 ∨ x = 47 ∨ x = 48 from Or.inr (Or.inr (Or.inr (Or.inr (Or.inr (Or.inl (e9)))))))) (fun h9 => h9.elim (fun e9 => (show x = 34 ∨ x = 35 ∨ x = 36 ∨ x = 37 ∨ x = 38 ∨ x = 39 ∨ x = 40 ∨ x = 47 ∨ x = 48 from Or.inr (Or.inr (Or.inr (Or.inr (Or.inr (Or.inr (Or.inl (e9))))))))) (fun h9 => h9.elim (fun e9 => (show x = 34 ∨ x = 35 ∨ x = 36 ∨ x = 37 ∨ x = 38 ∨ x = 39 ∨ x = 40 ∨ x = 47 ∨ x = 48 from Or.inr (Or.inr (Or.inr (Or.inr (Or.inr (Or.inr (Or.inr (Or.inl (e9)))))))))) (fun h9 => (show x = 34 ∨ x = 35 ∨ x = 36 ∨ x = 37 ∨ x = 38 ∨ x = 39 ∨ x = 40 ∨ x = 47 ∨ x = 48 from Or.inr (Or.inr (Or.inr (Or.inr (Or.inr (Or.inr (Or.inr (Or.inr (h9)))))))))))))))))) (fun x k (h9 : (x = 33 ∧ k = 1) ∨ (x = 33 ∧ k = 3) ∨ (x = 33 ∧ k = 9) ∨ (x = 33 ∧ k = 10) ∨ (x = 33 ∧ k = 11)) => (show (x = 34 ∨ x = 35 ∨ x = 36 ∨ x = 37 ∨ x = 38 ∨ x = 39 ∨ x = 40 ∨ x = 47 ∨ x = 48) ∨ ((x = 33 ∧ k = 1) ∨ (x = 33 ∧ k = 3) ∨ (x = 33 ∧ k = 9) ∨ (x = 33 ∧ k = 10) ∨ (x = 33 ∧ k = 11)) from h9.elim (fun e9 => Or.inr (show (x = 33 ∧ k = 1) ∨ (x = 33 ∧ k = 3) ∨ (x = 33 ∧ k = 9) ∨ (x = 33 ∧ k = 10) ∨ (x = 33 ∧ k = 11) from Or.inl (e9))) (fun h9 => h9.elim (fun e9 => Or.inr (show (x = 33 ∧ k = 1) ∨ (x = 33 ∧ k = 3) ∨ (x = 33 ∧ k = 9) ∨ (x = 33 ∧ k = 10) ∨ (x = 33 ∧ k = 11) from Or.inr (Or.inl (e9)))) (fun h9 => h9.elim (fun e9 => Or.inr (show (x = 33 ∧ k = 1) ∨ (x = 33 ∧ k = 3) ∨ (x = 33 ∧ k = 9) ∨ (x = 33 ∧ k = 10) ∨ (x = 33 ∧ k = 11) from Or.inr (Or.inr (Or.inl (e9))))) (fun h9 => h9.elim (fun e9 => Or.inr (show (x = 33 ∧ k = 1) ∨ (x = 33 ∧ k = 3) ∨ (x = 33 ∧ k = 9) ∨ (x = 33 ∧ k = 10) ∨ (x = 33 ∧ k = 11) from Or.inr (Or.inr (Or.inr (Or.inl (e9)))))) (fun h9 => Or.inr (show (x = 33 ∧ k = 1) ∨ (x = 33 ∧ k = 3) ∨ (x = 33 ∧ k = 9) ∨ (x = 33 ∧ k = 10) ∨ (x = 33 ∧ k = 11) from Or.inr (Or.inr (Or.inr (Or.inr (h9)))))))))))
          have k_15 : (gi σ3 1 1).toInt = (gi σ 1 1).toInt := congrArg Int32.toInt (FX_i cσ3 (show ¬ (1 = 34 ∨ 1 = 35 ∨ 1 = 36 ∨ 1 = 37 ∨ 1 = 38 ∨ 1 = 39 ∨ 1 = 40 ∨ 1 = 47 ∨ 1 = 48) from by omega) (show ¬ ((1 = 33 ∧ 1 = 1) ∨ (1 = 33 ∧ 1 = 3) ∨ (1 = 33 ∧ 1 = 9) ∨ (1 = 33 ∧ 1 = 10) ∨ (1 = 33 ∧ 1 = 11)) from by omega))
          have k_16 : (gi σ3 1 9).toInt = (gi σ 1 9).toInt := congrArg Int32.toInt (FX_i cσ3 (show ¬ (1 = 34 ∨ 1 = 35 ∨ 1 = 36 ∨ 1 = 37 ∨ 1 = 38 ∨ 1 = 39 ∨ 1 = 40 ∨ 1 = 47 ∨ 1 = 48) from by omega) (show ¬ ((1 = 33 ∧ 9 = 1) ∨ (1 = 33 ∧ 9 = 3) ∨ (1 = 33 ∧ 9 = 9) ∨ (1 = 33 ∧ 9 = 10) ∨ (1 = 33 ∧ 9 = 11)) from by omega))
          refine ⟨?_, ?_⟩
          · intro q_17
            replace H := f_t q_17 H
            have w_18 := Int32.toInt_lt r4
            have w_19 := Int32.le_toInt r4
            have w_20 := Int32.toInt_lt x7
            have w_21 := Int32.le_toInt x7
            have b_22 : r4.toInt ≤ x7.toInt := Int32.le_iff_toInt_le.mp q_17
            intro v6 ev6
            replace H := f_l ev6 H
            have t_23 : (x8 + (1 : Int32)).toInt = x8.toInt + 1 := i_add (x := x8) (y := (1 : Int32)) (by show (_ : Int) ≤ x8.toInt + 1; omega) (by show x8.toInt + 1 ≤ (_ : Int); omega)
            have t_24 : v6.toInt = (x8 + (1 : Int32)).toInt := congrArg Int32.toInt ev6
            have w_25 := Int32.toInt_lt x1
            have w_26 := Int32.le_toInt x1
            have w_27 := Int32.toInt_lt x5
            have w_28 := Int32.le_toInt x5
            have w_29 := Int32.toInt_lt x6
            have w_30 := Int32.le_toInt x6
            exact ih17 x1 x2 x4 x5 x6 x7 v6 σ3 mσ3 fσ3 nσ3_1 (by omega) (by omega) (by omega) (by omega) (by omega) (by omega) H (by omega)
          · intro q_17
            replace H := f_f q_17 H
            have w_31 := Int32.toInt_lt r4
            have w_32 := Int32.le_toInt r4
            have w_33 := Int32.toInt_lt x7
            have w_34 := Int32.le_toInt x7
            have b_35 : ¬ r4.toInt ≤ x7.toInt := fun h9 => q_17 (Int32.le_iff_toInt_le.mpr h9)
            intro v7 ev7
            replace H := f_l ev7 H
            have t_36 : (x8 + (1 : Int32)).toInt = x8.toInt + 1 := i_add (x := x8) (y := (1 : Int32)) (by show (_ : Int) ≤ x8.toInt + 1; omega) (by show x8.toInt + 1 ≤ (_ : Int); omega)
            have t_37 : v7.toInt = (x8 + (1 : Int32)).toInt := congrArg Int32.toInt ev7
            have w_38 := Int32.toInt_lt x1
            have w_39 := Int32.le_toInt x1
            have w_40 := Int32.toInt_lt x5
            have w_41 := Int32.le_toInt x5
            exact ih17 x1 x2 x4 x5 x8 r4 v7 σ3 mσ3 fσ3 nσ3_1 (by omega) (by omega) (by omega) (by omega) (by omega) (by omega) H (by omega)
  have U17 := T 90
  have f0 : FX (fun id => id = 34 ∨ id = 35 ∨ id = 36 ∨ id = 37 ∨ id = 38 ∨ id = 39 ∨ id = 40 ∨ id = 47 ∨ id = 48) (fun id k => (id = 33 ∧ k = 1) ∨ (id = 33 ∧ k = 3) ∨ (id = 33 ∧ k = 9) ∨ (id = 33 ∧ k = 10) ∨ (id = 33 ∧ k = 11)) σ0 σ0 := FX_rf
  have t_42 := XI_c1 m0 (id := 1) (k := 1) (lim_C0_1 (Or.inl rfl))
  have t_43 := XI_c1 m0 (id := 1) (k := 9) (lim_C0_9 (Or.inl rfl))
  have H := H0
  unfold F_X11_mostBy at H
  refine s_X11_mostBy_0 C hN  ?_
  refine kF_X11_totalBy  m0 nn_1 (by omega) (by omega) (by first | with_reducible assumption | with_reducible rfl | omega | assumption | rfl) (fun r2 σ1 mσ1 cσ1 nσ1_1 hσ1 => ?_)
  replace H := f_b hσ1 H
  have fσ1 : FX (fun id => id = 34 ∨ id = 35 ∨ id = 36 ∨ id = 37 ∨ id = 38 ∨ id = 39 ∨ id = 40 ∨ id = 47 ∨ id = 48) (fun id k => (id = 33 ∧ k = 1) ∨ (id = 33 ∧ k = 3) ∨ (id = 33 ∧ k = 9) ∨ (id = 33 ∧ k = 10) ∨ (id = 33 ∧ k = 11)) σ0 σ1 := FX_tr f0 cσ1 (fun x (h9 : x = 34 ∨ x = 35 ∨ x = 36 ∨ x = 37 ∨ x = 38 ∨ x = 39 ∨ x = 40 ∨ x = 47 ∨ x = 48) => h9.elim (fun e9 => (show x = 34 ∨ x = 35 ∨ x = 36 ∨ x = 37 ∨ x = 38 ∨ x = 39 ∨ x = 40 ∨ x = 47 ∨ x = 48 from Or.inl (e9))) (fun h9 => h9.elim (fun e9 => (show x = 34 ∨ x = 35 ∨ x = 36 ∨ x = 37 ∨ x = 38 ∨ x = 39 ∨ x = 40 ∨ x = 47 ∨ x = 48 from Or.inr (Or.inl (e9)))) (fun h9 => h9.elim (fun e9 => (show x = 34 ∨ x = 35 ∨ x = 36 ∨ x = 37 ∨ x = 38 ∨ x = 39 ∨ x = 40 ∨ x = 47 ∨ x = 48 from Or.inr (Or.inr (Or.inl (e9))))) (fun h9 => h9.elim (fun e9 => (show x = 34 ∨ x = 35 ∨ x = 36 ∨ x = 37 ∨ x = 38 ∨ x = 39 ∨ x = 40 ∨ x = 47 ∨ x = 48 from Or.inr (Or.inr (Or.inr (Or.inl (e9)))))) (fun h9 => h9.elim (fun e9 => (show x = 34 ∨ x = 35 ∨ x = 36 ∨ x = 37 ∨ x = 38 ∨ x = 39 ∨ x = 40 ∨ x = 47 ∨ x = 48 from Or.inr (Or.inr (Or.inr (Or.inr (Or.inl (e9))))))) (fun h9 => h9.elim (fun e9 => (show x = 34 ∨ x = 35 ∨ x = 36 ∨ x = 37 ∨ x = 38 ∨ x = 39 ∨ x = 40 ∨ x = 47 ∨ x = 48 from Or.inr (Or.inr (Or.inr (Or.inr (Or.inr (Or.inl (e9)))))))) (fun h9 => h9.elim (fun e9 => (show x = 34 ∨ x = 35 ∨ x = 36 ∨ x = 37 ∨ x = 38 ∨ x = 39 ∨ x = 40 ∨ x = 47 ∨ x = 48 from Or.inr (Or.inr (Or.inr (Or.inr (Or.inr (Or.inr (Or.inl (e9))))))))) (fun h9 => h9.elim (fun e9 => (show x = 34 ∨ x = 35 ∨ x = 36 ∨ x = 37 ∨ x = 38 ∨ x = 39 ∨ x = 40 ∨ x = 47 ∨ x = 48 from Or.inr (Or.inr (Or.inr (Or.inr (Or.inr (Or.inr (Or.inr (Or.inl (e9)))))))))) (fun h9 => (show x = 34 ∨ x = 35 ∨ x = 36 ∨ x = 37 ∨ x = 38 ∨ x = 39 ∨ x = 40 ∨ x = 47 ∨ x = 48 from Or.inr (Or.inr (Or.inr (Or.inr (Or.inr (Or.inr (Or.inr (Or.inr (h9)))))))))))))))))) (fun x k (h9 : (x = 33 ∧ k = 1) ∨ (x = 33 ∧ k = 3) ∨ (x = 33 ∧ k = 9) ∨ (x = 33 ∧ k = 10) ∨ (x = 33 ∧ k = 11)) => (show (x = 34 ∨ x = 35 ∨ x = 36 ∨ x = 37 ∨ x = 38 ∨ x = 39 ∨ x = 40 ∨ x = 47 ∨ x = 48) ∨ ((x = 33 ∧ k = 1) ∨ (x = 33 ∧ k = 3) ∨ (x = 33 ∧ k = 9) ∨ (x = 33 ∧ k = 10) ∨ (x = 33 ∧ k = 11)) from h9.elim (fun e9 => Or.inr (show (x = 33 ∧ k = 1) ∨ (x = 33 ∧ k = 3) ∨ (x = 33 ∧ k = 9) ∨ (x = 33 ∧ k = 10) ∨ (x = 33 ∧ k = 11) from Or.inl (e9))) (fun h9 => h9.elim (fun e9 => Or.inr (show (x = 33 ∧ k = 1) ∨ (x = 33 ∧ k = 3) ∨ (x = 33 ∧ k = 9) ∨ (x = 33 ∧ k = 10) ∨ (x = 33 ∧ k = 11) from Or.inr (Or.inl (e9)))) (fun h9 => h9.elim (fun e9 => Or.inr (show (x = 33 ∧ k = 1) ∨ (x = 33 ∧ k = 3) ∨ (x = 33 ∧ k = 9) ∨ (x = 33 ∧ k = 10) ∨ (x = 33 ∧ k = 11) from Or.inr (Or.inr (Or.inl (e9))))) (fun h9 => h9.elim (fun e9 => Or.inr (show (x = 33 ∧ k = 1) ∨ (x = 33 ∧ k = 3) ∨ (x = 33 ∧ k = 9) ∨ (x = 33 ∧ k = 10) ∨ (x = 33 ∧ k = 11) from Or.inr (Or.inr (Or.inr (Or.inl (e9)))))) (fun h9 => Or.inr (show (x = 33 ∧ k = 1) ∨ (x = 33 ∧ k = 3) ∨ (x = 33 ∧ k = 9) ∨ (x = 33 ∧ k = 10) ∨ (x = 33 ∧ k = 11) from Or.inr (Or.inr (Or.inr (Or.inr (h9)))))))))))
  have k_44 : (gi σ1 1 1).toInt = (gi σ0 1 1).toInt := congrArg Int32.toInt (FX_i cσ1 (show ¬ (1 = 34 ∨ 1 = 35 ∨ 1 = 36 ∨ 1 = 37 ∨ 1 = 38 ∨ 1 = 39 ∨ 1 = 40 ∨ 1 = 47 ∨ 1 = 48) from by omega) (show ¬ ((1 = 33 ∧ 1 = 1) ∨ (1 = 33 ∧ 1 = 3) ∨ (1 = 33 ∧ 1 = 9) ∨ (1 = 33 ∧ 1 = 10) ∨ (1 = 33 ∧ 1 = 11)) from by omega))
  have k_45 : (gi σ1 1 9).toInt = (gi σ0 1 9).toInt := congrArg Int32.toInt (FX_i cσ1 (show ¬ (1 = 34 ∨ 1 = 35 ∨ 1 = 36 ∨ 1 = 37 ∨ 1 = 38 ∨ 1 = 39 ∨ 1 = 40 ∨ 1 = 47 ∨ 1 = 48) from by omega) (show ¬ ((1 = 33 ∧ 9 = 1) ∨ (1 = 33 ∧ 9 = 3) ∨ (1 = 33 ∧ 9 = 9) ∨ (1 = 33 ∧ 9 = 10) ∨ (1 = 33 ∧ 9 = 11)) from by omega))
  intro v3 ev3
  replace H := f_l ev3 H
  have t_46 : (a3 + (1 : Int32)).toInt = a3.toInt + 1 := i_add (x := a3) (y := (1 : Int32)) (by show (_ : Int) ≤ a3.toInt + 1; omega) (by show a3.toInt + 1 ≤ (_ : Int); omega)
  have t_47 : v3.toInt = (a3 + (1 : Int32)).toInt := congrArg Int32.toInt ev3
  have w_48 := Int32.toInt_lt a1
  have w_49 := Int32.le_toInt a1
  have w_50 := Int32.toInt_lt a5
  have w_51 := Int32.le_toInt a5
  have w_52 := Int32.toInt_lt r2
  have w_53 := Int32.le_toInt r2
  exact U17 a1 a2 a4 a5 a3 r2 v3 σ1 mσ1 fσ1 nσ1_1 (by omega) (by omega) (by omega) (by omega) (by omega) (by omega) H (by omega)
set_option maxRecDepth 100000 in
set_option maxHeartbeats 4000000 in
theorem kF_X11_whets {l : Launch} {V : Vx} {a1 : Int32} {a2 : Int32} {σ0 : Sg} {Qk : Int32 → Sg → Prop} (m0 : XI V σ0) (nn_1 : NN σ0 1) (pre0 : (gi σ0 1 9).toInt ≤ 9999) (h9ret : ∀ (r : Int32) (σ' : Sg), XI V σ' → FX (fun id => id = 34 ∨ id = 35 ∨ id = 36 ∨ id = 37 ∨ id = 38 ∨ id = 39 ∨ id = 40 ∨ id = 47 ∨ id = 48) (fun id k => (id = 33 ∧ k = 1) ∨ (id = 33 ∧ k = 3) ∨ (id = 33 ∧ k = 9) ∨ (id = 33 ∧ k = 10) ∨ (id = 33 ∧ k = 11)) σ0 σ' → (NN σ' 1) → (F_X11_whets a1 a2 σ0 = (r, σ')) → Qk r σ') : K_X11_whets l V a1 a2 σ0 Qk := by
  refine e_X11_whets (fun M hl hV hN C => ?_)
  subst hl
  subst hV
  obtain ⟨R9, H0⟩ : ∃ R9, F_X11_whets a1 a2 σ0 = R9 := ⟨_, rfl⟩
  have T : ∀ n : Nat, (∀ (x1 : Int32) (x2 : Int32) (σ : Sg), XI (mV M) σ → FX (fun id => id = 34 ∨ id = 35 ∨ id = 36 ∨ id = 37 ∨ id = 38 ∨ id = 39 ∨ id = 40 ∨ id = 47 ∨ id = 48) (fun id k => (id = 33 ∧ k = 1) ∨ (id = 33 ∧ k = 3) ∨ (id = 33 ∧ k = 9) ∨ (id = 33 ∧ k = 10) ∨ (id = 33 ∧ k = 11)) σ0 σ → NN σ 1 → (LF_X11_whets n x1 x2 σ = R9) → 1 < n → PS M 11 [(0, .ref 0), (1, .int x1), (2, .int x2)] [] σ (0, 0)) := by
    intro n
    induction n with
    | zero => exact fun _ _ _ _ _ _ _ h8 => absurd h8 (Nat.not_lt_zero _)
    | succ n ih =>
      have ih11 := ih
      · intro x1 x2 σ mσ fσ nσ_1 H hmu
        replace H : LB_X11_whets_11 (LF_X11_whets n) x1 x2 σ = R9 := H
        unfold LB_X11_whets_11 at H
        have k_1 : (gi σ 1 1).toInt = (gi σ0 1 1).toInt := congrArg Int32.toInt (FX_i fσ (show ¬ (1 = 34 ∨ 1 = 35 ∨ 1 = 36 ∨ 1 = 37 ∨ 1 = 38 ∨ 1 = 39 ∨ 1 = 40 ∨ 1 = 47 ∨ 1 = 48) from by omega) (show ¬ ((1 = 33 ∧ 1 = 1) ∨ (1 = 33 ∧ 1 = 3) ∨ (1 = 33 ∧ 1 = 9) ∨ (1 = 33 ∧ 1 = 10) ∨ (1 = 33 ∧ 1 = 11)) from by omega))
        have t_2 := XI_c1 mσ (id := 1) (k := 1) (lim_C0_1 (Or.inl rfl))
        have k_3 : (gi σ 1 9).toInt = (gi σ0 1 9).toInt := congrArg Int32.toInt (FX_i fσ (show ¬ (1 = 34 ∨ 1 = 35 ∨ 1 = 36 ∨ 1 = 37 ∨ 1 = 38 ∨ 1 = 39 ∨ 1 = 40 ∨ 1 = 47 ∨ 1 = 48) from by omega) (show ¬ ((1 = 33 ∧ 9 = 1) ∨ (1 = 33 ∧ 9 = 3) ∨ (1 = 33 ∧ 9 = 9) ∨ (1 = 33 ∧ 9 = 10) ∨ (1 = 33 ∧ 9 = 11)) from by omega))
        have t_4 := XI_c1 mσ (id := 1) (k := 9) (lim_C0_9 (Or.inl rfl))
        refine s_X11_whets_11 C hN  ?_
        refine ⟨?_, ?_⟩
        · intro q_5
          replace H := f_t q_5 H
          have w_6 := Int32.toInt_lt x1
          have w_7 := Int32.le_toInt x1
          have b_8 : x1.toInt < 1 := Int32.lt_iff_toInt_lt.mp q_5
          have z_9 : (-2 : Int32).toInt = -2 := rfl
          exact h9ret (-2 : Int32) σ mσ fσ nσ_1 (H0.trans H.symm)
        · intro q_5
          replace H := f_f q_5 H
          have w_10 := Int32.toInt_lt x1
          have w_11 := Int32.le_toInt x1
          have b_12 : ¬ x1.toInt < 1 := fun h9 => q_5 (Int32.lt_iff_toInt_lt.mpr h9)
          refine ⟨?_, ?_⟩
          · intro q_13
            replace H := f_t q_13 H
            have b_14 : x1.toInt ≤ 60 := Int32.le_iff_toInt_le.mp q_13
            have z_15 : (0 : Int32).toInt = 0 := rfl
            have z_16 : (1 : Int32).toInt = 1 := rfl
            have z_17 : (16 : Int32).toInt = 16 := rfl
            refine kF_X11_mostBy  mσ nσ_1 (by omega) (by omega) (by omega) (by omega) (by omega) (by omega) (by first | with_reducible assumption | with_reducible rfl | omega | assumption | rfl) (fun r4 σ3 mσ3 cσ3 nσ3_1 hσ3 => ?_)
            replace H := f_b hσ3 H
            have fσ3 : FX (fun id => id = 34 ∨ id = 35 ∨ id = 36 ∨ id = 37 ∨ id = 38 ∨ id = 39 ∨ id = 40 ∨ id = 47 ∨ id = 48) (fun id k => (id = 33 ∧ k = 1) ∨ (id = 33 ∧ k = 3) ∨ (id = 33 ∧ k = 9) ∨ (id = 33 ∧ k = 10) ∨ (id = 33 ∧ k = 11)) σ0 σ3 := FX_tr fσ cσ3 (fun x (h9 : x = 34 ∨ x = 35 ∨ x = 36 ∨ x = 37 ∨ x = 38 ∨ x = 39 ∨ x = 40 ∨ x = 47 ∨ x = 48) => h9.elim (fun e9 => (show x = 34 ∨ x = 35 ∨ x = 36 ∨ x = 37 ∨ x = 38 ∨ x = 39 ∨ x = 40 ∨ x = 47 ∨ x = 48 from Or.inl (e9))) (fun h9 => h9.elim (fun e9 => (show x = 34 ∨ x = 35 ∨ x = 36 ∨ x = 37 ∨ x = 38 ∨ x = 39 ∨ x = 40 ∨ x = 47 ∨ x = 48 from Or.inr (Or.inl (e9)))) (fun h9 => h9.elim (fun e9 => (show x = 34 ∨ x = 35 ∨ x = 36 ∨ x = 37 ∨ x = 38 ∨ x = 39 ∨ x = 40 ∨ x = 47 ∨ x = 48 from Or.inr (Or.inr (Or.inl (e9))))) (fun h9 => h9.elim (fun e9 => (show x = 34 ∨ x = 35 ∨ x = 36 ∨ x = 37 ∨ x = 38 ∨ x = 39 ∨ x = 40 ∨ x = 47 ∨ x = 48 from Or.inr (Or.inr (Or.inr (Or.inl (e9)))))) (fun h9 => h9.elim (fun e9 => (show x = 34 ∨ x = 35 ∨ x = 36 ∨ x = 37 ∨ x = 38 ∨ x = 39 ∨ x = 40 ∨ x = 47 ∨ x = 48 from Or.inr (Or.inr (Or.inr (Or.inr (Or.inl (e9))))))) (fun h9 => h9.elim (fun e9 => (show x = 34 ∨ x = 35 ∨ x = 36 ∨ x = 37 ∨ x = 38 ∨ x = 39 ∨ x = 40 ∨ x = 47 ∨ x = 48 from Or.inr (Or.inr (Or.inr (Or.inr (Or.inr (Or.inl (e9)))))))) (fun h9 => h9.elim (fun e9 => (show x = 34 ∨ x = 35 ∨ x = 36 ∨ x = 37 ∨ x = 38 ∨ x = 39 ∨ x = 40 ∨ x = 47 ∨ x = 48 from Or.inr (Or.inr (Or.inr (Or.inr (Or.inr (Or.inr (Or.inl (e9))))))))) (fun h9 => h9.elim (fun e9 => (show x = 34 ∨ x = 35 ∨ x = 36 ∨ x = 37 ∨ x = 38 ∨ x = 39 ∨ x = 40 ∨ x = 47 ∨ x = 48 from Or.inr (Or.inr (Or.inr (Or.inr (Or.inr (Or.inr (Or.inr (Or.inl (e9)))))))))) (fun h9 => (show x = 34 ∨ x = 35 ∨ x = 36 ∨ x = 37 ∨ x = 38 ∨ x = 39 ∨ x = 40 ∨ x = 47 ∨ x = 48 from Or.inr (Or.inr (Or.inr (Or.inr (Or.inr (Or.inr (Or.inr (Or.inr (h9)))))))))))))))))) (fun x k (h9 : (x = 33 ∧ k = 1) ∨ (x = 33 ∧ k = 3) ∨ (x = 33 ∧ k = 9) ∨ (x = 33 ∧ k = 10) ∨ (x = 33 ∧ k = 11)) => (show (x = 34 ∨ x = 35 ∨ x = 36 ∨ x = 37 ∨ x = 38 ∨ x = 39 ∨ x = 40 ∨ x = 47 ∨ x = 48) ∨ ((x = 33 ∧ k = 1) ∨ (x = 33 ∧ k = 3) ∨ (x = 33 ∧ k = 9) ∨ (x = 33 ∧ k = 10) ∨ (x = 33 ∧ k = 11)) from h9.elim (fun e9 => Or.inr (show (x = 33 ∧ k = 1) ∨ (x = 33 ∧ k = 3) ∨ (x = 33 ∧ k = 9) ∨ (x = 33 ∧ k = 10) ∨ (x = 33 ∧ k = 11) from Or.inl (e9))) (fun h9 => h9.elim (fun e9 => Or.inr (show (x = 33 ∧ k = 1) ∨ (x = 33 ∧ k = 3) ∨ (x = 33 ∧ k = 9) ∨ (x = 33 ∧ k = 10) ∨ (x = 33 ∧ k = 11) from Or.inr (Or.inl (e9)))) (fun h9 => h9.elim (fun e9 => Or.inr (show (x = 33 ∧ k = 1) ∨ (x = 33 ∧ k = 3) ∨ (x = 33 ∧ k = 9) ∨ (x = 33 ∧ k = 10) ∨ (x = 33 ∧ k = 11) from Or.inr (Or.inr (Or.inl (e9))))) (fun h9 => h9.elim (fun e9 => Or.inr (show (x = 33 ∧ k = 1) ∨ (x = 33 ∧ k = 3) ∨ (x = 33 ∧ k = 9) ∨ (x = 33 ∧ k = 10) ∨ (x = 33 ∧ k = 11) from Or.inr (Or.inr (Or.inr (Or.inl (e9)))))) (fun h9 => Or.inr (show (x = 33 ∧ k = 1) ∨ (x = 33 ∧ k = 3) ∨ (x = 33 ∧ k = 9) ∨ (x = 33 ∧ k = 10) ∨ (x = 33 ∧ k = 11) from Or.inr (Or.inr (Or.inr (Or.inr (h9)))))))))))
            have k_18 : (gi σ3 1 1).toInt = (gi σ 1 1).toInt := congrArg Int32.toInt (FX_i cσ3 (show ¬ (1 = 34 ∨ 1 = 35 ∨ 1 = 36 ∨ 1 = 37 ∨ 1 = 38 ∨ 1 = 39 ∨ 1 = 40 ∨ 1 = 47 ∨ 1 = 48) from by omega) (show ¬ ((1 = 33 ∧ 1 = 1) ∨ (1 = 33 ∧ 1 = 3) ∨ (1 = 33 ∧ 1 = 9) ∨ (1 = 33 ∧ 1 = 10) ∨ (1 = 33 ∧ 1 = 11)) from by omega))
            have k_19 : (gi σ3 1 9).toInt = (gi σ 1 9).toInt := congrArg Int32.toInt (FX_i cσ3 (show ¬ (1 = 34 ∨ 1 = 35 ∨ 1 = 36 ∨ 1 = 37 ∨ 1 = 38 ∨ 1 = 39 ∨ 1 = 40 ∨ 1 = 47 ∨ 1 = 48) from by omega) (show ¬ ((1 = 33 ∧ 9 = 1) ∨ (1 = 33 ∧ 9 = 3) ∨ (1 = 33 ∧ 9 = 9) ∨ (1 = 33 ∧ 9 = 10) ∨ (1 = 33 ∧ 9 = 11)) from by omega))
            exact h9ret r4 σ3 mσ3 fσ3 nσ3_1 (H0.trans H.symm)
          · intro q_13
            replace H := f_f q_13 H
            have b_20 : ¬ x1.toInt ≤ 60 := fun h9 => q_13 (Int32.le_iff_toInt_le.mpr h9)
            have z_21 : (-2 : Int32).toInt = -2 := rfl
            exact h9ret (-2 : Int32) σ mσ fσ nσ_1 (H0.trans H.symm)
  have U11 := T 9
  have f0 : FX (fun id => id = 34 ∨ id = 35 ∨ id = 36 ∨ id = 37 ∨ id = 38 ∨ id = 39 ∨ id = 40 ∨ id = 47 ∨ id = 48) (fun id k => (id = 33 ∧ k = 1) ∨ (id = 33 ∧ k = 3) ∨ (id = 33 ∧ k = 9) ∨ (id = 33 ∧ k = 10) ∨ (id = 33 ∧ k = 11)) σ0 σ0 := FX_rf
  have t_22 := XI_c1 m0 (id := 1) (k := 1) (lim_C0_1 (Or.inl rfl))
  have t_23 := XI_c1 m0 (id := 1) (k := 9) (lim_C0_9 (Or.inl rfl))
  have H := H0
  unfold F_X11_whets at H
  refine s_X11_whets_0 C hN  ?_
  refine ⟨?_, ?_⟩
  · intro q_24
    replace H := f_t q_24 H
    have w_25 := Int32.toInt_lt a2
    have w_26 := Int32.le_toInt a2
    have b_27 : a2.toInt = 0 := congrArg Int32.toInt q_24
    have w_28 := Int32.toInt_lt a1
    have w_29 := Int32.le_toInt a1
    exact U11 a1 a2 σ0 m0 f0 nn_1 H (by omega)
  · intro q_24
    replace H := f_f q_24 H
    have w_30 := Int32.toInt_lt a2
    have w_31 := Int32.le_toInt a2
    have b_32 : ¬ a2.toInt = 0 := fun h9 => q_24 (Int32.toInt_inj.mp h9)
    refine ⟨?_, ?_⟩
    · intro q_33
      replace H := f_t q_33 H
      have b_34 : a2.toInt = 1 := congrArg Int32.toInt q_33
      have w_35 := Int32.toInt_lt a1
      have w_36 := Int32.le_toInt a1
      exact U11 a1 a2 σ0 m0 f0 nn_1 H (by omega)
    · intro q_33
      replace H := f_f q_33 H
      have b_37 : ¬ a2.toInt = 1 := fun h9 => q_33 (Int32.toInt_inj.mp h9)
      have z_38 : (-1 : Int32).toInt = -1 := rfl
      exact h9ret (-1 : Int32) σ0 m0 f0 nn_1 (H0.trans H.symm)
set_option maxRecDepth 100000 in
set_option maxHeartbeats 4000000 in
theorem kF_X11_apart {l : Launch} {V : Vx} {a1 : Int32} {a2 : Int32} {σ0 : Sg} {Qk : Int32 → Sg → Prop} (m0 : XI V σ0) (nn_1 : NN σ0 1) (pre0 : (gi σ0 1 9).toInt ≤ 9999) (h9ret : ∀ (r : Int32) (σ' : Sg), XI V σ' → FX (fun id => id = 34 ∨ id = 35 ∨ id = 36 ∨ id = 37 ∨ id = 38 ∨ id = 39 ∨ id = 40 ∨ id = 47 ∨ id = 48) (fun id k => (id = 33 ∧ k = 1) ∨ (id = 33 ∧ k = 3) ∨ (id = 33 ∧ k = 9) ∨ (id = 33 ∧ k = 10) ∨ (id = 33 ∧ k = 11)) σ0 σ' → (NN σ' 1) → (F_X11_apart a1 a2 σ0 = (r, σ')) → Qk r σ') : K_X11_apart l V a1 a2 σ0 Qk := by
  refine e_X11_apart (fun M hl hV hN C => ?_)
  subst hl
  subst hV
  obtain ⟨R9, H0⟩ : ∃ R9, F_X11_apart a1 a2 σ0 = R9 := ⟨_, rfl⟩
  have T : ∀ n : Nat, (∀ (x1 : Int32) (x2 : Int32) (σ : Sg), XI (mV M) σ → FX (fun id => id = 34 ∨ id = 35 ∨ id = 36 ∨ id = 37 ∨ id = 38 ∨ id = 39 ∨ id = 40 ∨ id = 47 ∨ id = 48) (fun id k => (id = 33 ∧ k = 1) ∨ (id = 33 ∧ k = 3) ∨ (id = 33 ∧ k = 9) ∨ (id = 33 ∧ k = 10) ∨ (id = 33 ∧ k = 11)) σ0 σ → NN σ 1 → (LF_X11_apart n x1 x2 σ = R9) → 1 < n → PS M 11 [(0, .ref 0), (1, .int x1), (2, .int x2)] [] σ (0, 0)) := by
    intro n
    induction n with
    | zero => exact fun _ _ _ _ _ _ _ h8 => absurd h8 (Nat.not_lt_zero _)
    | succ n ih =>
      have ih11 := ih
      · intro x1 x2 σ mσ fσ nσ_1 H hmu
        replace H : LB_X11_apart_11 (LF_X11_apart n) x1 x2 σ = R9 := H
        unfold LB_X11_apart_11 at H
        have k_1 : (gi σ 1 1).toInt = (gi σ0 1 1).toInt := congrArg Int32.toInt (FX_i fσ (show ¬ (1 = 34 ∨ 1 = 35 ∨ 1 = 36 ∨ 1 = 37 ∨ 1 = 38 ∨ 1 = 39 ∨ 1 = 40 ∨ 1 = 47 ∨ 1 = 48) from by omega) (show ¬ ((1 = 33 ∧ 1 = 1) ∨ (1 = 33 ∧ 1 = 3) ∨ (1 = 33 ∧ 1 = 9) ∨ (1 = 33 ∧ 1 = 10) ∨ (1 = 33 ∧ 1 = 11)) from by omega))
        have t_2 := XI_c1 mσ (id := 1) (k := 1) (lim_C0_1 (Or.inl rfl))
        have k_3 : (gi σ 1 9).toInt = (gi σ0 1 9).toInt := congrArg Int32.toInt (FX_i fσ (show ¬ (1 = 34 ∨ 1 = 35 ∨ 1 = 36 ∨ 1 = 37 ∨ 1 = 38 ∨ 1 = 39 ∨ 1 = 40 ∨ 1 = 47 ∨ 1 = 48) from by omega) (show ¬ ((1 = 33 ∧ 9 = 1) ∨ (1 = 33 ∧ 9 = 3) ∨ (1 = 33 ∧ 9 = 9) ∨ (1 = 33 ∧ 9 = 10) ∨ (1 = 33 ∧ 9 = 11)) from by omega))
        have t_4 := XI_c1 mσ (id := 1) (k := 9) (lim_C0_9 (Or.inl rfl))
        refine s_X11_apart_11 C hN  ?_
        refine ⟨?_, ?_⟩
        · intro q_5
          replace H := f_t q_5 H
          have w_6 := Int32.toInt_lt x1
          have w_7 := Int32.le_toInt x1
          have b_8 : x1.toInt < 1 := Int32.lt_iff_toInt_lt.mp q_5
          have z_9 : (-2 : Int32).toInt = -2 := rfl
          exact h9ret (-2 : Int32) σ mσ fσ nσ_1 (H0.trans H.symm)
        · intro q_5
          replace H := f_f q_5 H
          have w_10 := Int32.toInt_lt x1
          have w_11 := Int32.le_toInt x1
          have b_12 : ¬ x1.toInt < 1 := fun h9 => q_5 (Int32.lt_iff_toInt_lt.mpr h9)
          refine ⟨?_, ?_⟩
          · intro q_13
            replace H := f_t q_13 H
            have b_14 : x1.toInt ≤ 60 := Int32.le_iff_toInt_le.mp q_13
            have z_15 : (1 : Int32).toInt = 1 := rfl
            have z_16 : (0 : Int32).toInt = 0 := rfl
            have z_17 : (9 : Int32).toInt = 9 := rfl
            refine kF_X11_mostBy  mσ nσ_1 (by omega) (by omega) (by omega) (by omega) (by omega) (by omega) (by first | with_reducible assumption | with_reducible rfl | omega | assumption | rfl) (fun r4 σ3 mσ3 cσ3 nσ3_1 hσ3 => ?_)
            replace H := f_b hσ3 H
            have fσ3 : FX (fun id => id = 34 ∨ id = 35 ∨ id = 36 ∨ id = 37 ∨ id = 38 ∨ id = 39 ∨ id = 40 ∨ id = 47 ∨ id = 48) (fun id k => (id = 33 ∧ k = 1) ∨ (id = 33 ∧ k = 3) ∨ (id = 33 ∧ k = 9) ∨ (id = 33 ∧ k = 10) ∨ (id = 33 ∧ k = 11)) σ0 σ3 := FX_tr fσ cσ3 (fun x (h9 : x = 34 ∨ x = 35 ∨ x = 36 ∨ x = 37 ∨ x = 38 ∨ x = 39 ∨ x = 40 ∨ x = 47 ∨ x = 48) => h9.elim (fun e9 => (show x = 34 ∨ x = 35 ∨ x = 36 ∨ x = 37 ∨ x = 38 ∨ x = 39 ∨ x = 40 ∨ x = 47 ∨ x = 48 from Or.inl (e9))) (fun h9 => h9.elim (fun e9 => (show x = 34 ∨ x = 35 ∨ x = 36 ∨ x = 37 ∨ x = 38 ∨ x = 39 ∨ x = 40 ∨ x = 47 ∨ x = 48 from Or.inr (Or.inl (e9)))) (fun h9 => h9.elim (fun e9 => (show x = 34 ∨ x = 35 ∨ x = 36 ∨ x = 37 ∨ x = 38 ∨ x = 39 ∨ x = 40 ∨ x = 47 ∨ x = 48 from Or.inr (Or.inr (Or.inl (e9))))) (fun h9 => h9.elim (fun e9 => (show x = 34 ∨ x = 35 ∨ x = 36 ∨ x = 37 ∨ x = 38 ∨ x = 39 ∨ x = 40 ∨ x = 47 ∨ x = 48 from Or.inr (Or.inr (Or.inr (Or.inl (e9)))))) (fun h9 => h9.elim (fun e9 => (show x = 34 ∨ x = 35 ∨ x = 36 ∨ x = 37 ∨ x = 38 ∨ x = 39 ∨ x = 40 ∨ x = 47 ∨ x = 48 from Or.inr (Or.inr (Or.inr (Or.inr (Or.inl (e9))))))) (fun h9 => h9.elim (fun e9 => (show x = 34 ∨ x = 35 ∨ x = 36 ∨ x = 37 ∨ x = 38 ∨ x = 39 ∨ x = 40 ∨ x = 47 ∨ x = 48 from Or.inr (Or.inr (Or.inr (Or.inr (Or.inr (Or.inl (e9)))))))) (fun h9 => h9.elim (fun e9 => (show x = 34 ∨ x = 35 ∨ x = 36 ∨ x = 37 ∨ x = 38 ∨ x = 39 ∨ x = 40 ∨ x = 47 ∨ x = 48 from Or.inr (Or.inr (Or.inr (Or.inr (Or.inr (Or.inr (Or.inl (e9))))))))) (fun h9 => h9.elim (fun e9 => (show x = 34 ∨ x = 35 ∨ x = 36 ∨ x = 37 ∨ x = 38 ∨ x = 39 ∨ x = 40 ∨ x = 47 ∨ x = 48 from Or.inr (Or.inr (Or.inr (Or.inr (Or.inr (Or.inr (Or.inr (Or.inl (e9)))))))))) (fun h9 => (show x = 34 ∨ x = 35 ∨ x = 36 ∨ x = 37 ∨ x = 38 ∨ x = 39 ∨ x = 40 ∨ x = 47 ∨ x = 48 from Or.inr (Or.inr (Or.inr (Or.inr (Or.inr (Or.inr (Or.inr (Or.inr (h9)))))))))))))))))) (fun x k (h9 : (x = 33 ∧ k = 1) ∨ (x = 33 ∧ k = 3) ∨ (x = 33 ∧ k = 9) ∨ (x = 33 ∧ k = 10) ∨ (x = 33 ∧ k = 11)) => (show (x = 34 ∨ x = 35 ∨ x = 36 ∨ x = 37 ∨ x = 38 ∨ x = 39 ∨ x = 40 ∨ x = 47 ∨ x = 48) ∨ ((x = 33 ∧ k = 1) ∨ (x = 33 ∧ k = 3) ∨ (x = 33 ∧ k = 9) ∨ (x = 33 ∧ k = 10) ∨ (x = 33 ∧ k = 11)) from h9.elim (fun e9 => Or.inr (show (x = 33 ∧ k = 1) ∨ (x = 33 ∧ k = 3) ∨ (x = 33 ∧ k = 9) ∨ (x = 33 ∧ k = 10) ∨ (x = 33 ∧ k = 11) from Or.inl (e9))) (fun h9 => h9.elim (fun e9 => Or.inr (show (x = 33 ∧ k = 1) ∨ (x = 33 ∧ k = 3) ∨ (x = 33 ∧ k = 9) ∨ (x = 33 ∧ k = 10) ∨ (x = 33 ∧ k = 11) from Or.inr (Or.inl (e9)))) (fun h9 => h9.elim (fun e9 => Or.inr (show (x = 33 ∧ k = 1) ∨ (x = 33 ∧ k = 3) ∨ (x = 33 ∧ k = 9) ∨ (x = 33 ∧ k = 10) ∨ (x = 33 ∧ k = 11) from Or.inr (Or.inr (Or.inl (e9))))) (fun h9 => h9.elim (fun e9 => Or.inr (show (x = 33 ∧ k = 1) ∨ (x = 33 ∧ k = 3) ∨ (x = 33 ∧ k = 9) ∨ (x = 33 ∧ k = 10) ∨ (x = 33 ∧ k = 11) from Or.inr (Or.inr (Or.inr (Or.inl (e9)))))) (fun h9 => Or.inr (show (x = 33 ∧ k = 1) ∨ (x = 33 ∧ k = 3) ∨ (x = 33 ∧ k = 9) ∨ (x = 33 ∧ k = 10) ∨ (x = 33 ∧ k = 11) from Or.inr (Or.inr (Or.inr (Or.inr (h9)))))))))))
            have k_18 : (gi σ3 1 1).toInt = (gi σ 1 1).toInt := congrArg Int32.toInt (FX_i cσ3 (show ¬ (1 = 34 ∨ 1 = 35 ∨ 1 = 36 ∨ 1 = 37 ∨ 1 = 38 ∨ 1 = 39 ∨ 1 = 40 ∨ 1 = 47 ∨ 1 = 48) from by omega) (show ¬ ((1 = 33 ∧ 1 = 1) ∨ (1 = 33 ∧ 1 = 3) ∨ (1 = 33 ∧ 1 = 9) ∨ (1 = 33 ∧ 1 = 10) ∨ (1 = 33 ∧ 1 = 11)) from by omega))
            have k_19 : (gi σ3 1 9).toInt = (gi σ 1 9).toInt := congrArg Int32.toInt (FX_i cσ3 (show ¬ (1 = 34 ∨ 1 = 35 ∨ 1 = 36 ∨ 1 = 37 ∨ 1 = 38 ∨ 1 = 39 ∨ 1 = 40 ∨ 1 = 47 ∨ 1 = 48) from by omega) (show ¬ ((1 = 33 ∧ 9 = 1) ∨ (1 = 33 ∧ 9 = 3) ∨ (1 = 33 ∧ 9 = 9) ∨ (1 = 33 ∧ 9 = 10) ∨ (1 = 33 ∧ 9 = 11)) from by omega))
            exact h9ret r4 σ3 mσ3 fσ3 nσ3_1 (H0.trans H.symm)
          · intro q_13
            replace H := f_f q_13 H
            have b_20 : ¬ x1.toInt ≤ 60 := fun h9 => q_13 (Int32.le_iff_toInt_le.mpr h9)
            have z_21 : (-2 : Int32).toInt = -2 := rfl
            exact h9ret (-2 : Int32) σ mσ fσ nσ_1 (H0.trans H.symm)
  have U11 := T 9
  have f0 : FX (fun id => id = 34 ∨ id = 35 ∨ id = 36 ∨ id = 37 ∨ id = 38 ∨ id = 39 ∨ id = 40 ∨ id = 47 ∨ id = 48) (fun id k => (id = 33 ∧ k = 1) ∨ (id = 33 ∧ k = 3) ∨ (id = 33 ∧ k = 9) ∨ (id = 33 ∧ k = 10) ∨ (id = 33 ∧ k = 11)) σ0 σ0 := FX_rf
  have t_22 := XI_c1 m0 (id := 1) (k := 1) (lim_C0_1 (Or.inl rfl))
  have t_23 := XI_c1 m0 (id := 1) (k := 9) (lim_C0_9 (Or.inl rfl))
  have H := H0
  unfold F_X11_apart at H
  refine s_X11_apart_0 C hN  ?_
  refine ⟨?_, ?_⟩
  · intro q_24
    replace H := f_t q_24 H
    have w_25 := Int32.toInt_lt a2
    have w_26 := Int32.le_toInt a2
    have b_27 : a2.toInt = 0 := congrArg Int32.toInt q_24
    have w_28 := Int32.toInt_lt a1
    have w_29 := Int32.le_toInt a1
    exact U11 a1 a2 σ0 m0 f0 nn_1 H (by omega)
  · intro q_24
    replace H := f_f q_24 H
    have w_30 := Int32.toInt_lt a2
    have w_31 := Int32.le_toInt a2
    have b_32 : ¬ a2.toInt = 0 := fun h9 => q_24 (Int32.toInt_inj.mp h9)
    refine ⟨?_, ?_⟩
    · intro q_33
      replace H := f_t q_33 H
      have b_34 : a2.toInt = 1 := congrArg Int32.toInt q_33
      have w_35 := Int32.toInt_lt a1
      have w_36 := Int32.le_toInt a1
      exact U11 a1 a2 σ0 m0 f0 nn_1 H (by omega)
    · intro q_33
      replace H := f_f q_33 H
      have b_37 : ¬ a2.toInt = 1 := fun h9 => q_33 (Int32.toInt_inj.mp h9)
      have z_38 : (-1 : Int32).toInt = -1 := rfl
      exact h9ret (-1 : Int32) σ0 m0 f0 nn_1 (H0.trans H.symm)
set_option maxRecDepth 100000 in
set_option maxHeartbeats 4000000 in
theorem kF_X11_rest {l : Launch} {V : Vx} {a1 : Int32} {a2 : Int32} {σ0 : Sg} {Qk : Int32 → Sg → Prop} (m0 : XI V σ0) (nn_1 : NN σ0 1) (pre0 : (gi σ0 1 9).toInt ≤ 9999) (h9ret : ∀ (r : Int32) (σ' : Sg), XI V σ' → FX (fun id => id = 34 ∨ id = 35 ∨ id = 36 ∨ id = 37 ∨ id = 38 ∨ id = 39 ∨ id = 40 ∨ id = 47 ∨ id = 48) (fun id k => (id = 33 ∧ k = 1) ∨ (id = 33 ∧ k = 3) ∨ (id = 33 ∧ k = 9) ∨ (id = 33 ∧ k = 10) ∨ (id = 33 ∧ k = 11)) σ0 σ' → (NN σ' 1) → (F_X11_rest a1 a2 σ0 = (r, σ')) → Qk r σ') : K_X11_rest l V a1 a2 σ0 Qk := by
  refine e_X11_rest (fun M hl hV hN C => ?_)
  subst hl
  subst hV
  obtain ⟨R9, H0⟩ : ∃ R9, F_X11_rest a1 a2 σ0 = R9 := ⟨_, rfl⟩
  have T : ∀ n : Nat, (∀ (x1 : Int32) (x2 : Int32) (σ : Sg), XI (mV M) σ → FX (fun id => id = 34 ∨ id = 35 ∨ id = 36 ∨ id = 37 ∨ id = 38 ∨ id = 39 ∨ id = 40 ∨ id = 47 ∨ id = 48) (fun id k => (id = 33 ∧ k = 1) ∨ (id = 33 ∧ k = 3) ∨ (id = 33 ∧ k = 9) ∨ (id = 33 ∧ k = 10) ∨ (id = 33 ∧ k = 11)) σ0 σ → NN σ 1 → (LF_X11_rest n x1 x2 σ = R9) → 1 < n → PS M 11 [(0, .ref 0), (1, .int x1), (2, .int x2)] [] σ (0, 0)) := by
    intro n
    induction n with
    | zero => exact fun _ _ _ _ _ _ _ h8 => absurd h8 (Nat.not_lt_zero _)
    | succ n ih =>
      have ih11 := ih
      · intro x1 x2 σ mσ fσ nσ_1 H hmu
        replace H : LB_X11_rest_11 (LF_X11_rest n) x1 x2 σ = R9 := H
        unfold LB_X11_rest_11 at H
        have k_1 : (gi σ 1 1).toInt = (gi σ0 1 1).toInt := congrArg Int32.toInt (FX_i fσ (show ¬ (1 = 34 ∨ 1 = 35 ∨ 1 = 36 ∨ 1 = 37 ∨ 1 = 38 ∨ 1 = 39 ∨ 1 = 40 ∨ 1 = 47 ∨ 1 = 48) from by omega) (show ¬ ((1 = 33 ∧ 1 = 1) ∨ (1 = 33 ∧ 1 = 3) ∨ (1 = 33 ∧ 1 = 9) ∨ (1 = 33 ∧ 1 = 10) ∨ (1 = 33 ∧ 1 = 11)) from by omega))
        have t_2 := XI_c1 mσ (id := 1) (k := 1) (lim_C0_1 (Or.inl rfl))
        have k_3 : (gi σ 1 9).toInt = (gi σ0 1 9).toInt := congrArg Int32.toInt (FX_i fσ (show ¬ (1 = 34 ∨ 1 = 35 ∨ 1 = 36 ∨ 1 = 37 ∨ 1 = 38 ∨ 1 = 39 ∨ 1 = 40 ∨ 1 = 47 ∨ 1 = 48) from by omega) (show ¬ ((1 = 33 ∧ 9 = 1) ∨ (1 = 33 ∧ 9 = 3) ∨ (1 = 33 ∧ 9 = 9) ∨ (1 = 33 ∧ 9 = 10) ∨ (1 = 33 ∧ 9 = 11)) from by omega))
        have t_4 := XI_c1 mσ (id := 1) (k := 9) (lim_C0_9 (Or.inl rfl))
        refine s_X11_rest_11 C hN  ?_
        refine ⟨?_, ?_⟩
        · intro q_5
          replace H := f_t q_5 H
          have w_6 := Int32.toInt_lt x1
          have w_7 := Int32.le_toInt x1
          have b_8 : x1.toInt < 1 := Int32.lt_iff_toInt_lt.mp q_5
          have z_9 : (-2 : Int32).toInt = -2 := rfl
          exact h9ret (-2 : Int32) σ mσ fσ nσ_1 (H0.trans H.symm)
        · intro q_5
          replace H := f_f q_5 H
          have w_10 := Int32.toInt_lt x1
          have w_11 := Int32.le_toInt x1
          have b_12 : ¬ x1.toInt < 1 := fun h9 => q_5 (Int32.lt_iff_toInt_lt.mpr h9)
          refine ⟨?_, ?_⟩
          · intro q_13
            replace H := f_t q_13 H
            have b_14 : x1.toInt ≤ 60 := Int32.le_iff_toInt_le.mp q_13
            have z_15 : (2 : Int32).toInt = 2 := rfl
            have z_16 : (-1 : Int32).toInt = -1 := rfl
            have t_17 : ((gi σ 1 1) - (1 : Int32)).toInt = (gi σ 1 1).toInt - 1 := i_sub (x := (gi σ 1 1)) (y := (1 : Int32)) (by show (_ : Int) ≤ (gi σ 1 1).toInt - 1; omega) (by show (gi σ 1 1).toInt - 1 ≤ (_ : Int); omega)
            have z_18 : (0 : Int32).toInt = 0 := rfl
            refine kF_X11_mostBy  mσ nσ_1 (by omega) (by omega) (by omega) (by omega) (by omega) (by omega) (by first | with_reducible assumption | with_reducible rfl | omega | assumption | rfl) (fun r4 σ3 mσ3 cσ3 nσ3_1 hσ3 => ?_)
            replace H := f_b hσ3 H
            have fσ3 : FX (fun id => id = 34 ∨ id = 35 ∨ id = 36 ∨ id = 37 ∨ id = 38 ∨ id = 39 ∨ id = 40 ∨ id = 47 ∨ id = 48) (fun id k => (id = 33 ∧ k = 1) ∨ (id = 33 ∧ k = 3) ∨ (id = 33 ∧ k = 9) ∨ (id = 33 ∧ k = 10) ∨ (id = 33 ∧ k = 11)) σ0 σ3 := FX_tr fσ cσ3 (fun x (h9 : x = 34 ∨ x = 35 ∨ x = 36 ∨ x = 37 ∨ x = 38 ∨ x = 39 ∨ x = 40 ∨ x = 47 ∨ x = 48) => h9.elim (fun e9 => (show x = 34 ∨ x = 35 ∨ x = 36 ∨ x = 37 ∨ x = 38 ∨ x = 39 ∨ x = 40 ∨ x = 47 ∨ x = 48 from Or.inl (e9))) (fun h9 => h9.elim (fun e9 => (show x = 34 ∨ x = 35 ∨ x = 36 ∨ x = 37 ∨ x = 38 ∨ x = 39 ∨ x = 40 ∨ x = 47 ∨ x = 48 from Or.inr (Or.inl (e9)))) (fun h9 => h9.elim (fun e9 => (show x = 34 ∨ x = 35 ∨ x = 36 ∨ x = 37 ∨ x = 38 ∨ x = 39 ∨ x = 40 ∨ x = 47 ∨ x = 48 from Or.inr (Or.inr (Or.inl (e9))))) (fun h9 => h9.elim (fun e9 => (show x = 34 ∨ x = 35 ∨ x = 36 ∨ x = 37 ∨ x = 38 ∨ x = 39 ∨ x = 40 ∨ x = 47 ∨ x = 48 from Or.inr (Or.inr (Or.inr (Or.inl (e9)))))) (fun h9 => h9.elim (fun e9 => (show x = 34 ∨ x = 35 ∨ x = 36 ∨ x = 37 ∨ x = 38 ∨ x = 39 ∨ x = 40 ∨ x = 47 ∨ x = 48 from Or.inr (Or.inr (Or.inr (Or.inr (Or.inl (e9))))))) (fun h9 => h9.elim (fun e9 => (show x = 34 ∨ x = 35 ∨ x = 36 ∨ x = 37 ∨ x = 38 ∨ x = 39 ∨ x = 40 ∨ x = 47 ∨ x = 48 from Or.inr (Or.inr (Or.inr (Or.inr (Or.inr (Or.inl (e9)))))))) (fun h9 => h9.elim (fun e9 => (show x = 34 ∨ x = 35 ∨ x = 36 ∨ x = 37 ∨ x = 38 ∨ x = 39 ∨ x = 40 ∨ x = 47 ∨ x = 48 from Or.inr (Or.inr (Or.inr (Or.inr (Or.inr (Or.inr (Or.inl (e9))))))))) (fun h9 => h9.elim (fun e9 => (show x = 34 ∨ x = 35 ∨ x = 36 ∨ x = 37 ∨ x = 38 ∨ x = 39 ∨ x = 40 ∨ x = 47 ∨ x = 48 from Or.inr (Or.inr (Or.inr (Or.inr (Or.inr (Or.inr (Or.inr (Or.inl (e9)))))))))) (fun h9 => (show x = 34 ∨ x = 35 ∨ x = 36 ∨ x = 37 ∨ x = 38 ∨ x = 39 ∨ x = 40 ∨ x = 47 ∨ x = 48 from Or.inr (Or.inr (Or.inr (Or.inr (Or.inr (Or.inr (Or.inr (Or.inr (h9)))))))))))))))))) (fun x k (h9 : (x = 33 ∧ k = 1) ∨ (x = 33 ∧ k = 3) ∨ (x = 33 ∧ k = 9) ∨ (x = 33 ∧ k = 10) ∨ (x = 33 ∧ k = 11)) => (show (x = 34 ∨ x = 35 ∨ x = 36 ∨ x = 37 ∨ x = 38 ∨ x = 39 ∨ x = 40 ∨ x = 47 ∨ x = 48) ∨ ((x = 33 ∧ k = 1) ∨ (x = 33 ∧ k = 3) ∨ (x = 33 ∧ k = 9) ∨ (x = 33 ∧ k = 10) ∨ (x = 33 ∧ k = 11)) from h9.elim (fun e9 => Or.inr (show (x = 33 ∧ k = 1) ∨ (x = 33 ∧ k = 3) ∨ (x = 33 ∧ k = 9) ∨ (x = 33 ∧ k = 10) ∨ (x = 33 ∧ k = 11) from Or.inl (e9))) (fun h9 => h9.elim (fun e9 => Or.inr (show (x = 33 ∧ k = 1) ∨ (x = 33 ∧ k = 3) ∨ (x = 33 ∧ k = 9) ∨ (x = 33 ∧ k = 10) ∨ (x = 33 ∧ k = 11) from Or.inr (Or.inl (e9)))) (fun h9 => h9.elim (fun e9 => Or.inr (show (x = 33 ∧ k = 1) ∨ (x = 33 ∧ k = 3) ∨ (x = 33 ∧ k = 9) ∨ (x = 33 ∧ k = 10) ∨ (x = 33 ∧ k = 11) from Or.inr (Or.inr (Or.inl (e9))))) (fun h9 => h9.elim (fun e9 => Or.inr (show (x = 33 ∧ k = 1) ∨ (x = 33 ∧ k = 3) ∨ (x = 33 ∧ k = 9) ∨ (x = 33 ∧ k = 10) ∨ (x = 33 ∧ k = 11) from Or.inr (Or.inr (Or.inr (Or.inl (e9)))))) (fun h9 => Or.inr (show (x = 33 ∧ k = 1) ∨ (x = 33 ∧ k = 3) ∨ (x = 33 ∧ k = 9) ∨ (x = 33 ∧ k = 10) ∨ (x = 33 ∧ k = 11) from Or.inr (Or.inr (Or.inr (Or.inr (h9)))))))))))
            have k_19 : (gi σ3 1 1).toInt = (gi σ 1 1).toInt := congrArg Int32.toInt (FX_i cσ3 (show ¬ (1 = 34 ∨ 1 = 35 ∨ 1 = 36 ∨ 1 = 37 ∨ 1 = 38 ∨ 1 = 39 ∨ 1 = 40 ∨ 1 = 47 ∨ 1 = 48) from by omega) (show ¬ ((1 = 33 ∧ 1 = 1) ∨ (1 = 33 ∧ 1 = 3) ∨ (1 = 33 ∧ 1 = 9) ∨ (1 = 33 ∧ 1 = 10) ∨ (1 = 33 ∧ 1 = 11)) from by omega))
            have k_20 : (gi σ3 1 9).toInt = (gi σ 1 9).toInt := congrArg Int32.toInt (FX_i cσ3 (show ¬ (1 = 34 ∨ 1 = 35 ∨ 1 = 36 ∨ 1 = 37 ∨ 1 = 38 ∨ 1 = 39 ∨ 1 = 40 ∨ 1 = 47 ∨ 1 = 48) from by omega) (show ¬ ((1 = 33 ∧ 9 = 1) ∨ (1 = 33 ∧ 9 = 3) ∨ (1 = 33 ∧ 9 = 9) ∨ (1 = 33 ∧ 9 = 10) ∨ (1 = 33 ∧ 9 = 11)) from by omega))
            refine ⟨?_, ?_⟩
            · intro q_21
              replace H := f_t q_21 H
              have w_22 := Int32.toInt_lt r4
              have w_23 := Int32.le_toInt r4
              have b_24 : (0 : Int) ≤ r4.toInt := Int32.le_iff_toInt_le.mp q_21
              refine ⟨?_, ?_⟩
              · intro q_25
                replace H := f_f q_25 H
                have w_26 := Int32.toInt_lt x2
                have w_27 := Int32.le_toInt x2
                have b_28 : ¬ x2.toInt = 0 := fun h9 => q_25 (Int32.toInt_inj.mp h9)
                refine kF_X11_totalBy  mσ3 nσ3_1 (by omega) (by omega) (by first | with_reducible assumption | with_reducible rfl | omega | assumption | rfl) (fun r8 σ7 mσ7 cσ7 nσ7_1 hσ7 => ?_)
                replace H := f_b hσ7 H
                have fσ7 : FX (fun id => id = 34 ∨ id = 35 ∨ id = 36 ∨ id = 37 ∨ id = 38 ∨ id = 39 ∨ id = 40 ∨ id = 47 ∨ id = 48) (fun id k => (id = 33 ∧ k = 1) ∨ (id = 33 ∧ k = 3) ∨ (id = 33 ∧ k = 9) ∨ (id = 33 ∧ k = 10) ∨ (id = 33 ∧ k = 11)) σ0 σ7 := FX_tr fσ3 cσ7 (fun x (h9 : x = 34 ∨ x = 35 ∨ x = 36 ∨ x = 37 ∨ x = 38 ∨ x = 39 ∨ x = 40 ∨ x = 47 ∨ x = 48) => h9.elim (fun e9 => (show x = 34 ∨ x = 35 ∨ x = 36 ∨ x = 37 ∨ x = 38 ∨ x = 39 ∨ x = 40 ∨ x = 47 ∨ x = 48 from Or.inl (e9))) (fun h9 => h9.elim (fun e9 => (show x = 34 ∨ x = 35 ∨ x = 36 ∨ x = 37 ∨ x = 38 ∨ x = 39 ∨ x = 40 ∨ x = 47 ∨ x = 48 from Or.inr (Or.inl (e9)))) (fun h9 => h9.elim (fun e9 => (show x = 34 ∨ x = 35 ∨ x = 36 ∨ x = 37 ∨ x = 38 ∨ x = 39 ∨ x = 40 ∨ x = 47 ∨ x = 48 from Or.inr (Or.inr (Or.inl (e9))))) (fun h9 => h9.elim (fun e9 => (show x = 34 ∨ x = 35 ∨ x = 36 ∨ x = 37 ∨ x = 38 ∨ x = 39 ∨ x = 40 ∨ x = 47 ∨ x = 48 from Or.inr (Or.inr (Or.inr (Or.inl (e9)))))) (fun h9 => h9.elim (fun e9 => (show x = 34 ∨ x = 35 ∨ x = 36 ∨ x = 37 ∨ x = 38 ∨ x = 39 ∨ x = 40 ∨ x = 47 ∨ x = 48 from Or.inr (Or.inr (Or.inr (Or.inr (Or.inl (e9))))))) (fun h9 => h9.elim (fun e9 => (show x = 34 ∨ x = 35 ∨ x = 36 ∨ x = 37 ∨ x = 38 ∨ x = 39 ∨ x = 40 ∨ x = 47 ∨ x = 48 from Or.inr (Or.inr (Or.inr (Or.inr (Or.inr (Or.inl (e9)))))))) (fun h9 => h9.elim (fun e9 => (show x = 34 ∨ x = 35 ∨ x = 36 ∨ x = 37 ∨ x = 38 ∨ x = 39 ∨ x = 40 ∨ x = 47 ∨ x = 48 from Or.inr (Or.inr (Or.inr (Or.inr (Or.inr (Or.inr (Or.inl (e9))))))))) (fun h9 => h9.elim (fun e9 => (show x = 34 ∨ x = 35 ∨ x = 36 ∨ x = 37 ∨ x = 38 ∨ x = 39 ∨ x = 40 ∨ x = 47 ∨ x = 48 from Or.inr (Or.inr (Or.inr (Or.inr (Or.inr (Or.inr (Or.inr (Or.inl (e9)))))))))) (fun h9 => (show x = 34 ∨ x = 35 ∨ x = 36 ∨ x = 37 ∨ x = 38 ∨ x = 39 ∨ x = 40 ∨ x = 47 ∨ x = 48 from Or.inr (Or.inr (Or.inr (Or.inr (Or.inr (Or.inr (Or.inr (Or.inr (h9)))))))))))))))))) (fun x k (h9 : (x = 33 ∧ k = 1) ∨ (x = 33 ∧ k = 3) ∨ (x = 33 ∧ k = 9) ∨ (x = 33 ∧ k = 10) ∨ (x = 33 ∧ k = 11)) => (show (x = 34 ∨ x = 35 ∨ x = 36 ∨ x = 37 ∨ x = 38 ∨ x = 39 ∨ x = 40 ∨ x = 47 ∨ x = 48) ∨ ((x = 33 ∧ k = 1) ∨ (x = 33 ∧ k = 3) ∨ (x = 33 ∧ k = 9) ∨ (x = 33 ∧ k = 10) ∨ (x = 33 ∧ k = 11)) from h9.elim (fun e9 => Or.inr (show (x = 33 ∧ k = 1) ∨ (x = 33 ∧ k = 3) ∨ (x = 33 ∧ k = 9) ∨ (x = 33 ∧ k = 10) ∨ (x = 33 ∧ k = 11) from Or.inl (e9))) (fun h9 => h9.elim (fun e9 => Or.inr (show (x = 33 ∧ k = 1) ∨ (x = 33 ∧ k = 3) ∨ (x = 33 ∧ k = 9) ∨ (x = 33 ∧ k = 10) ∨ (x = 33 ∧ k = 11) from Or.inr (Or.inl (e9)))) (fun h9 => h9.elim (fun e9 => Or.inr (show (x = 33 ∧ k = 1) ∨ (x = 33 ∧ k = 3) ∨ (x = 33 ∧ k = 9) ∨ (x = 33 ∧ k = 10) ∨ (x = 33 ∧ k = 11) from Or.inr (Or.inr (Or.inl (e9))))) (fun h9 => h9.elim (fun e9 => Or.inr (show (x = 33 ∧ k = 1) ∨ (x = 33 ∧ k = 3) ∨ (x = 33 ∧ k = 9) ∨ (x = 33 ∧ k = 10) ∨ (x = 33 ∧ k = 11) from Or.inr (Or.inr (Or.inr (Or.inl (e9)))))) (fun h9 => Or.inr (show (x = 33 ∧ k = 1) ∨ (x = 33 ∧ k = 3) ∨ (x = 33 ∧ k = 9) ∨ (x = 33 ∧ k = 10) ∨ (x = 33 ∧ k = 11) from Or.inr (Or.inr (Or.inr (Or.inr (h9)))))))))))
                have k_29 : (gi σ7 1 1).toInt = (gi σ3 1 1).toInt := congrArg Int32.toInt (FX_i cσ7 (show ¬ (1 = 34 ∨ 1 = 35 ∨ 1 = 36 ∨ 1 = 37 ∨ 1 = 38 ∨ 1 = 39 ∨ 1 = 40 ∨ 1 = 47 ∨ 1 = 48) from by omega) (show ¬ ((1 = 33 ∧ 1 = 1) ∨ (1 = 33 ∧ 1 = 3) ∨ (1 = 33 ∧ 1 = 9) ∨ (1 = 33 ∧ 1 = 10) ∨ (1 = 33 ∧ 1 = 11)) from by omega))
                have k_30 : (gi σ7 1 9).toInt = (gi σ3 1 9).toInt := congrArg Int32.toInt (FX_i cσ7 (show ¬ (1 = 34 ∨ 1 = 35 ∨ 1 = 36 ∨ 1 = 37 ∨ 1 = 38 ∨ 1 = 39 ∨ 1 = 40 ∨ 1 = 47 ∨ 1 = 48) from by omega) (show ¬ ((1 = 33 ∧ 9 = 1) ∨ (1 = 33 ∧ 9 = 3) ∨ (1 = 33 ∧ 9 = 9) ∨ (1 = 33 ∧ 9 = 10) ∨ (1 = 33 ∧ 9 = 11)) from by omega))
                exact h9ret r8 σ7 mσ7 fσ7 nσ7_1 (H0.trans H.symm)
              · intro q_25
                replace H := f_t q_25 H
                have w_31 := Int32.toInt_lt x2
                have w_32 := Int32.le_toInt x2
                have b_33 : x2.toInt = 0 := congrArg Int32.toInt q_25
                exact h9ret r4 σ3 mσ3 fσ3 nσ3_1 (H0.trans H.symm)
            · intro q_21
              replace H := f_f q_21 H
              have w_34 := Int32.toInt_lt r4
              have w_35 := Int32.le_toInt r4
              have b_36 : ¬ (0 : Int) ≤ r4.toInt := fun h9 => q_21 (Int32.le_iff_toInt_le.mpr h9)
              have z_37 : (-5 : Int32).toInt = -5 := rfl
              exact h9ret (-5 : Int32) σ3 mσ3 fσ3 nσ3_1 (H0.trans H.symm)
          · intro q_13
            replace H := f_f q_13 H
            have b_38 : ¬ x1.toInt ≤ 60 := fun h9 => q_13 (Int32.le_iff_toInt_le.mpr h9)
            have z_39 : (-2 : Int32).toInt = -2 := rfl
            exact h9ret (-2 : Int32) σ mσ fσ nσ_1 (H0.trans H.symm)
  have U11 := T 9
  have f0 : FX (fun id => id = 34 ∨ id = 35 ∨ id = 36 ∨ id = 37 ∨ id = 38 ∨ id = 39 ∨ id = 40 ∨ id = 47 ∨ id = 48) (fun id k => (id = 33 ∧ k = 1) ∨ (id = 33 ∧ k = 3) ∨ (id = 33 ∧ k = 9) ∨ (id = 33 ∧ k = 10) ∨ (id = 33 ∧ k = 11)) σ0 σ0 := FX_rf
  have t_40 := XI_c1 m0 (id := 1) (k := 1) (lim_C0_1 (Or.inl rfl))
  have t_41 := XI_c1 m0 (id := 1) (k := 9) (lim_C0_9 (Or.inl rfl))
  have H := H0
  unfold F_X11_rest at H
  refine s_X11_rest_0 C hN  ?_
  refine ⟨?_, ?_⟩
  · intro q_42
    replace H := f_t q_42 H
    have w_43 := Int32.toInt_lt a2
    have w_44 := Int32.le_toInt a2
    have b_45 : a2.toInt = 0 := congrArg Int32.toInt q_42
    have w_46 := Int32.toInt_lt a1
    have w_47 := Int32.le_toInt a1
    exact U11 a1 a2 σ0 m0 f0 nn_1 H (by omega)
  · intro q_42
    replace H := f_f q_42 H
    have w_48 := Int32.toInt_lt a2
    have w_49 := Int32.le_toInt a2
    have b_50 : ¬ a2.toInt = 0 := fun h9 => q_42 (Int32.toInt_inj.mp h9)
    refine ⟨?_, ?_⟩
    · intro q_51
      replace H := f_t q_51 H
      have b_52 : a2.toInt = 1 := congrArg Int32.toInt q_51
      have w_53 := Int32.toInt_lt a1
      have w_54 := Int32.le_toInt a1
      exact U11 a1 a2 σ0 m0 f0 nn_1 H (by omega)
    · intro q_51
      replace H := f_f q_51 H
      have b_55 : ¬ a2.toInt = 1 := fun h9 => q_51 (Int32.toInt_inj.mp h9)
      have z_56 : (-1 : Int32).toInt = -1 := rfl
      exact h9ret (-1 : Int32) σ0 m0 f0 nn_1 (H0.trans H.symm)
set_option maxRecDepth 100000 in
set_option maxHeartbeats 4000000 in
theorem kF_X11_paused {l : Launch} {V : Vx} {a1 : Int32} {a2 : Int32} {σ0 : Sg} {Qk : Int32 → Sg → Prop} (m0 : XI V σ0) (nn_1 : NN σ0 1) (pre0 : (gi σ0 1 9).toInt ≤ 9999) (h9ret : ∀ (r : Int32) (σ' : Sg), XI V σ' → FX (fun id => id = 34 ∨ id = 35 ∨ id = 36 ∨ id = 37 ∨ id = 38 ∨ id = 39 ∨ id = 40 ∨ id = 47 ∨ id = 48) (fun id k => (id = 33 ∧ k = 1) ∨ (id = 33 ∧ k = 3) ∨ (id = 33 ∧ k = 9) ∨ (id = 33 ∧ k = 10) ∨ (id = 33 ∧ k = 11)) σ0 σ' → (NN σ' 1) → (F_X11_paused a1 a2 σ0 = (r, σ')) → Qk r σ') : K_X11_paused l V a1 a2 σ0 Qk := by
  refine e_X11_paused (fun M hl hV hN C => ?_)
  subst hl
  subst hV
  obtain ⟨R9, H0⟩ : ∃ R9, F_X11_paused a1 a2 σ0 = R9 := ⟨_, rfl⟩
  have T : ∀ n : Nat, (∀ (x1 : Int32) (x2 : Int32) (σ : Sg), XI (mV M) σ → FX (fun id => id = 34 ∨ id = 35 ∨ id = 36 ∨ id = 37 ∨ id = 38 ∨ id = 39 ∨ id = 40 ∨ id = 47 ∨ id = 48) (fun id k => (id = 33 ∧ k = 1) ∨ (id = 33 ∧ k = 3) ∨ (id = 33 ∧ k = 9) ∨ (id = 33 ∧ k = 10) ∨ (id = 33 ∧ k = 11)) σ0 σ → NN σ 1 → (LF_X11_paused n x1 x2 σ = R9) → 1 < n → PS M 11 [(0, .ref 0), (1, .int x1), (2, .int x2)] [] σ (0, 0)) := by
    intro n
    induction n with
    | zero => exact fun _ _ _ _ _ _ _ h8 => absurd h8 (Nat.not_lt_zero _)
    | succ n ih =>
      have ih11 := ih
      · intro x1 x2 σ mσ fσ nσ_1 H hmu
        replace H : LB_X11_paused_11 (LF_X11_paused n) x1 x2 σ = R9 := H
        unfold LB_X11_paused_11 at H
        have k_1 : (gi σ 1 1).toInt = (gi σ0 1 1).toInt := congrArg Int32.toInt (FX_i fσ (show ¬ (1 = 34 ∨ 1 = 35 ∨ 1 = 36 ∨ 1 = 37 ∨ 1 = 38 ∨ 1 = 39 ∨ 1 = 40 ∨ 1 = 47 ∨ 1 = 48) from by omega) (show ¬ ((1 = 33 ∧ 1 = 1) ∨ (1 = 33 ∧ 1 = 3) ∨ (1 = 33 ∧ 1 = 9) ∨ (1 = 33 ∧ 1 = 10) ∨ (1 = 33 ∧ 1 = 11)) from by omega))
        have t_2 := XI_c1 mσ (id := 1) (k := 1) (lim_C0_1 (Or.inl rfl))
        have k_3 : (gi σ 1 9).toInt = (gi σ0 1 9).toInt := congrArg Int32.toInt (FX_i fσ (show ¬ (1 = 34 ∨ 1 = 35 ∨ 1 = 36 ∨ 1 = 37 ∨ 1 = 38 ∨ 1 = 39 ∨ 1 = 40 ∨ 1 = 47 ∨ 1 = 48) from by omega) (show ¬ ((1 = 33 ∧ 9 = 1) ∨ (1 = 33 ∧ 9 = 3) ∨ (1 = 33 ∧ 9 = 9) ∨ (1 = 33 ∧ 9 = 10) ∨ (1 = 33 ∧ 9 = 11)) from by omega))
        have t_4 := XI_c1 mσ (id := 1) (k := 9) (lim_C0_9 (Or.inl rfl))
        refine s_X11_paused_11 C hN  ?_
        refine ⟨?_, ?_⟩
        · intro q_5
          replace H := f_t q_5 H
          have w_6 := Int32.toInt_lt x1
          have w_7 := Int32.le_toInt x1
          have b_8 : x1.toInt < 1 := Int32.lt_iff_toInt_lt.mp q_5
          have z_9 : (-2 : Int32).toInt = -2 := rfl
          exact h9ret (-2 : Int32) σ mσ fσ nσ_1 (H0.trans H.symm)
        · intro q_5
          replace H := f_f q_5 H
          have w_10 := Int32.toInt_lt x1
          have w_11 := Int32.le_toInt x1
          have b_12 : ¬ x1.toInt < 1 := fun h9 => q_5 (Int32.lt_iff_toInt_lt.mpr h9)
          refine ⟨?_, ?_⟩
          · intro q_13
            replace H := f_t q_13 H
            have b_14 : x1.toInt ≤ 30 := Int32.le_iff_toInt_le.mp q_13
            have z_15 : (3 : Int32).toInt = 3 := rfl
            have z_16 : (0 : Int32).toInt = 0 := rfl
            refine kF_X11_mostBy  mσ nσ_1 (by omega) (by omega) (by omega) (by omega) (by omega) (by omega) (by first | with_reducible assumption | with_reducible rfl | omega | assumption | rfl) (fun r4 σ3 mσ3 cσ3 nσ3_1 hσ3 => ?_)
            replace H := f_b hσ3 H
            have fσ3 : FX (fun id => id = 34 ∨ id = 35 ∨ id = 36 ∨ id = 37 ∨ id = 38 ∨ id = 39 ∨ id = 40 ∨ id = 47 ∨ id = 48) (fun id k => (id = 33 ∧ k = 1) ∨ (id = 33 ∧ k = 3) ∨ (id = 33 ∧ k = 9) ∨ (id = 33 ∧ k = 10) ∨ (id = 33 ∧ k = 11)) σ0 σ3 := FX_tr fσ cσ3 (fun x (h9 : x = 34 ∨ x = 35 ∨ x = 36 ∨ x = 37 ∨ x = 38 ∨ x = 39 ∨ x = 40 ∨ x = 47 ∨ x = 48) => h9.elim (fun e9 => (show x = 34 ∨ x = 35 ∨ x = 36 ∨ x = 37 ∨ x = 38 ∨ x = 39 ∨ x = 40 ∨ x = 47 ∨ x = 48 from Or.inl (e9))) (fun h9 => h9.elim (fun e9 => (show x = 34 ∨ x = 35 ∨ x = 36 ∨ x = 37 ∨ x = 38 ∨ x = 39 ∨ x = 40 ∨ x = 47 ∨ x = 48 from Or.inr (Or.inl (e9)))) (fun h9 => h9.elim (fun e9 => (show x = 34 ∨ x = 35 ∨ x = 36 ∨ x = 37 ∨ x = 38 ∨ x = 39 ∨ x = 40 ∨ x = 47 ∨ x = 48 from Or.inr (Or.inr (Or.inl (e9))))) (fun h9 => h9.elim (fun e9 => (show x = 34 ∨ x = 35 ∨ x = 36 ∨ x = 37 ∨ x = 38 ∨ x = 39 ∨ x = 40 ∨ x = 47 ∨ x = 48 from Or.inr (Or.inr (Or.inr (Or.inl (e9)))))) (fun h9 => h9.elim (fun e9 => (show x = 34 ∨ x = 35 ∨ x = 36 ∨ x = 37 ∨ x = 38 ∨ x = 39 ∨ x = 40 ∨ x = 47 ∨ x = 48 from Or.inr (Or.inr (Or.inr (Or.inr (Or.inl (e9))))))) (fun h9 => h9.elim (fun e9 => (show x = 34 ∨ x = 35 ∨ x = 36 ∨ x = 37 ∨ x = 38 ∨ x = 39 ∨ x = 40 ∨ x = 47 ∨ x = 48 from Or.inr (Or.inr (Or.inr (Or.inr (Or.inr (Or.inl (e9)))))))) (fun h9 => h9.elim (fun e9 => (show x = 34 ∨ x = 35 ∨ x = 36 ∨ x = 37 ∨ x = 38 ∨ x = 39 ∨ x = 40 ∨ x = 47 ∨ x = 48 from Or.inr (Or.inr (Or.inr (Or.inr (Or.inr (Or.inr (Or.inl (e9))))))))) (fun h9 => h9.elim (fun e9 => (show x = 34 ∨ x = 35 ∨ x = 36 ∨ x = 37 ∨ x = 38 ∨ x = 39 ∨ x = 40 ∨ x = 47 ∨ x = 48 from Or.inr (Or.inr (Or.inr (Or.inr (Or.inr (Or.inr (Or.inr (Or.inl (e9)))))))))) (fun h9 => (show x = 34 ∨ x = 35 ∨ x = 36 ∨ x = 37 ∨ x = 38 ∨ x = 39 ∨ x = 40 ∨ x = 47 ∨ x = 48 from Or.inr (Or.inr (Or.inr (Or.inr (Or.inr (Or.inr (Or.inr (Or.inr (h9)))))))))))))))))) (fun x k (h9 : (x = 33 ∧ k = 1) ∨ (x = 33 ∧ k = 3) ∨ (x = 33 ∧ k = 9) ∨ (x = 33 ∧ k = 10) ∨ (x = 33 ∧ k = 11)) => (show (x = 34 ∨ x = 35 ∨ x = 36 ∨ x = 37 ∨ x = 38 ∨ x = 39 ∨ x = 40 ∨ x = 47 ∨ x = 48) ∨ ((x = 33 ∧ k = 1) ∨ (x = 33 ∧ k = 3) ∨ (x = 33 ∧ k = 9) ∨ (x = 33 ∧ k = 10) ∨ (x = 33 ∧ k = 11)) from h9.elim (fun e9 => Or.inr (show (x = 33 ∧ k = 1) ∨ (x = 33 ∧ k = 3) ∨ (x = 33 ∧ k = 9) ∨ (x = 33 ∧ k = 10) ∨ (x = 33 ∧ k = 11) from Or.inl (e9))) (fun h9 => h9.elim (fun e9 => Or.inr (show (x = 33 ∧ k = 1) ∨ (x = 33 ∧ k = 3) ∨ (x = 33 ∧ k = 9) ∨ (x = 33 ∧ k = 10) ∨ (x = 33 ∧ k = 11) from Or.inr (Or.inl (e9)))) (fun h9 => h9.elim (fun e9 => Or.inr (show (x = 33 ∧ k = 1) ∨ (x = 33 ∧ k = 3) ∨ (x = 33 ∧ k = 9) ∨ (x = 33 ∧ k = 10) ∨ (x = 33 ∧ k = 11) from Or.inr (Or.inr (Or.inl (e9))))) (fun h9 => h9.elim (fun e9 => Or.inr (show (x = 33 ∧ k = 1) ∨ (x = 33 ∧ k = 3) ∨ (x = 33 ∧ k = 9) ∨ (x = 33 ∧ k = 10) ∨ (x = 33 ∧ k = 11) from Or.inr (Or.inr (Or.inr (Or.inl (e9)))))) (fun h9 => Or.inr (show (x = 33 ∧ k = 1) ∨ (x = 33 ∧ k = 3) ∨ (x = 33 ∧ k = 9) ∨ (x = 33 ∧ k = 10) ∨ (x = 33 ∧ k = 11) from Or.inr (Or.inr (Or.inr (Or.inr (h9)))))))))))
            have k_17 : (gi σ3 1 1).toInt = (gi σ 1 1).toInt := congrArg Int32.toInt (FX_i cσ3 (show ¬ (1 = 34 ∨ 1 = 35 ∨ 1 = 36 ∨ 1 = 37 ∨ 1 = 38 ∨ 1 = 39 ∨ 1 = 40 ∨ 1 = 47 ∨ 1 = 48) from by omega) (show ¬ ((1 = 33 ∧ 1 = 1) ∨ (1 = 33 ∧ 1 = 3) ∨ (1 = 33 ∧ 1 = 9) ∨ (1 = 33 ∧ 1 = 10) ∨ (1 = 33 ∧ 1 = 11)) from by omega))
            have k_18 : (gi σ3 1 9).toInt = (gi σ 1 9).toInt := congrArg Int32.toInt (FX_i cσ3 (show ¬ (1 = 34 ∨ 1 = 35 ∨ 1 = 36 ∨ 1 = 37 ∨ 1 = 38 ∨ 1 = 39 ∨ 1 = 40 ∨ 1 = 47 ∨ 1 = 48) from by omega) (show ¬ ((1 = 33 ∧ 9 = 1) ∨ (1 = 33 ∧ 9 = 3) ∨ (1 = 33 ∧ 9 = 9) ∨ (1 = 33 ∧ 9 = 10) ∨ (1 = 33 ∧ 9 = 11)) from by omega))
            exact h9ret r4 σ3 mσ3 fσ3 nσ3_1 (H0.trans H.symm)
          · intro q_13
            replace H := f_f q_13 H
            have b_19 : ¬ x1.toInt ≤ 30 := fun h9 => q_13 (Int32.le_iff_toInt_le.mpr h9)
            have z_20 : (-2 : Int32).toInt = -2 := rfl
            exact h9ret (-2 : Int32) σ mσ fσ nσ_1 (H0.trans H.symm)
  have U11 := T 9
  have f0 : FX (fun id => id = 34 ∨ id = 35 ∨ id = 36 ∨ id = 37 ∨ id = 38 ∨ id = 39 ∨ id = 40 ∨ id = 47 ∨ id = 48) (fun id k => (id = 33 ∧ k = 1) ∨ (id = 33 ∧ k = 3) ∨ (id = 33 ∧ k = 9) ∨ (id = 33 ∧ k = 10) ∨ (id = 33 ∧ k = 11)) σ0 σ0 := FX_rf
  have t_21 := XI_c1 m0 (id := 1) (k := 1) (lim_C0_1 (Or.inl rfl))
  have t_22 := XI_c1 m0 (id := 1) (k := 9) (lim_C0_9 (Or.inl rfl))
  have H := H0
  unfold F_X11_paused at H
  refine s_X11_paused_0 C hN  ?_
  refine ⟨?_, ?_⟩
  · intro q_23
    replace H := f_t q_23 H
    have w_24 := Int32.toInt_lt a2
    have w_25 := Int32.le_toInt a2
    have b_26 : a2.toInt = 0 := congrArg Int32.toInt q_23
    have w_27 := Int32.toInt_lt a1
    have w_28 := Int32.le_toInt a1
    exact U11 a1 a2 σ0 m0 f0 nn_1 H (by omega)
  · intro q_23
    replace H := f_f q_23 H
    have w_29 := Int32.toInt_lt a2
    have w_30 := Int32.le_toInt a2
    have b_31 : ¬ a2.toInt = 0 := fun h9 => q_23 (Int32.toInt_inj.mp h9)
    refine ⟨?_, ?_⟩
    · intro q_32
      replace H := f_t q_32 H
      have b_33 : a2.toInt = 1 := congrArg Int32.toInt q_32
      have w_34 := Int32.toInt_lt a1
      have w_35 := Int32.le_toInt a1
      exact U11 a1 a2 σ0 m0 f0 nn_1 H (by omega)
    · intro q_32
      replace H := f_f q_32 H
      have b_36 : ¬ a2.toInt = 1 := fun h9 => q_32 (Int32.toInt_inj.mp h9)
      have z_37 : (-1 : Int32).toInt = -1 := rfl
      exact h9ret (-1 : Int32) σ0 m0 f0 nn_1 (H0.trans H.symm)
set_option maxRecDepth 100000 in
set_option maxHeartbeats 4000000 in
theorem kF_X11_swapsTried {l : Launch} {V : Vx} {a1 : Int32} {a2 : Int32} {σ0 : Sg} {Qk : Sg → Prop} (m0 : XI V σ0) (l_a1 : 0 ≤ a1.toInt) (u_a1 : a1.toInt ≤ 4) (l_a2 : 0 ≤ a2.toInt) (u_a2 : a2.toInt ≤ 4) (h9ret : ∀ (σ' : Sg), XI V σ' → FX (fun id => id = 66) (fun _ _ => False) σ0 σ' → (∀ n : Int, TR σ0 n → a1.toInt < n → a2.toInt < n → TR σ' n) → (F_X11_swapsTried a1 a2 σ0 = σ') → Qk σ') : K_X11_swapsTried l V a1 a2 σ0 Qk := by
  refine e_X11_swapsTried (fun M hl hV hN C => ?_)
  subst hl
  subst hV
  obtain ⟨R9, H0⟩ : ∃ R9, F_X11_swapsTried a1 a2 σ0 = R9 := ⟨_, rfl⟩
  have f0 : FX (fun id => id = 66) (fun _ _ => False) σ0 σ0 := FX_rf
  have e19 := cl_eq (x := a1) (by omega)
  have e29 := cl_eq (x := a2) (by omega)
  have H := H0
  unfold F_X11_swapsTried at H
  refine s_X11_swapsTried_0 C hN  ?_
  have hv_1 : vp_in a1 5 := vp_in_iff.mpr ⟨by omega, by omega⟩
  refine ⟨hv_1, ?_⟩
  intro v2 ev2
  replace H := f_l ev2 H
  have t_2 := XI_c1 m0 (id := 66) (k := a1.toNatClampNeg) (rfl)
  have t_3 : v2.toInt = (gi σ0 66 a1.toNatClampNeg).toInt := congrArg Int32.toInt ev2
  have hv_4 : vp_in a2 5 := vp_in_iff.mpr ⟨by omega, by omega⟩
  refine ⟨hv_4, ?_⟩
  refine ⟨hv_1, ?_⟩
  intro σ5 eσ5
  replace H := f_l eσ5 H
  have t_5 := XI_c1 m0 (id := 66) (k := a2.toNatClampNeg) (rfl)
  have mσ5 : XI (mV M) σ5 := by rw [eσ5]; exact XIs_b m0 (rfl) (by omega) (by omega)
  have fσ5 : FX (fun id => id = 66) (fun _ _ => False) σ0 σ5 := by rw [eσ5]; exact FX_si f0 (Or.inl (show 66 = 66 from rfl))
  refine ⟨hv_4, ?_⟩
  intro σ7 eσ7
  replace H := f_l eσ7 H
  have mσ7 : XI (mV M) σ7 := by rw [eσ7]; exact XIs_b mσ5 (rfl) (by omega) (by omega)
  have fσ7 : FX (fun id => id = 66) (fun _ _ => False) σ0 σ7 := by rw [eσ7]; exact FX_si fσ5 (Or.inl (show 66 = 66 from rfl))
  exact h9ret σ7 mσ7 fσ7 (by intro n h h1 h2; rw [eσ7, eσ5]; exact TR_si (TR_si h (h _ (by omega))) (by rw [ev2]; exact h _ (by omega))) (H0.trans H.symm)
set_option maxRecDepth 100000 in
set_option maxHeartbeats 4000000 in
theorem kF_X11_triesNextOrder {l : Launch} {V : Vx} {a1 : Int32} {σ0 : Sg} {Qk : Int32 → Sg → Prop} (m0 : XI V σ0) (l_a1 : 0 ≤ a1.toInt) (u_a1 : a1.toInt ≤ 5) (pre0 : TR σ0 a1.toInt) (h9ret : ∀ (r : Int32) (σ' : Sg), XI V σ' → FX (fun id => id = 66) (fun _ _ => False) σ0 σ' → (0 ≤ r.toInt) → (r.toInt ≤ 1) → (TR σ' a1.toInt) → (F_X11_triesNextOrder a1 σ0 = (r, σ')) → Qk r σ') : K_X11_triesNextOrder l V a1 σ0 Qk := by
  refine e_X11_triesNextOrder (fun M hl hV hN C => ?_)
  subst hl
  subst hV
  obtain ⟨R9, H0⟩ : ∃ R9, F_X11_triesNextOrder a1 σ0 = R9 := ⟨_, rfl⟩
  have T : ∀ n : Nat, (∀ (x1 : Int32) (x2 : Int32) (σ : Sg), XI (mV M) σ → FX (fun id => id = 66) (fun _ _ => False) σ0 σ → (0 ≤ x1.toInt) → (x1.toInt ≤ 5) → (-2 ≤ x2.toInt) → (x2.toInt ≤ 3) → (x1.toInt = a1.toInt) → (x2.toInt ≤ x1.toInt - 2) → (TR σ a1.toInt) → (LF_X11_triesNextOrder n 0 x1 x2 0 0 0 σ = R9) → (x2.toInt + 3).toNat + 300 < n → PS M 4 [(0, .ref 0), (1, .int x1), (2, .int x2)] [] σ (0, 0)) ∧ (∀ (x1 : Int32) (x2 : Int32) (x3 : Int32) (σ : Sg), XI (mV M) σ → FX (fun id => id = 66) (fun _ _ => False) σ0 σ → (0 ≤ x1.toInt) → (x1.toInt ≤ 5) → (0 ≤ x2.toInt) → (x2.toInt ≤ 3) → (0 ≤ x3.toInt) → (x3.toInt ≤ 4) → (x1.toInt = a1.toInt) → (x2.toInt ≤ x1.toInt - 2) → (x2.toInt ≤ x3.toInt) → (x3.toInt ≤ x1.toInt - 1) → (TR σ a1.toInt) → (LF_X11_triesNextOrder n 1 x1 x2 x3 0 0 σ = R9) → x3.toInt.toNat + 200 < n → PS M 41 [(0, .ref 0), (1, .int x1), (2, .int x2), (3, .int x3)] [] σ (0, 0)) ∧ (∀ (x1 : Int32) (x2 : Int32) (x3 : Int32) (σ : Sg), XI (mV M) σ → FX (fun id => id = 66) (fun _ _ => False) σ0 σ → (0 ≤ x1.toInt) → (x1.toInt ≤ 5) → (0 ≤ x2.toInt) → (x2.toInt ≤ 3) → (0 ≤ x3.toInt) → (x3.toInt ≤ 4) → (x1.toInt = a1.toInt) → (x2.toInt ≤ x1.toInt - 2) → (x3.toInt ≤ x1.toInt - 1) → (TR σ a1.toInt) → (LF_X11_triesNextOrder n 2 x1 x2 x3 0 0 σ = R9) → 100 < n → PS M 67 [(0, .ref 0), (1, .int x1), (2, .int x2), (3, .int x3)] [] σ (0, 0)) ∧ (∀ (x4 : Int32) (x5 : Int32) (σ : Sg), XI (mV M) σ → FX (fun id => id = 66) (fun _ _ => False) σ0 σ → (0 ≤ x4.toInt) → (x4.toInt ≤ 9) → (-1 ≤ x5.toInt) → (x5.toInt ≤ 4) → (x5.toInt < a1.toInt) → (TR σ a1.toInt) → (LF_X11_triesNextOrder n 3 0 0 0 x4 x5 σ = R9) → (x5.toInt + 3).toNat < n → PS M 83 [(0, .ref 0), (4, .int x4), (5, .int x5)] [] σ (0, 0)) := by
    intro n
    induction n with
    | zero => exact ⟨fun _ _ _ _ _ _ _ _ _ _ _ _ _ h8 => absurd h8 (Nat.not_lt_zero _), fun _ _ _ _ _ _ _ _ _ _ _ _ _ _ _ _ _ _ h8 => absurd h8 (Nat.not_lt_zero _), fun _ _ _ _ _ _ _ _ _ _ _ _ _ _ _ _ _ h8 => absurd h8 (Nat.not_lt_zero _), fun _ _ _ _ _ _ _ _ _ _ _ _ h8 => absurd h8 (Nat.not_lt_zero _)⟩
    | succ n ih =>
      obtain ⟨ih4, ih41, ih67, ih83⟩ := ih
      refine ⟨?_, ?_, ?_, ?_⟩
      · intro x1 x2 σ mσ fσ lx1 ux1 lx2 ux2 i0 i1 i2 H hmu
        replace H : LB_X11_triesNextOrder_4 (LF_X11_triesNextOrder n) x1 x2 σ = R9 := H
        unfold LB_X11_triesNextOrder_4 at H
        refine s_X11_triesNextOrder_4 C hN  ?_
        refine ⟨?_, ?_⟩
        · intro q_1
          replace H := f_t q_1 H
          have b_2 : x2.toInt < 0 := Int32.lt_iff_toInt_lt.mp q_1
          refine ⟨?_, ?_⟩
          · intro q_3
            replace H := f_t q_3 H
            have b_4 : (0 : Int) ≤ x2.toInt := Int32.le_iff_toInt_le.mp q_3
            intro v3 ev3
            replace H := f_l ev3 H
            have t_5 : (x1 - (1 : Int32)).toInt = x1.toInt - 1 := i_sub (x := x1) (y := (1 : Int32)) (by show (_ : Int) ≤ x1.toInt - 1; omega) (by show x1.toInt - 1 ≤ (_ : Int); omega)
            have t_6 : v3.toInt = (x1 - (1 : Int32)).toInt := congrArg Int32.toInt ev3
            exact ih41 x1 x2 v3 σ mσ fσ (by omega) (by omega) (by omega) (by omega) (by omega) (by omega) (by first | with_reducible assumption | with_reducible rfl | omega | assumption | rfl) (by first | with_reducible assumption | with_reducible rfl | omega | assumption | rfl) (by first | with_reducible assumption | with_reducible rfl | omega | assumption | rfl) (by first | with_reducible assumption | with_reducible rfl | omega | assumption | rfl) (by first | with_reducible assumption | with_reducible rfl | omega | assumption | rfl) H (by omega)
          · intro q_3
            replace H := f_f q_3 H
            have b_7 : ¬ (0 : Int) ≤ x2.toInt := fun h9 => q_3 (Int32.le_iff_toInt_le.mpr h9)
            have z_8 : (0 : Int32).toInt = 0 := rfl
            exact h9ret (0 : Int32) σ mσ fσ (by omega) (by omega) (by first | with_reducible assumption | with_reducible rfl | omega | assumption | rfl) (H0.trans H.symm)
        · intro q_1
          replace H := f_f q_1 H
          have b_9 : ¬ x2.toInt < 0 := fun h9 => q_1 (Int32.lt_iff_toInt_lt.mpr h9)
          have hv_10 : vp_in x2 5 := vp_in_iff.mpr ⟨by omega, by omega⟩
          refine ⟨hv_10, ?_⟩
          have t_11 : (x2 + (1 : Int32)).toInt = x2.toInt + 1 := i_add (x := x2) (y := (1 : Int32)) (by show (_ : Int) ≤ x2.toInt + 1; omega) (by show x2.toInt + 1 ≤ (_ : Int); omega)
          have hv_12 : vp_in (x2 + (1 : Int32)) 5 := vp_in_iff.mpr ⟨by omega, by omega⟩
          refine ⟨hv_12, ?_⟩
          refine ⟨?_, ?_⟩
          · intro q_13
            replace H := f_t q_13 H
            have t_14 := XI_c1 mσ (id := 66) (k := x2.toNatClampNeg) (rfl)
            have t_15 := XI_c1 mσ (id := 66) (k := (x2 + (1 : Int32)).toNatClampNeg) (rfl)
            have b_16 : (gi σ 66 x2.toNatClampNeg).toInt ≤ (gi σ 66 (x2 + (1 : Int32)).toNatClampNeg).toInt := Int32.le_iff_toInt_le.mp q_13
            refine ⟨?_, ?_⟩
            · intro q_17
              replace H := f_t q_17 H
              have b_18 : (0 : Int) ≤ x2.toInt := Int32.le_iff_toInt_le.mp q_17
              intro v8 ev8
              replace H := f_l ev8 H
              have t_19 : (x1 - (1 : Int32)).toInt = x1.toInt - 1 := i_sub (x := x1) (y := (1 : Int32)) (by show (_ : Int) ≤ x1.toInt - 1; omega) (by show x1.toInt - 1 ≤ (_ : Int); omega)
              have t_20 : v8.toInt = (x1 - (1 : Int32)).toInt := congrArg Int32.toInt ev8
              exact ih41 x1 x2 v8 σ mσ fσ (by omega) (by omega) (by omega) (by omega) (by omega) (by omega) (by first | with_reducible assumption | with_reducible rfl | omega | assumption | rfl) (by first | with_reducible assumption | with_reducible rfl | omega | assumption | rfl) (by first | with_reducible assumption | with_reducible rfl | omega | assumption | rfl) (by first | with_reducible assumption | with_reducible rfl | omega | assumption | rfl) (by first | with_reducible assumption | with_reducible rfl | omega | assumption | rfl) H (by omega)
            · intro q_17
              replace H := f_f q_17 H
              have b_21 : ¬ (0 : Int) ≤ x2.toInt := fun h9 => q_17 (Int32.le_iff_toInt_le.mpr h9)
              have z_22 : (0 : Int32).toInt = 0 := rfl
              exact h9ret (0 : Int32) σ mσ fσ (by omega) (by omega) (by first | with_reducible assumption | with_reducible rfl | omega | assumption | rfl) (H0.trans H.symm)
          · intro q_13
            replace H := f_f q_13 H
            have t_23 := XI_c1 mσ (id := 66) (k := x2.toNatClampNeg) (rfl)
            have t_24 := XI_c1 mσ (id := 66) (k := (x2 + (1 : Int32)).toNatClampNeg) (rfl)
            have b_25 : ¬ (gi σ 66 x2.toNatClampNeg).toInt ≤ (gi σ 66 (x2 + (1 : Int32)).toNatClampNeg).toInt := fun h9 => q_13 (Int32.le_iff_toInt_le.mpr h9)
            intro v9 ev9
            replace H := f_l ev9 H
            have t_26 : (x2 - (1 : Int32)).toInt = x2.toInt - 1 := i_sub (x := x2) (y := (1 : Int32)) (by show (_ : Int) ≤ x2.toInt - 1; omega) (by show x2.toInt - 1 ≤ (_ : Int); omega)
            have t_27 : v9.toInt = (x2 - (1 : Int32)).toInt := congrArg Int32.toInt ev9
            exact ih4 x1 v9 σ mσ fσ (by omega) (by omega) (by omega) (by omega) (by first | with_reducible assumption | with_reducible rfl | omega | assumption | rfl) (by first | with_reducible assumption | with_reducible rfl | omega | assumption | rfl) (by first | with_reducible assumption | with_reducible rfl | omega | assumption | rfl) H (by omega)
      · intro x1 x2 x3 σ mσ fσ lx1 ux1 lx2 ux2 lx3 ux3 i0 i1 i2 i3 i4 H hmu
        replace H : LB_X11_triesNextOrder_41 (LF_X11_triesNextOrder n) x1 x2 x3 σ = R9 := H
        unfold LB_X11_triesNextOrder_41 at H
        refine s_X11_triesNextOrder_41 C hN  ?_
        refine ⟨?_, ?_⟩
        · intro q_28
          replace H := f_t q_28 H
          have b_29 : x3.toInt ≤ x2.toInt := Int32.le_iff_toInt_le.mp q_28
          exact ih67 x1 x2 x3 σ mσ fσ (by omega) (by omega) (by omega) (by omega) (by omega) (by omega) (by first | with_reducible assumption | with_reducible rfl | omega | assumption | rfl) (by first | with_reducible assumption | with_reducible rfl | omega | assumption | rfl) (by first | with_reducible assumption | with_reducible rfl | omega | assumption | rfl) (by first | with_reducible assumption | with_reducible rfl | omega | assumption | rfl) H (by omega)
        · intro q_28
          replace H := f_f q_28 H
          have b_30 : ¬ x3.toInt ≤ x2.toInt := fun h9 => q_28 (Int32.le_iff_toInt_le.mpr h9)
          have hv_31 : vp_in x3 5 := vp_in_iff.mpr ⟨by omega, by omega⟩
          refine ⟨hv_31, ?_⟩
          have hv_32 : vp_in x2 5 := vp_in_iff.mpr ⟨by omega, by omega⟩
          refine ⟨hv_32, ?_⟩
          refine ⟨?_, ?_⟩
          · intro q_33
            replace H := f_t q_33 H
            have t_34 := XI_c1 mσ (id := 66) (k := x2.toNatClampNeg) (rfl)
            have t_35 := XI_c1 mσ (id := 66) (k := x3.toNatClampNeg) (rfl)
            have b_36 : (gi σ 66 x2.toNatClampNeg).toInt ≤ (gi σ 66 x3.toNatClampNeg).toInt := Int32.le_iff_toInt_le.mp q_33
            exact ih67 x1 x2 x3 σ mσ fσ (by omega) (by omega) (by omega) (by omega) (by omega) (by omega) (by first | with_reducible assumption | with_reducible rfl | omega | assumption | rfl) (by first | with_reducible assumption | with_reducible rfl | omega | assumption | rfl) (by first | with_reducible assumption | with_reducible rfl | omega | assumption | rfl) (by first | with_reducible assumption | with_reducible rfl | omega | assumption | rfl) H (by omega)
          · intro q_33
            replace H := f_f q_33 H
            have t_37 := XI_c1 mσ (id := 66) (k := x2.toNatClampNeg) (rfl)
            have t_38 := XI_c1 mσ (id := 66) (k := x3.toNatClampNeg) (rfl)
            have b_39 : ¬ (gi σ 66 x2.toNatClampNeg).toInt ≤ (gi σ 66 x3.toNatClampNeg).toInt := fun h9 => q_33 (Int32.le_iff_toInt_le.mpr h9)
            intro v5 ev5
            replace H := f_l ev5 H
            have t_40 : (x3 - (1 : Int32)).toInt = x3.toInt - 1 := i_sub (x := x3) (y := (1 : Int32)) (by show (_ : Int) ≤ x3.toInt - 1; omega) (by show x3.toInt - 1 ≤ (_ : Int); omega)
            have t_41 : v5.toInt = (x3 - (1 : Int32)).toInt := congrArg Int32.toInt ev5
            exact ih41 x1 x2 v5 σ mσ fσ (by omega) (by omega) (by omega) (by omega) (by omega) (by omega) (by first | with_reducible assumption | with_reducible rfl | omega | assumption | rfl) (by first | with_reducible assumption | with_reducible rfl | omega | assumption | rfl) (by first | with_reducible assumption | with_reducible rfl | omega | assumption | rfl) (by first | with_reducible assumption | with_reducible rfl | omega | assumption | rfl) (by first | with_reducible assumption | with_reducible rfl | omega | assumption | rfl) H (by omega)
      · intro x1 x2 x3 σ mσ fσ lx1 ux1 lx2 ux2 lx3 ux3 i0 i1 i2 i3 H hmu
        replace H : LB_X11_triesNextOrder_67 (LF_X11_triesNextOrder n) x1 x2 x3 σ = R9 := H
        unfold LB_X11_triesNextOrder_67 at H
        refine s_X11_triesNextOrder_67 C hN  ?_
        refine kF_X11_swapsTried  mσ  (by omega) (by omega) (by omega) (by omega) (fun σ1 mσ1 cσ1 (pσ1_0 : ∀ n : Int, TR σ n → x2.toInt < n → x3.toInt < n → TR σ1 n) hσ1 => ?_)
        replace H := f_v hσ1 H
        have fσ1 : FX (fun id => id = 66) (fun _ _ => False) σ0 σ1 := FX_tr fσ cσ1 (fun x (h9 : x = 66) => (show x = 66 from h9)) (fun _ _ h9 => h9.elim)
        have tR9 := pσ1_0 a1.toInt (by first | with_reducible assumption | assumption) (by omega) (by omega)
        intro v2 ev2
        replace H := f_l ev2 H
        have t_42 : (x2 + (1 : Int32)).toInt = x2.toInt + 1 := i_add (x := x2) (y := (1 : Int32)) (by show (_ : Int) ≤ x2.toInt + 1; omega) (by show x2.toInt + 1 ≤ (_ : Int); omega)
        have t_43 : v2.toInt = (x2 + (1 : Int32)).toInt := congrArg Int32.toInt ev2
        intro v3 ev3
        replace H := f_l ev3 H
        have t_44 : (x1 - (1 : Int32)).toInt = x1.toInt - 1 := i_sub (x := x1) (y := (1 : Int32)) (by show (_ : Int) ≤ x1.toInt - 1; omega) (by show x1.toInt - 1 ≤ (_ : Int); omega)
        have t_45 : v3.toInt = (x1 - (1 : Int32)).toInt := congrArg Int32.toInt ev3
        exact ih83 v2 v3 σ1 mσ1 fσ1 (by omega) (by omega) (by omega) (by omega) (by first | with_reducible assumption | with_reducible rfl | omega | assumption | rfl) (by first | with_reducible assumption | with_reducible rfl | omega | assumption | rfl) H (by omega)
      · intro x4 x5 σ mσ fσ lx4 ux4 lx5 ux5 i0 i1 H hmu
        replace H : LB_X11_triesNextOrder_83 (LF_X11_triesNextOrder n) x4 x5 σ = R9 := H
        unfold LB_X11_triesNextOrder_83 at H
        refine s_X11_triesNextOrder_83 C hN  ?_
        refine ⟨?_, ?_⟩
        · intro q_46
          replace H := f_t q_46 H
          have b_47 : x5.toInt ≤ x4.toInt := Int32.le_iff_toInt_le.mp q_46
          have z_48 : (1 : Int32).toInt = 1 := rfl
          exact h9ret (1 : Int32) σ mσ fσ (by omega) (by omega) (by first | with_reducible assumption | with_reducible rfl | omega | assumption | rfl) (H0.trans H.symm)
        · intro q_46
          replace H := f_f q_46 H
          have b_49 : ¬ x5.toInt ≤ x4.toInt := fun h9 => q_46 (Int32.le_iff_toInt_le.mpr h9)
          refine kF_X11_swapsTried  mσ  (by omega) (by omega) (by omega) (by omega) (fun σ2 mσ2 cσ2 (pσ2_0 : ∀ n : Int, TR σ n → x4.toInt < n → x5.toInt < n → TR σ2 n) hσ2 => ?_)
          replace H := f_v hσ2 H
          have fσ2 : FX (fun id => id = 66) (fun _ _ => False) σ0 σ2 := FX_tr fσ cσ2 (fun x (h9 : x = 66) => (show x = 66 from h9)) (fun _ _ h9 => h9.elim)
          have tR9 := pσ2_0 a1.toInt (by first | with_reducible assumption | assumption) (by omega) (by omega)
          intro v3 ev3
          replace H := f_l ev3 H
          have t_50 : (x4 + (1 : Int32)).toInt = x4.toInt + 1 := i_add (x := x4) (y := (1 : Int32)) (by show (_ : Int) ≤ x4.toInt + 1; omega) (by show x4.toInt + 1 ≤ (_ : Int); omega)
          have t_51 : v3.toInt = (x4 + (1 : Int32)).toInt := congrArg Int32.toInt ev3
          intro v4 ev4
          replace H := f_l ev4 H
          have t_52 : (x5 - (1 : Int32)).toInt = x5.toInt - 1 := i_sub (x := x5) (y := (1 : Int32)) (by show (_ : Int) ≤ x5.toInt - 1; omega) (by show x5.toInt - 1 ≤ (_ : Int); omega)
          have t_53 : v4.toInt = (x5 - (1 : Int32)).toInt := congrArg Int32.toInt ev4
          exact ih83 v3 v4 σ2 mσ2 fσ2 (by omega) (by omega) (by omega) (by omega) (by first | with_reducible assumption | with_reducible rfl | omega | assumption | rfl) (by first | with_reducible assumption | with_reducible rfl | omega | assumption | rfl) H (by omega)
  obtain ⟨U4, U41, U67, U83⟩ := T 900
  have f0 : FX (fun id => id = 66) (fun _ _ => False) σ0 σ0 := FX_rf
  have H := H0
  unfold F_X11_triesNextOrder at H
  refine s_X11_triesNextOrder_0 C hN  ?_
  intro v1 ev1
  replace H := f_l ev1 H
  have t_54 : (a1 - (2 : Int32)).toInt = a1.toInt - 2 := i_sub (x := a1) (y := (2 : Int32)) (by show (_ : Int) ≤ a1.toInt - 2; omega) (by show a1.toInt - 2 ≤ (_ : Int); omega)
  have t_55 : v1.toInt = (a1 - (2 : Int32)).toInt := congrArg Int32.toInt ev1
  exact U4 a1 v1 σ0 m0 f0 (by omega) (by omega) (by omega) (by omega) (by first | with_reducible assumption | with_reducible rfl | omega | assumption | rfl) (by first | with_reducible assumption | with_reducible rfl | omega | assumption | rfl) (by first | with_reducible assumption | with_reducible rfl | omega | assumption | rfl) H (by omega)
set_option maxRecDepth 100000 in
set_option maxHeartbeats 4000000 in
theorem kF_X11_totalInOrder {l : Launch} {V : Vx} {a1 : Int32} {σ0 : Sg} {Qk : Int32 → Sg → Prop} (m0 : XI V σ0) (nn_1 : NN σ0 1) (l_a1 : 1 ≤ a1.toInt) (u_a1 : a1.toInt ≤ 12) (pre0 : (gi σ0 1 9).toInt ≤ 9999) (pre1 : TR σ0 (gi σ0 1 1).toInt) (pre2 : (gi σ0 1 1).toInt ≤ 5) (h9ret : ∀ (r : Int32) (σ' : Sg), XI V σ' → FX (fun id => id = 34 ∨ id = 35 ∨ id = 36 ∨ id = 37 ∨ id = 38 ∨ id = 39 ∨ id = 40 ∨ id = 47 ∨ id = 48) (fun id k => (id = 33 ∧ k = 1) ∨ (id = 33 ∧ k = 3) ∨ (id = 33 ∧ k = 9) ∨ (id = 33 ∧ k = 10) ∨ (id = 33 ∧ k = 11)) σ0 σ' → (NN σ' 1) → (F_X11_totalInOrder a1 σ0 = (r, σ')) → Qk r σ') : K_X11_totalInOrder l V a1 σ0 Qk := by
  refine e_X11_totalInOrder (fun M hl hV hN C => ?_)
  subst hl
  subst hV
  obtain ⟨R9, H0⟩ : ∃ R9, F_X11_totalInOrder a1 σ0 = R9 := ⟨_, rfl⟩
  have T : ∀ n : Nat, (∀ (x1 : Int32) (x2 : Int32) (σ : Sg), XI (mV M) σ → FX (fun id => id = 34 ∨ id = 35 ∨ id = 36 ∨ id = 37 ∨ id = 38 ∨ id = 39 ∨ id = 40 ∨ id = 47 ∨ id = 48) (fun id k => (id = 33 ∧ k = 1) ∨ (id = 33 ∧ k = 3) ∨ (id = 33 ∧ k = 9) ∨ (id = 33 ∧ k = 10) ∨ (id = 33 ∧ k = 11)) σ0 σ → NN σ 1 → NN σ 33 → (1 ≤ x1.toInt) → (x1.toInt ≤ 12) → (0 ≤ x2.toInt) → (x2.toInt ≤ 5) → (TR σ (gi σ0 1 1).toInt) → ((gi σ 33 9).toInt = (gi σ0 1 9).toInt) → ((gi σ 33 1).toInt = (gi σ0 1 1).toInt) → (LF_X11_totalInOrder n 0 x1 x2 σ = R9) → (7 - x2.toInt).toNat + 100 < n → PS M 13 [(0, .ref 0), (1, .int x1), (2, .int x2)] [] σ (0, 0)) ∧ (∀ (x1 : Int32) (x2 : Int32) (σ : Sg), XI (mV M) σ → FX (fun id => id = 34 ∨ id = 35 ∨ id = 36 ∨ id = 37 ∨ id = 38 ∨ id = 39 ∨ id = 40 ∨ id = 47 ∨ id = 48) (fun id k => (id = 33 ∧ k = 1) ∨ (id = 33 ∧ k = 3) ∨ (id = 33 ∧ k = 9) ∨ (id = 33 ∧ k = 10) ∨ (id = 33 ∧ k = 11)) σ0 σ → NN σ 1 → NN σ 33 → (1 ≤ x1.toInt) → (x1.toInt ≤ 12) → (0 ≤ x2.toInt) → (x2.toInt ≤ 12) → ((gi σ 33 9).toInt ≤ 9999 + x2.toInt) → (LF_X11_totalInOrder n 1 x1 x2 σ = R9) → (13 - x2.toInt).toNat < n → PS M 62 [(0, .ref 0), (1, .int x1), (2, .int x2)] [] σ (0, 0)) := by
    intro n
    induction n with
    | zero => exact ⟨fun _ _ _ _ _ _ _ _ _ _ _ _ _ _ _ h8 => absurd h8 (Nat.not_lt_zero _), fun _ _ _ _ _ _ _ _ _ _ _ _ _ h8 => absurd h8 (Nat.not_lt_zero _)⟩
    | succ n ih =>
      obtain ⟨ih13, ih62⟩ := ih
      refine ⟨?_, ?_⟩
      · intro x1 x2 σ mσ fσ nσ_1 nσ_33 lx1 ux1 lx2 ux2 i0 i1 i2 H hmu
        replace H : LB_X11_totalInOrder_13 (LF_X11_totalInOrder n) x1 x2 σ = R9 := H
        unfold LB_X11_totalInOrder_13 at H
        have k_1 : (gi σ 1 1).toInt = (gi σ0 1 1).toInt := congrArg Int32.toInt (FX_i fσ (show ¬ (1 = 34 ∨ 1 = 35 ∨ 1 = 36 ∨ 1 = 37 ∨ 1 = 38 ∨ 1 = 39 ∨ 1 = 40 ∨ 1 = 47 ∨ 1 = 48) from by omega) (show ¬ ((1 = 33 ∧ 1 = 1) ∨ (1 = 33 ∧ 1 = 3) ∨ (1 = 33 ∧ 1 = 9) ∨ (1 = 33 ∧ 1 = 10) ∨ (1 = 33 ∧ 1 = 11)) from by omega))
        have t_2 := XI_c1 mσ (id := 1) (k := 1) (lim_C0_1 (Or.inl rfl))
        have k_3 : (gi σ 1 9).toInt = (gi σ0 1 9).toInt := congrArg Int32.toInt (FX_i fσ (show ¬ (1 = 34 ∨ 1 = 35 ∨ 1 = 36 ∨ 1 = 37 ∨ 1 = 38 ∨ 1 = 39 ∨ 1 = 40 ∨ 1 = 47 ∨ 1 = 48) from by omega) (show ¬ ((1 = 33 ∧ 9 = 1) ∨ (1 = 33 ∧ 9 = 3) ∨ (1 = 33 ∧ 9 = 9) ∨ (1 = 33 ∧ 9 = 10) ∨ (1 = 33 ∧ 9 = 11)) from by omega))
        have t_4 := XI_c1 mσ (id := 1) (k := 9) (lim_C0_9 (Or.inl rfl))
        have t_5 := XI_c1 mσ (id := 33) (k := 1) (lim_C0_1 (Or.inr (Or.inr rfl)))
        have t_6 := XI_c1 mσ (id := 33) (k := 9) (lim_C0_9 (Or.inr (Or.inr rfl)))
        refine s_X11_totalInOrder_13 C hN  ?_
        refine ⟨?_, ?_⟩
        · intro q_7
          replace H := f_t q_7 H
          have b_8 : (gi σ 33 1).toInt ≤ x2.toInt := Int32.le_iff_toInt_le.mp q_7
          have z_9 : (0 : Int32).toInt = 0 := rfl
          exact ih62 x1 (0 : Int32) σ mσ fσ nσ_1 nσ_33 (by omega) (by omega) (by omega) (by omega) (by first | with_reducible assumption | with_reducible rfl | omega | assumption | rfl) H (by omega)
        · intro q_7
          replace H := f_f q_7 H
          have b_10 : ¬ (gi σ 33 1).toInt ≤ x2.toInt := fun h9 => q_7 (Int32.le_iff_toInt_le.mpr h9)
          refine ⟨?_, ?_⟩
          · intro q_11
            replace H := f_t q_11 H
            have b_12 : (5 : Int) ≤ x2.toInt := Int32.le_iff_toInt_le.mp q_11
            have z_13 : (0 : Int32).toInt = 0 := rfl
            exact ih62 x1 (0 : Int32) σ mσ fσ nσ_1 nσ_33 (by omega) (by omega) (by omega) (by omega) (by first | with_reducible assumption | with_reducible rfl | omega | assumption | rfl) H (by omega)
          · intro q_11
            replace H := f_f q_11 H
            have b_14 : ¬ (5 : Int) ≤ x2.toInt := fun h9 => q_11 (Int32.le_iff_toInt_le.mpr h9)
            have hv_15 : vp_in x2 5 := vp_in_iff.mpr ⟨by omega, by omega⟩
            refine ⟨hv_15, ?_⟩
            have hv_16 : vp_in x2 6 := vp_in_iff.mpr ⟨by omega, by omega⟩
            refine ⟨hv_16, ?_⟩
            intro σ5 eσ5
            replace H := f_l eσ5 H
            have t_17 := XI_c1 mσ (id := 66) (k := x2.toNatClampNeg) (rfl)
            have mσ5 : XI (mV M) σ5 := by rw [eσ5]; exact XIs_b mσ (lim_C2 (Or.inr (Or.inr rfl)) _) (by omega) (by omega)
            have fσ5 : FX (fun id => id = 34 ∨ id = 35 ∨ id = 36 ∨ id = 37 ∨ id = 38 ∨ id = 39 ∨ id = 40 ∨ id = 47 ∨ id = 48) (fun id k => (id = 33 ∧ k = 1) ∨ (id = 33 ∧ k = 3) ∨ (id = 33 ∧ k = 9) ∨ (id = 33 ∧ k = 10) ∨ (id = 33 ∧ k = 11)) σ0 σ5 := by rw [eσ5]; exact FX_si fσ (Or.inl (show 35 = 34 ∨ 35 = 35 ∨ 35 = 36 ∨ 35 = 37 ∨ 35 = 38 ∨ 35 = 39 ∨ 35 = 40 ∨ 35 = 47 ∨ 35 = 48 from Or.inr (Or.inl (rfl))))
            have k_18 : (gi σ5 1 1).toInt = (gi σ 1 1).toInt := by rw [eσ5]; exact congrArg Int32.toInt (gi_si_ne (Or.inl (by omega)))
            have k_19 : (gi σ5 1 9).toInt = (gi σ 1 9).toInt := by rw [eσ5]; exact congrArg Int32.toInt (gi_si_ne (Or.inl (by omega)))
            have k_20 : (gi σ5 33 1).toInt = (gi σ 33 1).toInt := by rw [eσ5]; exact congrArg Int32.toInt (gi_si_ne (Or.inl (by omega)))
            have k_21 : (gi σ5 33 9).toInt = (gi σ 33 9).toInt := by rw [eσ5]; exact congrArg Int32.toInt (gi_si_ne (Or.inl (by omega)))
            have nσ5_1 : NN σ5 1 := by rw [eσ5]; exact NN_si nσ_1 (by omega) (fun h9 => absurd h9 (by omega))
            have ec_22 := cl_eq (x := x2) (by omega)
            have lt9 := i0 x2.toNatClampNeg (by omega)
            have nσ5_33 : NN σ5 33 := by rw [eσ5]; exact NN_line nσ_33 (by omega)
            have tR9 : TR σ5 (gi σ0 1 1).toInt := by rw [eσ5]; exact TR_ne (by first | with_reducible assumption | assumption) (by decide +kernel)
            refine ⟨hv_16, ?_⟩
            intro σ7 eσ7
            replace H := f_l eσ7 H
            have mσ7 : XI (mV M) σ7 := by rw [eσ7]; exact XIs_n mσ5 (lim_C3 (Or.inr (Or.inr rfl)) _)
            have fσ7 : FX (fun id => id = 34 ∨ id = 35 ∨ id = 36 ∨ id = 37 ∨ id = 38 ∨ id = 39 ∨ id = 40 ∨ id = 47 ∨ id = 48) (fun id k => (id = 33 ∧ k = 1) ∨ (id = 33 ∧ k = 3) ∨ (id = 33 ∧ k = 9) ∨ (id = 33 ∧ k = 10) ∨ (id = 33 ∧ k = 11)) σ0 σ7 := by rw [eσ7]; exact FX_si fσ5 (Or.inl (show 36 = 34 ∨ 36 = 35 ∨ 36 = 36 ∨ 36 = 37 ∨ 36 = 38 ∨ 36 = 39 ∨ 36 = 40 ∨ 36 = 47 ∨ 36 = 48 from Or.inr (Or.inr (Or.inl (rfl)))))
            have k_23 : (gi σ7 1 1).toInt = (gi σ5 1 1).toInt := by rw [eσ7]; exact congrArg Int32.toInt (gi_si_ne (Or.inl (by omega)))
            have k_24 : (gi σ7 1 9).toInt = (gi σ5 1 9).toInt := by rw [eσ7]; exact congrArg Int32.toInt (gi_si_ne (Or.inl (by omega)))
            have k_25 : (gi σ7 33 1).toInt = (gi σ5 33 1).toInt := by rw [eσ7]; exact congrArg Int32.toInt (gi_si_ne (Or.inl (by omega)))
            have k_26 : (gi σ7 33 9).toInt = (gi σ5 33 9).toInt := by rw [eσ7]; exact congrArg Int32.toInt (gi_si_ne (Or.inl (by omega)))
            have nσ7_1 : NN σ7 1 := by rw [eσ7]; exact NN_si nσ5_1 (by omega) (fun h9 => absurd h9 (by omega))
            have nσ7_33 : NN σ7 33 := by rw [eσ7]; exact NN_si nσ5_33 (by omega) (fun h9 => absurd h9 (by omega))
            have tR9 : TR σ7 (gi σ0 1 1).toInt := by rw [eσ7]; exact TR_ne (by first | with_reducible assumption | assumption) (by decide +kernel)
            intro v8 ev8
            replace H := f_l ev8 H
            have t_27 : (x2 + (1 : Int32)).toInt = x2.toInt + 1 := i_add (x := x2) (y := (1 : Int32)) (by show (_ : Int) ≤ x2.toInt + 1; omega) (by show x2.toInt + 1 ≤ (_ : Int); omega)
            have t_28 : v8.toInt = (x2 + (1 : Int32)).toInt := congrArg Int32.toInt ev8
            exact ih13 x1 v8 σ7 mσ7 fσ7 nσ7_1 nσ7_33 (by omega) (by omega) (by omega) (by omega) (by first | with_reducible assumption | with_reducible rfl | omega | assumption | rfl) (by first | with_reducible assumption | with_reducible rfl | omega | assumption | rfl) (by first | with_reducible assumption | with_reducible rfl | omega | assumption | rfl) H (by omega)
      · intro x1 x2 σ mσ fσ nσ_1 nσ_33 lx1 ux1 lx2 ux2 i0 H hmu
        replace H : LB_X11_totalInOrder_62 (LF_X11_totalInOrder n) x1 x2 σ = R9 := H
        unfold LB_X11_totalInOrder_62 at H
        have k_29 : (gi σ 1 1).toInt = (gi σ0 1 1).toInt := congrArg Int32.toInt (FX_i fσ (show ¬ (1 = 34 ∨ 1 = 35 ∨ 1 = 36 ∨ 1 = 37 ∨ 1 = 38 ∨ 1 = 39 ∨ 1 = 40 ∨ 1 = 47 ∨ 1 = 48) from by omega) (show ¬ ((1 = 33 ∧ 1 = 1) ∨ (1 = 33 ∧ 1 = 3) ∨ (1 = 33 ∧ 1 = 9) ∨ (1 = 33 ∧ 1 = 10) ∨ (1 = 33 ∧ 1 = 11)) from by omega))
        have t_30 := XI_c1 mσ (id := 1) (k := 1) (lim_C0_1 (Or.inl rfl))
        have k_31 : (gi σ 1 9).toInt = (gi σ0 1 9).toInt := congrArg Int32.toInt (FX_i fσ (show ¬ (1 = 34 ∨ 1 = 35 ∨ 1 = 36 ∨ 1 = 37 ∨ 1 = 38 ∨ 1 = 39 ∨ 1 = 40 ∨ 1 = 47 ∨ 1 = 48) from by omega) (show ¬ ((1 = 33 ∧ 9 = 1) ∨ (1 = 33 ∧ 9 = 3) ∨ (1 = 33 ∧ 9 = 9) ∨ (1 = 33 ∧ 9 = 10) ∨ (1 = 33 ∧ 9 = 11)) from by omega))
        have t_32 := XI_c1 mσ (id := 1) (k := 9) (lim_C0_9 (Or.inl rfl))
        have t_33 := XI_c1 mσ (id := 33) (k := 1) (lim_C0_1 (Or.inr (Or.inr rfl)))
        have t_34 := XI_c1 mσ (id := 33) (k := 9) (lim_C0_9 (Or.inr (Or.inr rfl)))
        refine s_X11_totalInOrder_62 C hN  ?_
        refine ⟨?_, ?_⟩
        · intro q_35
          replace H := f_t q_35 H
          have b_36 : x1.toInt ≤ x2.toInt := Int32.le_iff_toInt_le.mp q_35
          refine kF_X1_allAt (Or.inr (Or.inr rfl)) mσ   (fun r3 σ2 mσ2 cσ2 hσ2 => ?_)
          obtain rfl := FX_nil cσ2
          replace H := f_b hσ2 H
          exact h9ret r3 σ mσ fσ nσ_1 (H0.trans H.symm)
        · intro q_35
          replace H := f_f q_35 H
          have b_37 : ¬ x1.toInt ≤ x2.toInt := fun h9 => q_35 (Int32.le_iff_toInt_le.mpr h9)
          refine kF_X1_goesMinute (Or.inr (Or.inr rfl)) mσ nσ_33 (by first | with_reducible assumption | with_reducible rfl | omega | assumption | rfl) (fun r5 σ4 mσ4 cσ4 nσ4_33 (pσ4_0 : (gi σ4 33 9).toInt = (gi σ 33 9).toInt + 1) hσ4 => ?_)
          replace H := f_b hσ4 H
          have fσ4 : FX (fun id => id = 34 ∨ id = 35 ∨ id = 36 ∨ id = 37 ∨ id = 38 ∨ id = 39 ∨ id = 40 ∨ id = 47 ∨ id = 48) (fun id k => (id = 33 ∧ k = 1) ∨ (id = 33 ∧ k = 3) ∨ (id = 33 ∧ k = 9) ∨ (id = 33 ∧ k = 10) ∨ (id = 33 ∧ k = 11)) σ0 σ4 := FX_tr fσ cσ4 (fun x (h9 : x = 47 ∨ x = 48 ∨ x = 36 ∨ x = 37 ∨ x = 38 ∨ x = 39) => h9.elim (fun e9 => (show x = 34 ∨ x = 35 ∨ x = 36 ∨ x = 37 ∨ x = 38 ∨ x = 39 ∨ x = 40 ∨ x = 47 ∨ x = 48 from Or.inr (Or.inr (Or.inr (Or.inr (Or.inr (Or.inr (Or.inr (Or.inl (e9)))))))))) (fun h9 => h9.elim (fun e9 => (show x = 34 ∨ x = 35 ∨ x = 36 ∨ x = 37 ∨ x = 38 ∨ x = 39 ∨ x = 40 ∨ x = 47 ∨ x = 48 from Or.inr (Or.inr (Or.inr (Or.inr (Or.inr (Or.inr (Or.inr (Or.inr (e9)))))))))) (fun h9 => h9.elim (fun e9 => (show x = 34 ∨ x = 35 ∨ x = 36 ∨ x = 37 ∨ x = 38 ∨ x = 39 ∨ x = 40 ∨ x = 47 ∨ x = 48 from Or.inr (Or.inr (Or.inl (e9))))) (fun h9 => h9.elim (fun e9 => (show x = 34 ∨ x = 35 ∨ x = 36 ∨ x = 37 ∨ x = 38 ∨ x = 39 ∨ x = 40 ∨ x = 47 ∨ x = 48 from Or.inr (Or.inr (Or.inr (Or.inl (e9)))))) (fun h9 => h9.elim (fun e9 => (show x = 34 ∨ x = 35 ∨ x = 36 ∨ x = 37 ∨ x = 38 ∨ x = 39 ∨ x = 40 ∨ x = 47 ∨ x = 48 from Or.inr (Or.inr (Or.inr (Or.inr (Or.inl (e9))))))) (fun h9 => (show x = 34 ∨ x = 35 ∨ x = 36 ∨ x = 37 ∨ x = 38 ∨ x = 39 ∨ x = 40 ∨ x = 47 ∨ x = 48 from Or.inr (Or.inr (Or.inr (Or.inr (Or.inr (Or.inl (h9))))))))))))) (fun x k (h9 : (x = 33 ∧ k = 9)) => (show (x = 34 ∨ x = 35 ∨ x = 36 ∨ x = 37 ∨ x = 38 ∨ x = 39 ∨ x = 40 ∨ x = 47 ∨ x = 48) ∨ ((x = 33 ∧ k = 1) ∨ (x = 33 ∧ k = 3) ∨ (x = 33 ∧ k = 9) ∨ (x = 33 ∧ k = 10) ∨ (x = 33 ∧ k = 11)) from Or.inr (show (x = 33 ∧ k = 1) ∨ (x = 33 ∧ k = 3) ∨ (x = 33 ∧ k = 9) ∨ (x = 33 ∧ k = 10) ∨ (x = 33 ∧ k = 11) from Or.inr (Or.inr (Or.inl (h9))))))
          have k_38 : (gi σ4 1 1).toInt = (gi σ 1 1).toInt := congrArg Int32.toInt (FX_i cσ4 (show ¬ (1 = 47 ∨ 1 = 48 ∨ 1 = 36 ∨ 1 = 37 ∨ 1 = 38 ∨ 1 = 39) from by omega) (show ¬ ((1 = 33 ∧ 1 = 9)) from by omega))
          have k_39 : (gi σ4 1 9).toInt = (gi σ 1 9).toInt := congrArg Int32.toInt (FX_i cσ4 (show ¬ (1 = 47 ∨ 1 = 48 ∨ 1 = 36 ∨ 1 = 37 ∨ 1 = 38 ∨ 1 = 39) from by omega) (show ¬ ((1 = 33 ∧ 9 = 9)) from by omega))
          have k_40 : (gi σ4 33 1).toInt = (gi σ 33 1).toInt := congrArg Int32.toInt (FX_i cσ4 (show ¬ (33 = 47 ∨ 33 = 48 ∨ 33 = 36 ∨ 33 = 37 ∨ 33 = 38 ∨ 33 = 39) from by omega) (show ¬ ((33 = 33 ∧ 1 = 9)) from by omega))
          have t_41 := XI_c1 mσ4 (id := 33) (k := 9) (lim_C0_9 (Or.inr (Or.inr rfl)))
          have nσ4_1 : NN σ4 1 := NN_fx nσ_1 cσ4 (show ¬ (1 = 47 ∨ 1 = 48 ∨ 1 = 36 ∨ 1 = 37 ∨ 1 = 38 ∨ 1 = 39) from by omega) (show ¬ (2 = 47 ∨ 2 = 48 ∨ 2 = 36 ∨ 2 = 37 ∨ 2 = 38 ∨ 2 = 39) from by omega) (show ¬ (3 = 47 ∨ 3 = 48 ∨ 3 = 36 ∨ 3 = 37 ∨ 3 = 38 ∨ 3 = 39) from by omega) (show ¬ ((1 = 33 ∧ 1 = 9)) from by omega) (show ¬ ((1 = 33 ∧ 3 = 9)) from by omega) (fun k (h9 : (2 = 33 ∧ k = 9)) => by omega) (fun k (h9 : (3 = 33 ∧ k = 9)) => by omega)
          intro v6 ev6
          replace H := f_l ev6 H
          have t_42 : (x2 + (1 : Int32)).toInt = x2.toInt + 1 := i_add (x := x2) (y := (1 : Int32)) (by show (_ : Int) ≤ x2.toInt + 1; omega) (by show x2.toInt + 1 ≤ (_ : Int); omega)
          have t_43 : v6.toInt = (x2 + (1 : Int32)).toInt := congrArg Int32.toInt ev6
          exact ih62 x1 v6 σ4 mσ4 fσ4 nσ4_1 nσ4_33 (by omega) (by omega) (by omega) (by omega) (by first | with_reducible assumption | with_reducible rfl | omega | assumption | rfl) H (by omega)
  obtain ⟨U13, U62⟩ := T 300
  have f0 : FX (fun id => id = 34 ∨ id = 35 ∨ id = 36 ∨ id = 37 ∨ id = 38 ∨ id = 39 ∨ id = 40 ∨ id = 47 ∨ id = 48) (fun id k => (id = 33 ∧ k = 1) ∨ (id = 33 ∧ k = 3) ∨ (id = 33 ∧ k = 9) ∨ (id = 33 ∧ k = 10) ∨ (id = 33 ∧ k = 11)) σ0 σ0 := FX_rf
  have t_44 := XI_c1 m0 (id := 1) (k := 1) (lim_C0_1 (Or.inl rfl))
  have t_45 := XI_c1 m0 (id := 1) (k := 9) (lim_C0_9 (Or.inl rfl))
  have t_46 := XI_c1 m0 (id := 33) (k := 1) (lim_C0_1 (Or.inr (Or.inr rfl)))
  have t_47 := XI_c1 m0 (id := 33) (k := 9) (lim_C0_9 (Or.inr (Or.inr rfl)))
  have H := H0
  unfold F_X11_totalInOrder at H
  refine s_X11_totalInOrder_0 C hN  ?_
  have z_48 : (1 : Int32).toInt = 1 := rfl
  refine kF_X1_becomes (Or.inr (Or.inr rfl)) (Or.inl rfl) m0 nn_1 (by first | with_reducible assumption | with_reducible rfl | omega | assumption | rfl) (fun σ1 mσ1 cσ1 nσ1_1 nσ1_33 (pσ1_0 : (gi σ1 33 1).toInt = (gi σ0 1 1).toInt) (pσ1_1 : (gi σ1 33 3).toInt = (gi σ0 1 3).toInt) (pσ1_2 : (gi σ1 33 9).toInt = (gi σ0 1 9).toInt) (pσ1_3 : CPY σ0 σ1 33 1) hσ1 => ?_)
  replace H := f_v hσ1 H
  have fσ1 : FX (fun id => id = 34 ∨ id = 35 ∨ id = 36 ∨ id = 37 ∨ id = 38 ∨ id = 39 ∨ id = 40 ∨ id = 47 ∨ id = 48) (fun id k => (id = 33 ∧ k = 1) ∨ (id = 33 ∧ k = 3) ∨ (id = 33 ∧ k = 9) ∨ (id = 33 ∧ k = 10) ∨ (id = 33 ∧ k = 11)) σ0 σ1 := FX_tr f0 cσ1 (fun x (h9 : x = 34 ∨ x = 35 ∨ x = 36 ∨ x = 37 ∨ x = 38 ∨ x = 39 ∨ x = 40) => h9.elim (fun e9 => (show x = 34 ∨ x = 35 ∨ x = 36 ∨ x = 37 ∨ x = 38 ∨ x = 39 ∨ x = 40 ∨ x = 47 ∨ x = 48 from Or.inl (e9))) (fun h9 => h9.elim (fun e9 => (show x = 34 ∨ x = 35 ∨ x = 36 ∨ x = 37 ∨ x = 38 ∨ x = 39 ∨ x = 40 ∨ x = 47 ∨ x = 48 from Or.inr (Or.inl (e9)))) (fun h9 => h9.elim (fun e9 => (show x = 34 ∨ x = 35 ∨ x = 36 ∨ x = 37 ∨ x = 38 ∨ x = 39 ∨ x = 40 ∨ x = 47 ∨ x = 48 from Or.inr (Or.inr (Or.inl (e9))))) (fun h9 => h9.elim (fun e9 => (show x = 34 ∨ x = 35 ∨ x = 36 ∨ x = 37 ∨ x = 38 ∨ x = 39 ∨ x = 40 ∨ x = 47 ∨ x = 48 from Or.inr (Or.inr (Or.inr (Or.inl (e9)))))) (fun h9 => h9.elim (fun e9 => (show x = 34 ∨ x = 35 ∨ x = 36 ∨ x = 37 ∨ x = 38 ∨ x = 39 ∨ x = 40 ∨ x = 47 ∨ x = 48 from Or.inr (Or.inr (Or.inr (Or.inr (Or.inl (e9))))))) (fun h9 => h9.elim (fun e9 => (show x = 34 ∨ x = 35 ∨ x = 36 ∨ x = 37 ∨ x = 38 ∨ x = 39 ∨ x = 40 ∨ x = 47 ∨ x = 48 from Or.inr (Or.inr (Or.inr (Or.inr (Or.inr (Or.inl (e9)))))))) (fun h9 => (show x = 34 ∨ x = 35 ∨ x = 36 ∨ x = 37 ∨ x = 38 ∨ x = 39 ∨ x = 40 ∨ x = 47 ∨ x = 48 from Or.inr (Or.inr (Or.inr (Or.inr (Or.inr (Or.inr (Or.inl (h9))))))))))))))) (fun x k (h9 : (x = 33 ∧ k = 1) ∨ (x = 33 ∧ k = 3) ∨ (x = 33 ∧ k = 9) ∨ (x = 33 ∧ k = 10) ∨ (x = 33 ∧ k = 11)) => (show (x = 34 ∨ x = 35 ∨ x = 36 ∨ x = 37 ∨ x = 38 ∨ x = 39 ∨ x = 40 ∨ x = 47 ∨ x = 48) ∨ ((x = 33 ∧ k = 1) ∨ (x = 33 ∧ k = 3) ∨ (x = 33 ∧ k = 9) ∨ (x = 33 ∧ k = 10) ∨ (x = 33 ∧ k = 11)) from h9.elim (fun e9 => Or.inr (show (x = 33 ∧ k = 1) ∨ (x = 33 ∧ k = 3) ∨ (x = 33 ∧ k = 9) ∨ (x = 33 ∧ k = 10) ∨ (x = 33 ∧ k = 11) from Or.inl (e9))) (fun h9 => h9.elim (fun e9 => Or.inr (show (x = 33 ∧ k = 1) ∨ (x = 33 ∧ k = 3) ∨ (x = 33 ∧ k = 9) ∨ (x = 33 ∧ k = 10) ∨ (x = 33 ∧ k = 11) from Or.inr (Or.inl (e9)))) (fun h9 => h9.elim (fun e9 => Or.inr (show (x = 33 ∧ k = 1) ∨ (x = 33 ∧ k = 3) ∨ (x = 33 ∧ k = 9) ∨ (x = 33 ∧ k = 10) ∨ (x = 33 ∧ k = 11) from Or.inr (Or.inr (Or.inl (e9))))) (fun h9 => h9.elim (fun e9 => Or.inr (show (x = 33 ∧ k = 1) ∨ (x = 33 ∧ k = 3) ∨ (x = 33 ∧ k = 9) ∨ (x = 33 ∧ k = 10) ∨ (x = 33 ∧ k = 11) from Or.inr (Or.inr (Or.inr (Or.inl (e9)))))) (fun h9 => Or.inr (show (x = 33 ∧ k = 1) ∨ (x = 33 ∧ k = 3) ∨ (x = 33 ∧ k = 9) ∨ (x = 33 ∧ k = 10) ∨ (x = 33 ∧ k = 11) from Or.inr (Or.inr (Or.inr (Or.inr (h9)))))))))))
  have k_49 : (gi σ1 1 1).toInt = (gi σ0 1 1).toInt := congrArg Int32.toInt (FX_i cσ1 (show ¬ (1 = 34 ∨ 1 = 35 ∨ 1 = 36 ∨ 1 = 37 ∨ 1 = 38 ∨ 1 = 39 ∨ 1 = 40) from by omega) (show ¬ ((1 = 33 ∧ 1 = 1) ∨ (1 = 33 ∧ 1 = 3) ∨ (1 = 33 ∧ 1 = 9) ∨ (1 = 33 ∧ 1 = 10) ∨ (1 = 33 ∧ 1 = 11)) from by omega))
  have k_50 : (gi σ1 1 9).toInt = (gi σ0 1 9).toInt := congrArg Int32.toInt (FX_i cσ1 (show ¬ (1 = 34 ∨ 1 = 35 ∨ 1 = 36 ∨ 1 = 37 ∨ 1 = 38 ∨ 1 = 39 ∨ 1 = 40) from by omega) (show ¬ ((1 = 33 ∧ 9 = 1) ∨ (1 = 33 ∧ 9 = 3) ∨ (1 = 33 ∧ 9 = 9) ∨ (1 = 33 ∧ 9 = 10) ∨ (1 = 33 ∧ 9 = 11)) from by omega))
  have t_51 := XI_c1 mσ1 (id := 33) (k := 1) (lim_C0_1 (Or.inr (Or.inr rfl)))
  have t_52 := XI_c1 mσ1 (id := 33) (k := 9) (lim_C0_9 (Or.inr (Or.inr rfl)))
  have tR9 : TR σ1 (gi σ0 1 1).toInt := TR_fx (by first | with_reducible assumption | assumption) cσ1 (by simp) (by intro k; simp)
  have z_53 : (0 : Int32).toInt = 0 := rfl
  exact U13 a1 (0 : Int32) σ1 mσ1 fσ1 nσ1_1 nσ1_33 (by omega) (by omega) (by omega) (by omega) (by first | with_reducible assumption | with_reducible rfl | omega | assumption | rfl) (by first | with_reducible assumption | with_reducible rfl | omega | assumption | rfl) (by first | with_reducible assumption | with_reducible rfl | omega | assumption | rfl) H (by omega)
set_option maxRecDepth 100000 in
set_option maxHeartbeats 4000000 in
theorem kF_X11_findsBestOrder {l : Launch} {V : Vx} {a1 : Int32} {σ0 : Sg} {Qk : Int32 → Sg → Prop} (m0 : XI V σ0) (nn_1 : NN σ0 1) (l_a1 : 1 ≤ a1.toInt) (u_a1 : a1.toInt ≤ 12) (pre0 : (gi σ0 1 9).toInt ≤ 9999) (pre1 : (gi σ0 1 1).toInt ≤ 5) (h9ret : ∀ (r : Int32) (σ' : Sg), XI V σ' → FX (fun id => id = 34 ∨ id = 35 ∨ id = 36 ∨ id = 37 ∨ id = 38 ∨ id = 39 ∨ id = 40 ∨ id = 47 ∨ id = 48 ∨ id = 66 ∨ id = 67) (fun id k => (id = 33 ∧ k = 1) ∨ (id = 33 ∧ k = 3) ∨ (id = 33 ∧ k = 9) ∨ (id = 33 ∧ k = 10) ∨ (id = 33 ∧ k = 11)) σ0 σ' → (NN σ' 1) → (F_X11_findsBestOrder a1 σ0 = (r, σ')) → Qk r σ') : K_X11_findsBestOrder l V a1 σ0 Qk := by
  refine e_X11_findsBestOrder (fun M hl hV hN C => ?_)
  subst hl
  subst hV
  obtain ⟨R9, H0⟩ : ∃ R9, F_X11_findsBestOrder a1 σ0 = R9 := ⟨_, rfl⟩
  have T : ∀ n : Nat, (∀ (x1 : Int32) (x2 : Int32) (x3 : Int32) (σ : Sg), XI (mV M) σ → FX (fun id => id = 34 ∨ id = 35 ∨ id = 36 ∨ id = 37 ∨ id = 38 ∨ id = 39 ∨ id = 40 ∨ id = 47 ∨ id = 48 ∨ id = 66 ∨ id = 67) (fun id k => (id = 33 ∧ k = 1) ∨ (id = 33 ∧ k = 3) ∨ (id = 33 ∧ k = 9) ∨ (id = 33 ∧ k = 10) ∨ (id = 33 ∧ k = 11)) σ0 σ → NN σ 1 → (1 ≤ x1.toInt) → (x1.toInt ≤ 12) → (0 ≤ x2.toInt) → (x2.toInt ≤ 5) → (0 ≤ x3.toInt) → (x3.toInt ≤ 5) → (x2.toInt = (gi σ 1 1).toInt) → (TRp σ x3.toInt x2.toInt) → (LF_X11_findsBestOrder n 0 x1 x2 x3 0 0 σ = R9) → (7 - x3.toInt).toNat + 200 < n → PS M 14 [(0, .ref 0), (1, .int x1), (2, .int x2), (3, .int x3)] [] σ (0, 0)) ∧ (∀ (x1 : Int32) (x2 : Int32) (x3 : Int32) (x4 : Int32) (x5 : Int32) (σ : Sg), XI (mV M) σ → FX (fun id => id = 34 ∨ id = 35 ∨ id = 36 ∨ id = 37 ∨ id = 38 ∨ id = 39 ∨ id = 40 ∨ id = 47 ∨ id = 48 ∨ id = 66 ∨ id = 67) (fun id k => (id = 33 ∧ k = 1) ∨ (id = 33 ∧ k = 3) ∨ (id = 33 ∧ k = 9) ∨ (id = 33 ∧ k = 10) ∨ (id = 33 ∧ k = 11)) σ0 σ → NN σ 1 → (1 ≤ x1.toInt) → (x1.toInt ≤ 12) → (0 ≤ x2.toInt) → (x2.toInt ≤ 5) → (0 ≤ x5.toInt) → (x5.toInt ≤ 120) → (x2.toInt = (gi σ 1 1).toInt) → (TR σ x2.toInt) → (LF_X11_findsBestOrder n 1 x1 x2 x3 x4 x5 σ = R9) → (121 - x5.toInt).toNat < n → PS M 40 [(0, .ref 0), (1, .int x1), (2, .int x2), (3, .int x3), (4, .int x4), (5, .int x5)] [] σ (0, 0)) := by
    intro n
    induction n with
    | zero => exact ⟨fun _ _ _ _ _ _ _ _ _ _ _ _ _ _ _ _ h8 => absurd h8 (Nat.not_lt_zero _), fun _ _ _ _ _ _ _ _ _ _ _ _ _ _ _ _ _ _ h8 => absurd h8 (Nat.not_lt_zero _)⟩
    | succ n ih =>
      obtain ⟨ih14, ih40⟩ := ih
      refine ⟨?_, ?_⟩
      · intro x1 x2 x3 σ mσ fσ nσ_1 lx1 ux1 lx2 ux2 lx3 ux3 i0 i1 H hmu
        replace H : LB_X11_findsBestOrder_14 (LF_X11_findsBestOrder n) x1 x2 x3 σ = R9 := H
        unfold LB_X11_findsBestOrder_14 at H
        have k_1 : (gi σ 1 1).toInt = (gi σ0 1 1).toInt := congrArg Int32.toInt (FX_i fσ (show ¬ (1 = 34 ∨ 1 = 35 ∨ 1 = 36 ∨ 1 = 37 ∨ 1 = 38 ∨ 1 = 39 ∨ 1 = 40 ∨ 1 = 47 ∨ 1 = 48 ∨ 1 = 66 ∨ 1 = 67) from by omega) (show ¬ ((1 = 33 ∧ 1 = 1) ∨ (1 = 33 ∧ 1 = 3) ∨ (1 = 33 ∧ 1 = 9) ∨ (1 = 33 ∧ 1 = 10) ∨ (1 = 33 ∧ 1 = 11)) from by omega))
        have t_2 := XI_c1 mσ (id := 1) (k := 1) (lim_C0_1 (Or.inl rfl))
        have k_3 : (gi σ 1 9).toInt = (gi σ0 1 9).toInt := congrArg Int32.toInt (FX_i fσ (show ¬ (1 = 34 ∨ 1 = 35 ∨ 1 = 36 ∨ 1 = 37 ∨ 1 = 38 ∨ 1 = 39 ∨ 1 = 40 ∨ 1 = 47 ∨ 1 = 48 ∨ 1 = 66 ∨ 1 = 67) from by omega) (show ¬ ((1 = 33 ∧ 9 = 1) ∨ (1 = 33 ∧ 9 = 3) ∨ (1 = 33 ∧ 9 = 9) ∨ (1 = 33 ∧ 9 = 10) ∨ (1 = 33 ∧ 9 = 11)) from by omega))
        have t_4 := XI_c1 mσ (id := 1) (k := 9) (lim_C0_9 (Or.inl rfl))
        refine s_X11_findsBestOrder_14 C hN  ?_
        refine ⟨?_, ?_⟩
        · intro q_5
          replace H := f_t q_5 H
          have b_6 : x2.toInt ≤ x3.toInt := Int32.le_iff_toInt_le.mp q_5
          have z_7 : (-1 : Int32).toInt = -1 := rfl
          have z_8 : (1 : Int32).toInt = 1 := rfl
          have z_9 : (0 : Int32).toInt = 0 := rfl
          exact ih40 x1 x2 (-1 : Int32) (1 : Int32) (0 : Int32) σ mσ fσ nσ_1 (by omega) (by omega) (by omega) (by omega) (by omega) (by omega) (by first | with_reducible assumption | with_reducible rfl | omega | assumption | rfl) (by first | assumption | exact fun j hj => i1 j (by omega)) H (by omega)
        · intro q_5
          replace H := f_f q_5 H
          have b_10 : ¬ x2.toInt ≤ x3.toInt := fun h9 => q_5 (Int32.le_iff_toInt_le.mpr h9)
          have hv_11 : vp_in x3 5 := vp_in_iff.mpr ⟨by omega, by omega⟩
          refine ⟨hv_11, ?_⟩
          intro σ3 eσ3
          replace H := f_l eσ3 H
          have mσ3 : XI (mV M) σ3 := by rw [eσ3]; exact XIs_b mσ (rfl) (by omega) (by omega)
          have fσ3 : FX (fun id => id = 34 ∨ id = 35 ∨ id = 36 ∨ id = 37 ∨ id = 38 ∨ id = 39 ∨ id = 40 ∨ id = 47 ∨ id = 48 ∨ id = 66 ∨ id = 67) (fun id k => (id = 33 ∧ k = 1) ∨ (id = 33 ∧ k = 3) ∨ (id = 33 ∧ k = 9) ∨ (id = 33 ∧ k = 10) ∨ (id = 33 ∧ k = 11)) σ0 σ3 := by rw [eσ3]; exact FX_si fσ (Or.inl (show 66 = 34 ∨ 66 = 35 ∨ 66 = 36 ∨ 66 = 37 ∨ 66 = 38 ∨ 66 = 39 ∨ 66 = 40 ∨ 66 = 47 ∨ 66 = 48 ∨ 66 = 66 ∨ 66 = 67 from Or.inr (Or.inr (Or.inr (Or.inr (Or.inr (Or.inr (Or.inr (Or.inr (Or.inr (Or.inl (rfl))))))))))))
          have k_12 : (gi σ3 1 1).toInt = (gi σ 1 1).toInt := by rw [eσ3]; exact congrArg Int32.toInt (gi_si_ne (Or.inl (by omega)))
          have k_13 : (gi σ3 1 9).toInt = (gi σ 1 9).toInt := by rw [eσ3]; exact congrArg Int32.toInt (gi_si_ne (Or.inl (by omega)))
          have nσ3_1 : NN σ3 1 := by rw [eσ3]; exact NN_si nσ_1 (by omega) (fun h9 => absurd h9 (by omega))
          intro v4 ev4
          replace H := f_l ev4 H
          have t_14 : (x3 + (1 : Int32)).toInt = x3.toInt + 1 := i_add (x := x3) (y := (1 : Int32)) (by show (_ : Int) ≤ x3.toInt + 1; omega) (by show x3.toInt + 1 ≤ (_ : Int); omega)
          have t_15 : v4.toInt = (x3 + (1 : Int32)).toInt := congrArg Int32.toInt ev4
          exact ih14 x1 x2 v4 σ3 mσ3 fσ3 nσ3_1 (by omega) (by omega) (by omega) (by omega) (by omega) (by omega) (by first | with_reducible assumption | with_reducible rfl | omega | assumption | rfl) (by first | exact TRp_step (by first | with_reducible assumption | assumption) (by first | with_reducible assumption | assumption) (by omega) (by omega) (by omega) | (intro j hj; exfalso; omega)) H (by omega)
      · intro x1 x2 x3 x4 x5 σ mσ fσ nσ_1 lx1 ux1 lx2 ux2 lx5 ux5 i0 i1 H hmu
        replace H : LB_X11_findsBestOrder_40 (LF_X11_findsBestOrder n) x1 x2 x3 x4 x5 σ = R9 := H
        unfold LB_X11_findsBestOrder_40 at H
        have k_16 : (gi σ 1 1).toInt = (gi σ0 1 1).toInt := congrArg Int32.toInt (FX_i fσ (show ¬ (1 = 34 ∨ 1 = 35 ∨ 1 = 36 ∨ 1 = 37 ∨ 1 = 38 ∨ 1 = 39 ∨ 1 = 40 ∨ 1 = 47 ∨ 1 = 48 ∨ 1 = 66 ∨ 1 = 67) from by omega) (show ¬ ((1 = 33 ∧ 1 = 1) ∨ (1 = 33 ∧ 1 = 3) ∨ (1 = 33 ∧ 1 = 9) ∨ (1 = 33 ∧ 1 = 10) ∨ (1 = 33 ∧ 1 = 11)) from by omega))
        have t_17 := XI_c1 mσ (id := 1) (k := 1) (lim_C0_1 (Or.inl rfl))
        have k_18 : (gi σ 1 9).toInt = (gi σ0 1 9).toInt := congrArg Int32.toInt (FX_i fσ (show ¬ (1 = 34 ∨ 1 = 35 ∨ 1 = 36 ∨ 1 = 37 ∨ 1 = 38 ∨ 1 = 39 ∨ 1 = 40 ∨ 1 = 47 ∨ 1 = 48 ∨ 1 = 66 ∨ 1 = 67) from by omega) (show ¬ ((1 = 33 ∧ 9 = 1) ∨ (1 = 33 ∧ 9 = 3) ∨ (1 = 33 ∧ 9 = 9) ∨ (1 = 33 ∧ 9 = 10) ∨ (1 = 33 ∧ 9 = 11)) from by omega))
        have t_19 := XI_c1 mσ (id := 1) (k := 9) (lim_C0_9 (Or.inl rfl))
        refine s_X11_findsBestOrder_40 C hN  ?_
        refine ⟨?_, ?_⟩
        · intro q_20
          replace H := f_t q_20 H
          have b_21 : (120 : Int) ≤ x5.toInt := Int32.le_iff_toInt_le.mp q_20
          exact h9ret x3 σ mσ fσ nσ_1 (H0.trans H.symm)
        · intro q_20
          replace H := f_f q_20 H
          have b_22 : ¬ (120 : Int) ≤ x5.toInt := fun h9 => q_20 (Int32.le_iff_toInt_le.mpr h9)
          refine ⟨?_, ?_⟩
          · intro q_23
            replace H := f_t q_23 H
            have w_24 := Int32.toInt_lt x4
            have w_25 := Int32.le_toInt x4
            have b_26 : x4.toInt = 0 := congrArg Int32.toInt q_23
            exact h9ret x3 σ mσ fσ nσ_1 (H0.trans H.symm)
          · intro q_23
            replace H := f_f q_23 H
            have w_27 := Int32.toInt_lt x4
            have w_28 := Int32.le_toInt x4
            have b_29 : ¬ x4.toInt = 0 := fun h9 => q_23 (Int32.toInt_inj.mp h9)
            refine kF_X11_totalInOrder  mσ nσ_1 (by omega) (by omega) (by omega) (by rw [show (gi σ 1 1).toInt = x2.toInt from by omega]; assumption) (by omega) (fun r4 σ3 mσ3 cσ3 nσ3_1 hσ3 => ?_)
            replace H := f_b hσ3 H
            have fσ3 : FX (fun id => id = 34 ∨ id = 35 ∨ id = 36 ∨ id = 37 ∨ id = 38 ∨ id = 39 ∨ id = 40 ∨ id = 47 ∨ id = 48 ∨ id = 66 ∨ id = 67) (fun id k => (id = 33 ∧ k = 1) ∨ (id = 33 ∧ k = 3) ∨ (id = 33 ∧ k = 9) ∨ (id = 33 ∧ k = 10) ∨ (id = 33 ∧ k = 11)) σ0 σ3 := FX_tr fσ cσ3 (fun x (h9 : x = 34 ∨ x = 35 ∨ x = 36 ∨ x = 37 ∨ x = 38 ∨ x = 39 ∨ x = 40 ∨ x = 47 ∨ x = 48) => h9.elim (fun e9 => (show x = 34 ∨ x = 35 ∨ x = 36 ∨ x = 37 ∨ x = 38 ∨ x = 39 ∨ x = 40 ∨ x = 47 ∨ x = 48 ∨ x = 66 ∨ x = 67 from Or.inl (e9))) (fun h9 => h9.elim (fun e9 => (show x = 34 ∨ x = 35 ∨ x = 36 ∨ x = 37 ∨ x = 38 ∨ x = 39 ∨ x = 40 ∨ x = 47 ∨ x = 48 ∨ x = 66 ∨ x = 67 from Or.inr (Or.inl (e9)))) (fun h9 => h9.elim (fun e9 => (show x = 34 ∨ x = 35 ∨ x = 36 ∨ x = 37 ∨ x = 38 ∨ x = 39 ∨ x = 40 ∨ x = 47 ∨ x = 48 ∨ x = 66 ∨ x = 67 from Or.inr (Or.inr (Or.inl (e9))))) (fun h9 => h9.elim (fun e9 => (show x = 34 ∨ x = 35 ∨ x = 36 ∨ x = 37 ∨ x = 38 ∨ x = 39 ∨ x = 40 ∨ x = 47 ∨ x = 48 ∨ x = 66 ∨ x = 67 from Or.inr (Or.inr (Or.inr (Or.inl (e9)))))) (fun h9 => h9.elim (fun e9 => (show x = 34 ∨ x = 35 ∨ x = 36 ∨ x = 37 ∨ x = 38 ∨ x = 39 ∨ x = 40 ∨ x = 47 ∨ x = 48 ∨ x = 66 ∨ x = 67 from Or.inr (Or.inr (Or.inr (Or.inr (Or.inl (e9))))))) (fun h9 => h9.elim (fun e9 => (show x = 34 ∨ x = 35 ∨ x = 36 ∨ x = 37 ∨ x = 38 ∨ x = 39 ∨ x = 40 ∨ x = 47 ∨ x = 48 ∨ x = 66 ∨ x = 67 from Or.inr (Or.inr (Or.inr (Or.inr (Or.inr (Or.inl (e9)))))))) (fun h9 => h9.elim (fun e9 => (show x = 34 ∨ x = 35 ∨ x = 36 ∨ x = 37 ∨ x = 38 ∨ x = 39 ∨ x = 40 ∨ x = 47 ∨ x = 48 ∨ x = 66 ∨ x = 67 from Or.inr (Or.inr (Or.inr (Or.inr (Or.inr (Or.inr (Or.inl (e9))))))))) (fun h9 => h9.elim (fun e9 => (show x = 34 ∨ x = 35 ∨ x = 36 ∨ x = 37 ∨ x = 38 ∨ x = 39 ∨ x = 40 ∨ x = 47 ∨ x = 48 ∨ x = 66 ∨ x = 67 from Or.inr (Or.inr (Or.inr (Or.inr (Or.inr (Or.inr (Or.inr (Or.inl (e9)))))))))) (fun h9 => (show x = 34 ∨ x = 35 ∨ x = 36 ∨ x = 37 ∨ x = 38 ∨ x = 39 ∨ x = 40 ∨ x = 47 ∨ x = 48 ∨ x = 66 ∨ x = 67 from Or.inr (Or.inr (Or.inr (Or.inr (Or.inr (Or.inr (Or.inr (Or.inr (Or.inl (h9))))))))))))))))))) (fun x k (h9 : (x = 33 ∧ k = 1) ∨ (x = 33 ∧ k = 3) ∨ (x = 33 ∧ k = 9) ∨ (x = 33 ∧ k = 10) ∨ (x = 33 ∧ k = 11)) => (show (x = 34 ∨ x = 35 ∨ x = 36 ∨ x = 37 ∨ x = 38 ∨ x = 39 ∨ x = 40 ∨ x = 47 ∨ x = 48 ∨ x = 66 ∨ x = 67) ∨ ((x = 33 ∧ k = 1) ∨ (x = 33 ∧ k = 3) ∨ (x = 33 ∧ k = 9) ∨ (x = 33 ∧ k = 10) ∨ (x = 33 ∧ k = 11)) from h9.elim (fun e9 => Or.inr (show (x = 33 ∧ k = 1) ∨ (x = 33 ∧ k = 3) ∨ (x = 33 ∧ k = 9) ∨ (x = 33 ∧ k = 10) ∨ (x = 33 ∧ k = 11) from Or.inl (e9))) (fun h9 => h9.elim (fun e9 => Or.inr (show (x = 33 ∧ k = 1) ∨ (x = 33 ∧ k = 3) ∨ (x = 33 ∧ k = 9) ∨ (x = 33 ∧ k = 10) ∨ (x = 33 ∧ k = 11) from Or.inr (Or.inl (e9)))) (fun h9 => h9.elim (fun e9 => Or.inr (show (x = 33 ∧ k = 1) ∨ (x = 33 ∧ k = 3) ∨ (x = 33 ∧ k = 9) ∨ (x = 33 ∧ k = 10) ∨ (x = 33 ∧ k = 11) from Or.inr (Or.inr (Or.inl (e9))))) (fun h9 => h9.elim (fun e9 => Or.inr (show (x = 33 ∧ k = 1) ∨ (x = 33 ∧ k = 3) ∨ (x = 33 ∧ k = 9) ∨ (x = 33 ∧ k = 10) ∨ (x = 33 ∧ k = 11) from Or.inr (Or.inr (Or.inr (Or.inl (e9)))))) (fun h9 => Or.inr (show (x = 33 ∧ k = 1) ∨ (x = 33 ∧ k = 3) ∨ (x = 33 ∧ k = 9) ∨ (x = 33 ∧ k = 10) ∨ (x = 33 ∧ k = 11) from Or.inr (Or.inr (Or.inr (Or.inr (h9)))))))))))
            have k_30 : (gi σ3 1 1).toInt = (gi σ 1 1).toInt := congrArg Int32.toInt (FX_i cσ3 (show ¬ (1 = 34 ∨ 1 = 35 ∨ 1 = 36 ∨ 1 = 37 ∨ 1 = 38 ∨ 1 = 39 ∨ 1 = 40 ∨ 1 = 47 ∨ 1 = 48) from by omega) (show ¬ ((1 = 33 ∧ 1 = 1) ∨ (1 = 33 ∧ 1 = 3) ∨ (1 = 33 ∧ 1 = 9) ∨ (1 = 33 ∧ 1 = 10) ∨ (1 = 33 ∧ 1 = 11)) from by omega))
            have k_31 : (gi σ3 1 9).toInt = (gi σ 1 9).toInt := congrArg Int32.toInt (FX_i cσ3 (show ¬ (1 = 34 ∨ 1 = 35 ∨ 1 = 36 ∨ 1 = 37 ∨ 1 = 38 ∨ 1 = 39 ∨ 1 = 40 ∨ 1 = 47 ∨ 1 = 48) from by omega) (show ¬ ((1 = 33 ∧ 9 = 1) ∨ (1 = 33 ∧ 9 = 3) ∨ (1 = 33 ∧ 9 = 9) ∨ (1 = 33 ∧ 9 = 10) ∨ (1 = 33 ∧ 9 = 11)) from by omega))
            have tR9 : TR σ3 x2.toInt := TR_fx (by first | with_reducible assumption | assumption) cσ3 (by simp) (by intro k; simp)
            refine ⟨?_, ?_⟩
            · intro q_32
              replace H := f_t q_32 H
              have w_33 := Int32.toInt_lt r4
              have w_34 := Int32.le_toInt r4
              have w_35 := Int32.toInt_lt x3
              have w_36 := Int32.le_toInt x3
              have b_37 : r4.toInt ≤ x3.toInt := Int32.le_iff_toInt_le.mp q_32
              refine kF_X11_triesNextOrder  mσ3  (by omega) (by omega) (by first | with_reducible assumption | with_reducible rfl | omega | assumption | rfl) (fun r7 σ6 mσ6 cσ6 plσ6 phσ6 (pσ6_0 : TR σ6 x2.toInt) hσ6 => ?_)
              replace H := f_b hσ6 H
              have fσ6 : FX (fun id => id = 34 ∨ id = 35 ∨ id = 36 ∨ id = 37 ∨ id = 38 ∨ id = 39 ∨ id = 40 ∨ id = 47 ∨ id = 48 ∨ id = 66 ∨ id = 67) (fun id k => (id = 33 ∧ k = 1) ∨ (id = 33 ∧ k = 3) ∨ (id = 33 ∧ k = 9) ∨ (id = 33 ∧ k = 10) ∨ (id = 33 ∧ k = 11)) σ0 σ6 := FX_tr fσ3 cσ6 (fun x (h9 : x = 66) => (show x = 34 ∨ x = 35 ∨ x = 36 ∨ x = 37 ∨ x = 38 ∨ x = 39 ∨ x = 40 ∨ x = 47 ∨ x = 48 ∨ x = 66 ∨ x = 67 from Or.inr (Or.inr (Or.inr (Or.inr (Or.inr (Or.inr (Or.inr (Or.inr (Or.inr (Or.inl (h9)))))))))))) (fun _ _ h9 => h9.elim)
              have k_38 : (gi σ6 1 1).toInt = (gi σ3 1 1).toInt := congrArg Int32.toInt (FX_i cσ6 (show ¬ (1 = 66) from by omega) id)
              have k_39 : (gi σ6 1 9).toInt = (gi σ3 1 9).toInt := congrArg Int32.toInt (FX_i cσ6 (show ¬ (1 = 66) from by omega) id)
              have nσ6_1 : NN σ6 1 := NN_fx nσ3_1 cσ6 (show ¬ (1 = 66) from by omega) (show ¬ (2 = 66) from by omega) (show ¬ (3 = 66) from by omega) id id (fun _ => id) (fun _ => id)
              intro v8 ev8
              replace H := f_l ev8 H
              have t_40 : (x5 + (1 : Int32)).toInt = x5.toInt + 1 := i_add (x := x5) (y := (1 : Int32)) (by show (_ : Int) ≤ x5.toInt + 1; omega) (by show x5.toInt + 1 ≤ (_ : Int); omega)
              have t_41 : v8.toInt = (x5 + (1 : Int32)).toInt := congrArg Int32.toInt ev8
              exact ih40 x1 x2 x3 r7 v8 σ6 mσ6 fσ6 nσ6_1 (by omega) (by omega) (by omega) (by omega) (by omega) (by omega) (by first | with_reducible assumption | with_reducible rfl | omega | assumption | rfl) (by first | assumption | exact fun j hj => i1 j (by omega)) H (by omega)
            · intro q_32
              replace H := f_f q_32 H
              have w_42 := Int32.toInt_lt r4
              have w_43 := Int32.le_toInt r4
              have w_44 := Int32.toInt_lt x3
              have w_45 := Int32.le_toInt x3
              have b_46 : ¬ r4.toInt ≤ x3.toInt := fun h9 => q_32 (Int32.le_iff_toInt_le.mpr h9)
              have z_47 : (0 : Int32).toInt = 0 := rfl
              have z_48 := cl_eq (x := (0 : Int32)) (by first | decide | omega)
              have z_49 := cl_eq (x := (0 : Int32)) (by first | decide | omega)
              have z_50 := cl_eq (x := x2) (by first | decide | omega)
              refine ⟨⟨(fun h9 => by have h8 := Int32.lt_iff_toInt_lt.mp h9; have h7 : (0 : Int32).toInt = 0 := rfl; omega), (fun h9 => by have h8 := Int32.lt_iff_toInt_lt.mp h9; have h7 : (0 : Int32).toInt = 0 := rfl; omega), (fun h9 => by have h8 := Int32.lt_iff_toInt_lt.mp h9; have h7 : (0 : Int32).toInt = 0 := rfl; omega), by omega, by omega⟩, ?_⟩
              intro σ9 eσ9
              replace H := f_l eσ9 H
              have mσ9 : XI (mV M) σ9 := by rw [eσ9]; exact XIs_sia mσ3 (fun k lo hi q => by have q : (none : Option (Int × Int)) = some (lo, hi) := q; cases q)
              have fσ9 : FX (fun id => id = 34 ∨ id = 35 ∨ id = 36 ∨ id = 37 ∨ id = 38 ∨ id = 39 ∨ id = 40 ∨ id = 47 ∨ id = 48 ∨ id = 66 ∨ id = 67) (fun id k => (id = 33 ∧ k = 1) ∨ (id = 33 ∧ k = 3) ∨ (id = 33 ∧ k = 9) ∨ (id = 33 ∧ k = 10) ∨ (id = 33 ∧ k = 11)) σ0 σ9 := by rw [eσ9]; exact FX_sia fσ3 ((show 67 = 34 ∨ 67 = 35 ∨ 67 = 36 ∨ 67 = 37 ∨ 67 = 38 ∨ 67 = 39 ∨ 67 = 40 ∨ 67 = 47 ∨ 67 = 48 ∨ 67 = 66 ∨ 67 = 67 from Or.inr (Or.inr (Or.inr (Or.inr (Or.inr (Or.inr (Or.inr (Or.inr (Or.inr (Or.inr (rfl))))))))))))
              have k_51 : (gi σ9 1 1).toInt = (gi σ3 1 1).toInt := by rw [eσ9, gi_sia, if_neg (by omega)]
              have k_52 : (gi σ9 1 9).toInt = (gi σ3 1 9).toInt := by rw [eσ9, gi_sia, if_neg (by omega)]
              have nσ9_1 : NN σ9 1 := NN_fx nσ3_1 (show FX (fun id => id = 67) (fun _ _ => False) σ3 σ9 from by rw [eσ9]; exact FX_sia FX_rf rfl) (by omega) (by omega) (by omega) id id (fun _ => id) (fun _ => id)
              have tR9 : TR σ9 x2.toInt := by rw [eσ9]; exact TR_sia (by first | with_reducible assumption | assumption) (by decide +kernel)
              refine kF_X11_triesNextOrder  mσ9  (by omega) (by omega) (by first | with_reducible assumption | with_reducible rfl | omega | assumption | rfl) (fun r11 σ10 mσ10 cσ10 plσ10 phσ10 (pσ10_0 : TR σ10 x2.toInt) hσ10 => ?_)
              replace H := f_b hσ10 H
              have fσ10 : FX (fun id => id = 34 ∨ id = 35 ∨ id = 36 ∨ id = 37 ∨ id = 38 ∨ id = 39 ∨ id = 40 ∨ id = 47 ∨ id = 48 ∨ id = 66 ∨ id = 67) (fun id k => (id = 33 ∧ k = 1) ∨ (id = 33 ∧ k = 3) ∨ (id = 33 ∧ k = 9) ∨ (id = 33 ∧ k = 10) ∨ (id = 33 ∧ k = 11)) σ0 σ10 := FX_tr fσ9 cσ10 (fun x (h9 : x = 66) => (show x = 34 ∨ x = 35 ∨ x = 36 ∨ x = 37 ∨ x = 38 ∨ x = 39 ∨ x = 40 ∨ x = 47 ∨ x = 48 ∨ x = 66 ∨ x = 67 from Or.inr (Or.inr (Or.inr (Or.inr (Or.inr (Or.inr (Or.inr (Or.inr (Or.inr (Or.inl (h9)))))))))))) (fun _ _ h9 => h9.elim)
              have k_53 : (gi σ10 1 1).toInt = (gi σ9 1 1).toInt := congrArg Int32.toInt (FX_i cσ10 (show ¬ (1 = 66) from by omega) id)
              have k_54 : (gi σ10 1 9).toInt = (gi σ9 1 9).toInt := congrArg Int32.toInt (FX_i cσ10 (show ¬ (1 = 66) from by omega) id)
              have nσ10_1 : NN σ10 1 := NN_fx nσ9_1 cσ10 (show ¬ (1 = 66) from by omega) (show ¬ (2 = 66) from by omega) (show ¬ (3 = 66) from by omega) id id (fun _ => id) (fun _ => id)
              intro v12 ev12
              replace H := f_l ev12 H
              have t_55 : (x5 + (1 : Int32)).toInt = x5.toInt + 1 := i_add (x := x5) (y := (1 : Int32)) (by show (_ : Int) ≤ x5.toInt + 1; omega) (by show x5.toInt + 1 ≤ (_ : Int); omega)
              have t_56 : v12.toInt = (x5 + (1 : Int32)).toInt := congrArg Int32.toInt ev12
              exact ih40 x1 x2 r4 r11 v12 σ10 mσ10 fσ10 nσ10_1 (by omega) (by omega) (by omega) (by omega) (by omega) (by omega) (by first | with_reducible assumption | with_reducible rfl | omega | assumption | rfl) (by first | assumption | exact fun j hj => i1 j (by omega)) H (by omega)
  obtain ⟨U14, U40⟩ := T 900
  have f0 : FX (fun id => id = 34 ∨ id = 35 ∨ id = 36 ∨ id = 37 ∨ id = 38 ∨ id = 39 ∨ id = 40 ∨ id = 47 ∨ id = 48 ∨ id = 66 ∨ id = 67) (fun id k => (id = 33 ∧ k = 1) ∨ (id = 33 ∧ k = 3) ∨ (id = 33 ∧ k = 9) ∨ (id = 33 ∧ k = 10) ∨ (id = 33 ∧ k = 11)) σ0 σ0 := FX_rf
  have t_57 := XI_c1 m0 (id := 1) (k := 1) (lim_C0_1 (Or.inl rfl))
  have t_58 := XI_c1 m0 (id := 1) (k := 9) (lim_C0_9 (Or.inl rfl))
  have H := H0
  unfold F_X11_findsBestOrder at H
  refine s_X11_findsBestOrder_0 C hN  ?_
  have z_59 : (5 : Int32).toInt = 5 := rfl
  intro v1 ev1
  replace H := f_l ev1 H
  have t_60 := jmin_b (gi σ0 1 1) (5 : Int32)
  have t_61 : v1.toInt = (jmin (gi σ0 1 1) (5 : Int32)).toInt := congrArg Int32.toInt ev1
  have z_62 : (0 : Int32).toInt = 0 := rfl
  exact U14 a1 v1 (0 : Int32) σ0 m0 f0 nn_1 (by omega) (by omega) (by omega) (by omega) (by omega) (by omega) (by first | with_reducible assumption | with_reducible rfl | omega | assumption | rfl) (by first | exact TRp_step (by first | with_reducible assumption | assumption) (by first | with_reducible assumption | assumption) (by omega) (by omega) (by omega) | (intro j hj; exfalso; omega)) H (by omega)
set_option maxRecDepth 100000 in
set_option maxHeartbeats 4000000 in
theorem kF_X11_order {l : Launch} {V : Vx} {a1 : Int32} {a2 : Int32} {σ0 : Sg} {Qk : Int32 → Sg → Prop} (m0 : XI V σ0) (nn_1 : NN σ0 1) (pre0 : (gi σ0 1 9).toInt ≤ 9999) (h9ret : ∀ (r : Int32) (σ' : Sg), XI V σ' → FX (fun id => id = 34 ∨ id = 35 ∨ id = 36 ∨ id = 37 ∨ id = 38 ∨ id = 39 ∨ id = 40 ∨ id = 47 ∨ id = 48 ∨ id = 66 ∨ id = 67) (fun id k => (id = 33 ∧ k = 1) ∨ (id = 33 ∧ k = 3) ∨ (id = 33 ∧ k = 9) ∨ (id = 33 ∧ k = 10) ∨ (id = 33 ∧ k = 11)) σ0 σ' → (NN σ' 1) → (F_X11_order a1 a2 σ0 = (r, σ')) → Qk r σ') : K_X11_order l V a1 a2 σ0 Qk := by
  refine e_X11_order (fun M hl hV hN C => ?_)
  subst hl
  subst hV
  obtain ⟨R9, H0⟩ : ∃ R9, F_X11_order a1 a2 σ0 = R9 := ⟨_, rfl⟩
  have f0 : FX (fun id => id = 34 ∨ id = 35 ∨ id = 36 ∨ id = 37 ∨ id = 38 ∨ id = 39 ∨ id = 40 ∨ id = 47 ∨ id = 48 ∨ id = 66 ∨ id = 67) (fun id k => (id = 33 ∧ k = 1) ∨ (id = 33 ∧ k = 3) ∨ (id = 33 ∧ k = 9) ∨ (id = 33 ∧ k = 10) ∨ (id = 33 ∧ k = 11)) σ0 σ0 := FX_rf
  have t_1 := XI_c1 m0 (id := 1) (k := 1) (lim_C0_1 (Or.inl rfl))
  have t_2 := XI_c1 m0 (id := 1) (k := 9) (lim_C0_9 (Or.inl rfl))
  have H := H0
  unfold F_X11_order at H
  refine s_X11_order_0 C hN  ?_
  refine ⟨?_, ?_⟩
  · intro q_3
    replace H := f_t q_3 H
    have w_4 := Int32.toInt_lt a2
    have w_5 := Int32.le_toInt a2
    have b_6 : a2.toInt < (-1) := Int32.lt_iff_toInt_lt.mp q_3
    have z_7 : (-1 : Int32).toInt = -1 := rfl
    exact h9ret (-1 : Int32) σ0 m0 f0 nn_1 (H0.trans H.symm)
  · intro q_3
    replace H := f_f q_3 H
    have w_8 := Int32.toInt_lt a2
    have w_9 := Int32.le_toInt a2
    have b_10 : ¬ a2.toInt < (-1) := fun h9 => q_3 (Int32.lt_iff_toInt_lt.mpr h9)
    refine ⟨?_, ?_⟩
    · intro q_11
      replace H := f_t q_11 H
      have b_12 : a2.toInt ≤ 4 := Int32.le_iff_toInt_le.mp q_11
      refine ⟨?_, ?_⟩
      · intro q_13
        replace H := f_t q_13 H
        have w_14 := Int32.toInt_lt a1
        have w_15 := Int32.le_toInt a1
        have b_16 : a1.toInt < 1 := Int32.lt_iff_toInt_lt.mp q_13
        have z_17 : (-2 : Int32).toInt = -2 := rfl
        exact h9ret (-2 : Int32) σ0 m0 f0 nn_1 (H0.trans H.symm)
      · intro q_13
        replace H := f_f q_13 H
        have w_18 := Int32.toInt_lt a1
        have w_19 := Int32.le_toInt a1
        have b_20 : ¬ a1.toInt < 1 := fun h9 => q_13 (Int32.lt_iff_toInt_lt.mpr h9)
        refine ⟨?_, ?_⟩
        · intro q_21
          replace H := f_t q_21 H
          have b_22 : a1.toInt ≤ 12 := Int32.le_iff_toInt_le.mp q_21
          refine ⟨?_, ?_⟩
          · intro q_23
            replace H := f_t q_23 H
            have b_24 : (gi σ0 1 1).toInt ≤ 5 := Int32.le_iff_toInt_le.mp q_23
            refine ⟨?_, ?_⟩
            · intro q_25
              replace H := f_t q_25 H
              have b_26 : a2.toInt < (gi σ0 1 1).toInt := Int32.lt_iff_toInt_lt.mp q_25
              refine kF_X11_findsBestOrder  m0 nn_1 (by omega) (by omega) (by first | with_reducible assumption | with_reducible rfl | omega | assumption | rfl) (by first | with_reducible assumption | with_reducible rfl | omega | assumption | rfl) (fun r8 σ7 mσ7 cσ7 nσ7_1 hσ7 => ?_)
              replace H := f_b hσ7 H
              have fσ7 : FX (fun id => id = 34 ∨ id = 35 ∨ id = 36 ∨ id = 37 ∨ id = 38 ∨ id = 39 ∨ id = 40 ∨ id = 47 ∨ id = 48 ∨ id = 66 ∨ id = 67) (fun id k => (id = 33 ∧ k = 1) ∨ (id = 33 ∧ k = 3) ∨ (id = 33 ∧ k = 9) ∨ (id = 33 ∧ k = 10) ∨ (id = 33 ∧ k = 11)) σ0 σ7 := FX_tr f0 cσ7 (fun x (h9 : x = 34 ∨ x = 35 ∨ x = 36 ∨ x = 37 ∨ x = 38 ∨ x = 39 ∨ x = 40 ∨ x = 47 ∨ x = 48 ∨ x = 66 ∨ x = 67) => h9.elim (fun e9 => (show x = 34 ∨ x = 35 ∨ x = 36 ∨ x = 37 ∨ x = 38 ∨ x = 39 ∨ x = 40 ∨ x = 47 ∨ x = 48 ∨ x = 66 ∨ x = 67 from Or.inl (e9))) (fun h9 => h9.elim (fun e9 => (show x = 34 ∨ x = 35 ∨ x = 36 ∨ x = 37 ∨ x = 38 ∨ x = 39 ∨ x = 40 ∨ x = 47 ∨ x = 48 ∨ x = 66 ∨ x = 67 from Or.inr (Or.inl (e9)))) (fun h9 => h9.elim (fun e9 => (show x = 34 ∨ x = 35 ∨ x = 36 ∨ x = 37 ∨ x = 38 ∨ x = 39 ∨ x = 40 ∨ x = 47 ∨ x = 48 ∨ x = 66 ∨ x = 67 from Or.inr (Or.inr (Or.inl (e9))))) (fun h9 => h9.elim (fun e9 => (show x = 34 ∨ x = 35 ∨ x = 36 ∨ x = 37 ∨ x = 38 ∨ x = 39 ∨ x = 40 ∨ x = 47 ∨ x = 48 ∨ x = 66 ∨ x = 67 from Or.inr (Or.inr (Or.inr (Or.inl (e9)))))) (fun h9 => h9.elim (fun e9 => (show x = 34 ∨ x = 35 ∨ x = 36 ∨ x = 37 ∨ x = 38 ∨ x = 39 ∨ x = 40 ∨ x = 47 ∨ x = 48 ∨ x = 66 ∨ x = 67 from Or.inr (Or.inr (Or.inr (Or.inr (Or.inl (e9))))))) (fun h9 => h9.elim (fun e9 => (show x = 34 ∨ x = 35 ∨ x = 36 ∨ x = 37 ∨ x = 38 ∨ x = 39 ∨ x = 40 ∨ x = 47 ∨ x = 48 ∨ x = 66 ∨ x = 67 from Or.inr (Or.inr (Or.inr (Or.inr (Or.inr (Or.inl (e9)))))))) (fun h9 => h9.elim (fun e9 => (show x = 34 ∨ x = 35 ∨ x = 36 ∨ x = 37 ∨ x = 38 ∨ x = 39 ∨ x = 40 ∨ x = 47 ∨ x = 48 ∨ x = 66 ∨ x = 67 from Or.inr (Or.inr (Or.inr (Or.inr (Or.inr (Or.inr (Or.inl (e9))))))))) (fun h9 => h9.elim (fun e9 => (show x = 34 ∨ x = 35 ∨ x = 36 ∨ x = 37 ∨ x = 38 ∨ x = 39 ∨ x = 40 ∨ x = 47 ∨ x = 48 ∨ x = 66 ∨ x = 67 from Or.inr (Or.inr (Or.inr (Or.inr (Or.inr (Or.inr (Or.inr (Or.inl (e9)))))))))) (fun h9 => h9.elim (fun e9 => (show x = 34 ∨ x = 35 ∨ x = 36 ∨ x = 37 ∨ x = 38 ∨ x = 39 ∨ x = 40 ∨ x = 47 ∨ x = 48 ∨ x = 66 ∨ x = 67 from Or.inr (Or.inr (Or.inr (Or.inr (Or.inr (Or.inr (Or.inr (Or.inr (Or.inl (e9))))))))))) (fun h9 => h9.elim (fun e9 => (show x = 34 ∨ x = 35 ∨ x = 36 ∨ x = 37 ∨ x = 38 ∨ x = 39 ∨ x = 40 ∨ x = 47 ∨ x = 48 ∨ x = 66 ∨ x = 67 from Or.inr (Or.inr (Or.inr (Or.inr (Or.inr (Or.inr (Or.inr (Or.inr (Or.inr (Or.inl (e9)))))))))))) (fun h9 => (show x = 34 ∨ x = 35 ∨ x = 36 ∨ x = 37 ∨ x = 38 ∨ x = 39 ∨ x = 40 ∨ x = 47 ∨ x = 48 ∨ x = 66 ∨ x = 67 from Or.inr (Or.inr (Or.inr (Or.inr (Or.inr (Or.inr (Or.inr (Or.inr (Or.inr (Or.inr (h9)))))))))))))))))))))) (fun x k (h9 : (x = 33 ∧ k = 1) ∨ (x = 33 ∧ k = 3) ∨ (x = 33 ∧ k = 9) ∨ (x = 33 ∧ k = 10) ∨ (x = 33 ∧ k = 11)) => (show (x = 34 ∨ x = 35 ∨ x = 36 ∨ x = 37 ∨ x = 38 ∨ x = 39 ∨ x = 40 ∨ x = 47 ∨ x = 48 ∨ x = 66 ∨ x = 67) ∨ ((x = 33 ∧ k = 1) ∨ (x = 33 ∧ k = 3) ∨ (x = 33 ∧ k = 9) ∨ (x = 33 ∧ k = 10) ∨ (x = 33 ∧ k = 11)) from h9.elim (fun e9 => Or.inr (show (x = 33 ∧ k = 1) ∨ (x = 33 ∧ k = 3) ∨ (x = 33 ∧ k = 9) ∨ (x = 33 ∧ k = 10) ∨ (x = 33 ∧ k = 11) from Or.inl (e9))) (fun h9 => h9.elim (fun e9 => Or.inr (show (x = 33 ∧ k = 1) ∨ (x = 33 ∧ k = 3) ∨ (x = 33 ∧ k = 9) ∨ (x = 33 ∧ k = 10) ∨ (x = 33 ∧ k = 11) from Or.inr (Or.inl (e9)))) (fun h9 => h9.elim (fun e9 => Or.inr (show (x = 33 ∧ k = 1) ∨ (x = 33 ∧ k = 3) ∨ (x = 33 ∧ k = 9) ∨ (x = 33 ∧ k = 10) ∨ (x = 33 ∧ k = 11) from Or.inr (Or.inr (Or.inl (e9))))) (fun h9 => h9.elim (fun e9 => Or.inr (show (x = 33 ∧ k = 1) ∨ (x = 33 ∧ k = 3) ∨ (x = 33 ∧ k = 9) ∨ (x = 33 ∧ k = 10) ∨ (x = 33 ∧ k = 11) from Or.inr (Or.inr (Or.inr (Or.inl (e9)))))) (fun h9 => Or.inr (show (x = 33 ∧ k = 1) ∨ (x = 33 ∧ k = 3) ∨ (x = 33 ∧ k = 9) ∨ (x = 33 ∧ k = 10) ∨ (x = 33 ∧ k = 11) from Or.inr (Or.inr (Or.inr (Or.inr (h9)))))))))))
              have k_27 : (gi σ7 1 1).toInt = (gi σ0 1 1).toInt := congrArg Int32.toInt (FX_i cσ7 (show ¬ (1 = 34 ∨ 1 = 35 ∨ 1 = 36 ∨ 1 = 37 ∨ 1 = 38 ∨ 1 = 39 ∨ 1 = 40 ∨ 1 = 47 ∨ 1 = 48 ∨ 1 = 66 ∨ 1 = 67) from by omega) (show ¬ ((1 = 33 ∧ 1 = 1) ∨ (1 = 33 ∧ 1 = 3) ∨ (1 = 33 ∧ 1 = 9) ∨ (1 = 33 ∧ 1 = 10) ∨ (1 = 33 ∧ 1 = 11)) from by omega))
              have k_28 : (gi σ7 1 9).toInt = (gi σ0 1 9).toInt := congrArg Int32.toInt (FX_i cσ7 (show ¬ (1 = 34 ∨ 1 = 35 ∨ 1 = 36 ∨ 1 = 37 ∨ 1 = 38 ∨ 1 = 39 ∨ 1 = 40 ∨ 1 = 47 ∨ 1 = 48 ∨ 1 = 66 ∨ 1 = 67) from by omega) (show ¬ ((1 = 33 ∧ 9 = 1) ∨ (1 = 33 ∧ 9 = 3) ∨ (1 = 33 ∧ 9 = 9) ∨ (1 = 33 ∧ 9 = 10) ∨ (1 = 33 ∧ 9 = 11)) from by omega))
              refine ⟨?_, ?_⟩
              · intro q_29
                replace H := f_t q_29 H
                have b_30 : (0 : Int) ≤ a2.toInt := Int32.le_iff_toInt_le.mp q_29
                have hv_31 : vp_in a2 5 := vp_in_iff.mpr ⟨by omega, by omega⟩
                refine ⟨hv_31, ?_⟩
                exact h9ret (gi σ7 67 a2.toNatClampNeg) σ7 mσ7 fσ7 nσ7_1 (H0.trans H.symm)
              · intro q_29
                replace H := f_f q_29 H
                have b_32 : ¬ (0 : Int) ≤ a2.toInt := fun h9 => q_29 (Int32.le_iff_toInt_le.mpr h9)
                exact h9ret r8 σ7 mσ7 fσ7 nσ7_1 (H0.trans H.symm)
            · intro q_25
              replace H := f_f q_25 H
              have b_33 : ¬ a2.toInt < (gi σ0 1 1).toInt := fun h9 => q_25 (Int32.lt_iff_toInt_lt.mpr h9)
              have z_34 : (-5 : Int32).toInt = -5 := rfl
              exact h9ret (-5 : Int32) σ0 m0 f0 nn_1 (H0.trans H.symm)
          · intro q_23
            replace H := f_f q_23 H
            have b_35 : ¬ (gi σ0 1 1).toInt ≤ 5 := fun h9 => q_23 (Int32.le_iff_toInt_le.mpr h9)
            have z_36 : (-9 : Int32).toInt = -9 := rfl
            exact h9ret (-9 : Int32) σ0 m0 f0 nn_1 (H0.trans H.symm)
        · intro q_21
          replace H := f_f q_21 H
          have b_37 : ¬ a1.toInt ≤ 12 := fun h9 => q_21 (Int32.le_iff_toInt_le.mpr h9)
          have z_38 : (-2 : Int32).toInt = -2 := rfl
          exact h9ret (-2 : Int32) σ0 m0 f0 nn_1 (H0.trans H.symm)
    · intro q_11
      replace H := f_f q_11 H
      have b_39 : ¬ a2.toInt ≤ 4 := fun h9 => q_11 (Int32.le_iff_toInt_le.mpr h9)
      have z_40 : (-1 : Int32).toInt = -1 := rfl
      exact h9ret (-1 : Int32) σ0 m0 f0 nn_1 (H0.trans H.symm)
set_option maxRecDepth 100000 in
set_option maxHeartbeats 4000000 in
theorem kF_X11_planned {l : Launch} {V : Vx} {σ0 : Sg} {Qk : Int32 → Sg → Prop} (m0 : XI V σ0) (nn_1 : NN σ0 1) (pre0 : (gi σ0 1 9).toInt ≤ 9999) (h9ret : ∀ (r : Int32) (σ' : Sg), XI V σ' → FX (fun id => id = 34 ∨ id = 35 ∨ id = 36 ∨ id = 37 ∨ id = 38 ∨ id = 39 ∨ id = 40 ∨ id = 47 ∨ id = 48) (fun id k => (id = 33 ∧ k = 1) ∨ (id = 33 ∧ k = 3) ∨ (id = 33 ∧ k = 9) ∨ (id = 33 ∧ k = 10) ∨ (id = 33 ∧ k = 11)) σ0 σ' → (NN σ' 1) → (F_X11_planned σ0 = (r, σ')) → Qk r σ') : K_X11_planned l V σ0 Qk := by
  refine e_X11_planned (fun M hl hV hN C => ?_)
  subst hl
  subst hV
  obtain ⟨R9, H0⟩ : ∃ R9, F_X11_planned σ0 = R9 := ⟨_, rfl⟩
  have T : ∀ n : Nat, (∀ (x1 : Int32) (σ : Sg), XI (mV M) σ → FX (fun id => id = 34 ∨ id = 35 ∨ id = 36 ∨ id = 37 ∨ id = 38 ∨ id = 39 ∨ id = 40 ∨ id = 47 ∨ id = 48) (fun id k => (id = 33 ∧ k = 1) ∨ (id = 33 ∧ k = 3) ∨ (id = 33 ∧ k = 9) ∨ (id = 33 ∧ k = 10) ∨ (id = 33 ∧ k = 11)) σ0 σ → NN σ 1 → NN σ 33 → (0 ≤ x1.toInt) → (x1.toInt ≤ 10) → ((gi σ 33 9).toInt ≤ 9999 + x1.toInt) → (LF_X11_planned n x1 σ = R9) → (11 - x1.toInt).toNat < n → PS M 13 [(0, .ref 0), (1, .int x1)] [] σ (0, 0)) := by
    intro n
    induction n with
    | zero => exact fun _ _ _ _ _ _ _ _ _ _ h8 => absurd h8 (Nat.not_lt_zero _)
    | succ n ih =>
      have ih13 := ih
      · intro x1 σ mσ fσ nσ_1 nσ_33 lx1 ux1 i0 H hmu
        replace H : LB_X11_planned_13 (LF_X11_planned n) x1 σ = R9 := H
        unfold LB_X11_planned_13 at H
        have k_1 : (gi σ 1 1).toInt = (gi σ0 1 1).toInt := congrArg Int32.toInt (FX_i fσ (show ¬ (1 = 34 ∨ 1 = 35 ∨ 1 = 36 ∨ 1 = 37 ∨ 1 = 38 ∨ 1 = 39 ∨ 1 = 40 ∨ 1 = 47 ∨ 1 = 48) from by omega) (show ¬ ((1 = 33 ∧ 1 = 1) ∨ (1 = 33 ∧ 1 = 3) ∨ (1 = 33 ∧ 1 = 9) ∨ (1 = 33 ∧ 1 = 10) ∨ (1 = 33 ∧ 1 = 11)) from by omega))
        have t_2 := XI_c1 mσ (id := 1) (k := 1) (lim_C0_1 (Or.inl rfl))
        have k_3 : (gi σ 1 9).toInt = (gi σ0 1 9).toInt := congrArg Int32.toInt (FX_i fσ (show ¬ (1 = 34 ∨ 1 = 35 ∨ 1 = 36 ∨ 1 = 37 ∨ 1 = 38 ∨ 1 = 39 ∨ 1 = 40 ∨ 1 = 47 ∨ 1 = 48) from by omega) (show ¬ ((1 = 33 ∧ 9 = 1) ∨ (1 = 33 ∧ 9 = 3) ∨ (1 = 33 ∧ 9 = 9) ∨ (1 = 33 ∧ 9 = 10) ∨ (1 = 33 ∧ 9 = 11)) from by omega))
        have t_4 := XI_c1 mσ (id := 1) (k := 9) (lim_C0_9 (Or.inl rfl))
        have k_5 : (gi σ 11 1).toInt = (gi σ0 11 1).toInt := congrArg Int32.toInt (FX_i fσ (show ¬ (11 = 34 ∨ 11 = 35 ∨ 11 = 36 ∨ 11 = 37 ∨ 11 = 38 ∨ 11 = 39 ∨ 11 = 40 ∨ 11 = 47 ∨ 11 = 48) from by omega) (show ¬ ((11 = 33 ∧ 1 = 1) ∨ (11 = 33 ∧ 1 = 3) ∨ (11 = 33 ∧ 1 = 9) ∨ (11 = 33 ∧ 1 = 10) ∨ (11 = 33 ∧ 1 = 11)) from by omega))
        have t_6 := XI_c1 mσ (id := 11) (k := 1) (lim_C10_1 (Or.inl rfl))
        have t_7 := XI_c1 mσ (id := 33) (k := 9) (lim_C0_9 (Or.inr (Or.inr rfl)))
        refine s_X11_planned_13 C hN  ?_
        refine ⟨?_, ?_⟩
        · intro q_8
          replace H := f_t q_8 H
          have b_9 : (gi σ 11 1).toInt ≤ x1.toInt := Int32.le_iff_toInt_le.mp q_8
          refine kF_X1_allAt (Or.inr (Or.inr rfl)) mσ   (fun r3 σ2 mσ2 cσ2 hσ2 => ?_)
          obtain rfl := FX_nil cσ2
          replace H := f_b hσ2 H
          exact h9ret r3 σ mσ fσ nσ_1 (H0.trans H.symm)
        · intro q_8
          replace H := f_f q_8 H
          have b_10 : ¬ (gi σ 11 1).toInt ≤ x1.toInt := fun h9 => q_8 (Int32.le_iff_toInt_le.mpr h9)
          have hv_11 : vp_in x1 10 := vp_in_iff.mpr ⟨by omega, by omega⟩
          refine ⟨hv_11, ?_⟩
          intro v5 ev5
          replace H := f_l ev5 H
          refine ⟨?_, ?_⟩
          · intro q_12
            replace H := f_f q_12 H
            have w_13 := Int32.toInt_lt v5
            have w_14 := Int32.le_toInt v5
            have b_15 : ¬ v5.toInt = 0 := fun h9 => q_12 (Int32.toInt_inj.mp h9)
            refine ⟨?_, ?_⟩
            · intro q_16
              replace H := f_f q_16 H
              have b_17 : ¬ v5.toInt = 1 := fun h9 => q_16 (Int32.toInt_inj.mp h9)
              have z_18 : (1 : Int32).toInt = 1 := rfl
              refine kF_X1_rests (Or.inr (Or.inr rfl)) mσ nσ_33 (by omega) (by omega) (by first | with_reducible assumption | with_reducible rfl | omega | assumption | rfl) (fun σ8 mσ8 cσ8 nσ8_33 (pσ8_0 : (gi σ8 33 9).toInt = (gi σ 33 9).toInt + (1 : Int)) hσ8 => ?_)
              replace H := f_v hσ8 H
              have fσ8 : FX (fun id => id = 34 ∨ id = 35 ∨ id = 36 ∨ id = 37 ∨ id = 38 ∨ id = 39 ∨ id = 40 ∨ id = 47 ∨ id = 48) (fun id k => (id = 33 ∧ k = 1) ∨ (id = 33 ∧ k = 3) ∨ (id = 33 ∧ k = 9) ∨ (id = 33 ∧ k = 10) ∨ (id = 33 ∧ k = 11)) σ0 σ8 := FX_tr fσ cσ8 (fun x (h9 : x = 38 ∨ x = 39) => h9.elim (fun e9 => (show x = 34 ∨ x = 35 ∨ x = 36 ∨ x = 37 ∨ x = 38 ∨ x = 39 ∨ x = 40 ∨ x = 47 ∨ x = 48 from Or.inr (Or.inr (Or.inr (Or.inr (Or.inl (e9))))))) (fun h9 => (show x = 34 ∨ x = 35 ∨ x = 36 ∨ x = 37 ∨ x = 38 ∨ x = 39 ∨ x = 40 ∨ x = 47 ∨ x = 48 from Or.inr (Or.inr (Or.inr (Or.inr (Or.inr (Or.inl (h9))))))))) (fun x k (h9 : (x = 33 ∧ k = 9)) => (show (x = 34 ∨ x = 35 ∨ x = 36 ∨ x = 37 ∨ x = 38 ∨ x = 39 ∨ x = 40 ∨ x = 47 ∨ x = 48) ∨ ((x = 33 ∧ k = 1) ∨ (x = 33 ∧ k = 3) ∨ (x = 33 ∧ k = 9) ∨ (x = 33 ∧ k = 10) ∨ (x = 33 ∧ k = 11)) from Or.inr (show (x = 33 ∧ k = 1) ∨ (x = 33 ∧ k = 3) ∨ (x = 33 ∧ k = 9) ∨ (x = 33 ∧ k = 10) ∨ (x = 33 ∧ k = 11) from Or.inr (Or.inr (Or.inl (h9))))))
              have k_19 : (gi σ8 1 1).toInt = (gi σ 1 1).toInt := congrArg Int32.toInt (FX_i cσ8 (show ¬ (1 = 38 ∨ 1 = 39) from by omega) (show ¬ ((1 = 33 ∧ 1 = 9)) from by omega))
              have k_20 : (gi σ8 1 9).toInt = (gi σ 1 9).toInt := congrArg Int32.toInt (FX_i cσ8 (show ¬ (1 = 38 ∨ 1 = 39) from by omega) (show ¬ ((1 = 33 ∧ 9 = 9)) from by omega))
              have k_21 : (gi σ8 11 1).toInt = (gi σ 11 1).toInt := congrArg Int32.toInt (FX_i cσ8 (show ¬ (11 = 38 ∨ 11 = 39) from by omega) (show ¬ ((11 = 33 ∧ 1 = 9)) from by omega))
              have t_22 := XI_c1 mσ8 (id := 33) (k := 9) (lim_C0_9 (Or.inr (Or.inr rfl)))
              have nσ8_1 : NN σ8 1 := NN_fx nσ_1 cσ8 (show ¬ (1 = 38 ∨ 1 = 39) from by omega) (show ¬ (2 = 38 ∨ 2 = 39) from by omega) (show ¬ (3 = 38 ∨ 3 = 39) from by omega) (show ¬ ((1 = 33 ∧ 1 = 9)) from by omega) (show ¬ ((1 = 33 ∧ 3 = 9)) from by omega) (fun k (h9 : (2 = 33 ∧ k = 9)) => by omega) (fun k (h9 : (3 = 33 ∧ k = 9)) => by omega)
              intro v9 ev9
              replace H := f_l ev9 H
              have t_23 : (x1 + (1 : Int32)).toInt = x1.toInt + 1 := i_add (x := x1) (y := (1 : Int32)) (by show (_ : Int) ≤ x1.toInt + 1; omega) (by show x1.toInt + 1 ≤ (_ : Int); omega)
              have t_24 : v9.toInt = (x1 + (1 : Int32)).toInt := congrArg Int32.toInt ev9
              exact ih13 v9 σ8 mσ8 fσ8 nσ8_1 nσ8_33 (by omega) (by omega) (by first | with_reducible assumption | with_reducible rfl | omega | assumption | rfl) H (by omega)
            · intro q_16
              replace H := f_t q_16 H
              have b_25 : v5.toInt = 1 := congrArg Int32.toInt q_16
              refine kF_X1_whetsAll (Or.inr (Or.inr rfl)) mσ nσ_33 (by first | with_reducible assumption | with_reducible rfl | omega | assumption | rfl) (fun σ10 mσ10 cσ10 nσ10_33 (pσ10_0 : (gi σ10 33 9).toInt = (gi σ 33 9).toInt + 1) hσ10 => ?_)
              replace H := f_v hσ10 H
              have fσ10 : FX (fun id => id = 34 ∨ id = 35 ∨ id = 36 ∨ id = 37 ∨ id = 38 ∨ id = 39 ∨ id = 40 ∨ id = 47 ∨ id = 48) (fun id k => (id = 33 ∧ k = 1) ∨ (id = 33 ∧ k = 3) ∨ (id = 33 ∧ k = 9) ∨ (id = 33 ∧ k = 10) ∨ (id = 33 ∧ k = 11)) σ0 σ10 := FX_tr fσ cσ10 (fun x (h9 : x = 37 ∨ x = 38 ∨ x = 39) => h9.elim (fun e9 => (show x = 34 ∨ x = 35 ∨ x = 36 ∨ x = 37 ∨ x = 38 ∨ x = 39 ∨ x = 40 ∨ x = 47 ∨ x = 48 from Or.inr (Or.inr (Or.inr (Or.inl (e9)))))) (fun h9 => h9.elim (fun e9 => (show x = 34 ∨ x = 35 ∨ x = 36 ∨ x = 37 ∨ x = 38 ∨ x = 39 ∨ x = 40 ∨ x = 47 ∨ x = 48 from Or.inr (Or.inr (Or.inr (Or.inr (Or.inl (e9))))))) (fun h9 => (show x = 34 ∨ x = 35 ∨ x = 36 ∨ x = 37 ∨ x = 38 ∨ x = 39 ∨ x = 40 ∨ x = 47 ∨ x = 48 from Or.inr (Or.inr (Or.inr (Or.inr (Or.inr (Or.inl (h9)))))))))) (fun x k (h9 : (x = 33 ∧ k = 9)) => (show (x = 34 ∨ x = 35 ∨ x = 36 ∨ x = 37 ∨ x = 38 ∨ x = 39 ∨ x = 40 ∨ x = 47 ∨ x = 48) ∨ ((x = 33 ∧ k = 1) ∨ (x = 33 ∧ k = 3) ∨ (x = 33 ∧ k = 9) ∨ (x = 33 ∧ k = 10) ∨ (x = 33 ∧ k = 11)) from Or.inr (show (x = 33 ∧ k = 1) ∨ (x = 33 ∧ k = 3) ∨ (x = 33 ∧ k = 9) ∨ (x = 33 ∧ k = 10) ∨ (x = 33 ∧ k = 11) from Or.inr (Or.inr (Or.inl (h9))))))
              have k_26 : (gi σ10 1 1).toInt = (gi σ 1 1).toInt := congrArg Int32.toInt (FX_i cσ10 (show ¬ (1 = 37 ∨ 1 = 38 ∨ 1 = 39) from by omega) (show ¬ ((1 = 33 ∧ 1 = 9)) from by omega))
              have k_27 : (gi σ10 1 9).toInt = (gi σ 1 9).toInt := congrArg Int32.toInt (FX_i cσ10 (show ¬ (1 = 37 ∨ 1 = 38 ∨ 1 = 39) from by omega) (show ¬ ((1 = 33 ∧ 9 = 9)) from by omega))
              have k_28 : (gi σ10 11 1).toInt = (gi σ 11 1).toInt := congrArg Int32.toInt (FX_i cσ10 (show ¬ (11 = 37 ∨ 11 = 38 ∨ 11 = 39) from by omega) (show ¬ ((11 = 33 ∧ 1 = 9)) from by omega))
              have t_29 := XI_c1 mσ10 (id := 33) (k := 9) (lim_C0_9 (Or.inr (Or.inr rfl)))
              have nσ10_1 : NN σ10 1 := NN_fx nσ_1 cσ10 (show ¬ (1 = 37 ∨ 1 = 38 ∨ 1 = 39) from by omega) (show ¬ (2 = 37 ∨ 2 = 38 ∨ 2 = 39) from by omega) (show ¬ (3 = 37 ∨ 3 = 38 ∨ 3 = 39) from by omega) (show ¬ ((1 = 33 ∧ 1 = 9)) from by omega) (show ¬ ((1 = 33 ∧ 3 = 9)) from by omega) (fun k (h9 : (2 = 33 ∧ k = 9)) => by omega) (fun k (h9 : (3 = 33 ∧ k = 9)) => by omega)
              intro v11 ev11
              replace H := f_l ev11 H
              have t_30 : (x1 + (1 : Int32)).toInt = x1.toInt + 1 := i_add (x := x1) (y := (1 : Int32)) (by show (_ : Int) ≤ x1.toInt + 1; omega) (by show x1.toInt + 1 ≤ (_ : Int); omega)
              have t_31 : v11.toInt = (x1 + (1 : Int32)).toInt := congrArg Int32.toInt ev11
              exact ih13 v11 σ10 mσ10 fσ10 nσ10_1 nσ10_33 (by omega) (by omega) (by first | with_reducible assumption | with_reducible rfl | omega | assumption | rfl) H (by omega)
          · intro q_12
            replace H := f_t q_12 H
            have w_32 := Int32.toInt_lt v5
            have w_33 := Int32.le_toInt v5
            have b_34 : v5.toInt = 0 := congrArg Int32.toInt q_12
            refine kF_X1_goesMinute (Or.inr (Or.inr rfl)) mσ nσ_33 (by first | with_reducible assumption | with_reducible rfl | omega | assumption | rfl) (fun r13 σ12 mσ12 cσ12 nσ12_33 (pσ12_0 : (gi σ12 33 9).toInt = (gi σ 33 9).toInt + 1) hσ12 => ?_)
            replace H := f_b hσ12 H
            have fσ12 : FX (fun id => id = 34 ∨ id = 35 ∨ id = 36 ∨ id = 37 ∨ id = 38 ∨ id = 39 ∨ id = 40 ∨ id = 47 ∨ id = 48) (fun id k => (id = 33 ∧ k = 1) ∨ (id = 33 ∧ k = 3) ∨ (id = 33 ∧ k = 9) ∨ (id = 33 ∧ k = 10) ∨ (id = 33 ∧ k = 11)) σ0 σ12 := FX_tr fσ cσ12 (fun x (h9 : x = 47 ∨ x = 48 ∨ x = 36 ∨ x = 37 ∨ x = 38 ∨ x = 39) => h9.elim (fun e9 => (show x = 34 ∨ x = 35 ∨ x = 36 ∨ x = 37 ∨ x = 38 ∨ x = 39 ∨ x = 40 ∨ x = 47 ∨ x = 48 from Or.inr (Or.inr (Or.inr (Or.inr (Or.inr (Or.inr (Or.inr (Or.inl (e9)))))))))) (fun h9 => h9.elim (fun e9 => (show x = 34 ∨ x = 35 ∨ x = 36 ∨ x = 37 ∨ x = 38 ∨ x = 39 ∨ x = 40 ∨ x = 47 ∨ x = 48 from Or.inr (Or.inr (Or.inr (Or.inr (Or.inr (Or.inr (Or.inr (Or.inr (e9)))))))))) (fun h9 => h9.elim (fun e9 => (show x = 34 ∨ x = 35 ∨ x = 36 ∨ x = 37 ∨ x = 38 ∨ x = 39 ∨ x = 40 ∨ x = 47 ∨ x = 48 from Or.inr (Or.inr (Or.inl (e9))))) (fun h9 => h9.elim (fun e9 => (show x = 34 ∨ x = 35 ∨ x = 36 ∨ x = 37 ∨ x = 38 ∨ x = 39 ∨ x = 40 ∨ x = 47 ∨ x = 48 from Or.inr (Or.inr (Or.inr (Or.inl (e9)))))) (fun h9 => h9.elim (fun e9 => (show x = 34 ∨ x = 35 ∨ x = 36 ∨ x = 37 ∨ x = 38 ∨ x = 39 ∨ x = 40 ∨ x = 47 ∨ x = 48 from Or.inr (Or.inr (Or.inr (Or.inr (Or.inl (e9))))))) (fun h9 => (show x = 34 ∨ x = 35 ∨ x = 36 ∨ x = 37 ∨ x = 38 ∨ x = 39 ∨ x = 40 ∨ x = 47 ∨ x = 48 from Or.inr (Or.inr (Or.inr (Or.inr (Or.inr (Or.inl (h9))))))))))))) (fun x k (h9 : (x = 33 ∧ k = 9)) => (show (x = 34 ∨ x = 35 ∨ x = 36 ∨ x = 37 ∨ x = 38 ∨ x = 39 ∨ x = 40 ∨ x = 47 ∨ x = 48) ∨ ((x = 33 ∧ k = 1) ∨ (x = 33 ∧ k = 3) ∨ (x = 33 ∧ k = 9) ∨ (x = 33 ∧ k = 10) ∨ (x = 33 ∧ k = 11)) from Or.inr (show (x = 33 ∧ k = 1) ∨ (x = 33 ∧ k = 3) ∨ (x = 33 ∧ k = 9) ∨ (x = 33 ∧ k = 10) ∨ (x = 33 ∧ k = 11) from Or.inr (Or.inr (Or.inl (h9))))))
            have k_35 : (gi σ12 1 1).toInt = (gi σ 1 1).toInt := congrArg Int32.toInt (FX_i cσ12 (show ¬ (1 = 47 ∨ 1 = 48 ∨ 1 = 36 ∨ 1 = 37 ∨ 1 = 38 ∨ 1 = 39) from by omega) (show ¬ ((1 = 33 ∧ 1 = 9)) from by omega))
            have k_36 : (gi σ12 1 9).toInt = (gi σ 1 9).toInt := congrArg Int32.toInt (FX_i cσ12 (show ¬ (1 = 47 ∨ 1 = 48 ∨ 1 = 36 ∨ 1 = 37 ∨ 1 = 38 ∨ 1 = 39) from by omega) (show ¬ ((1 = 33 ∧ 9 = 9)) from by omega))
            have k_37 : (gi σ12 11 1).toInt = (gi σ 11 1).toInt := congrArg Int32.toInt (FX_i cσ12 (show ¬ (11 = 47 ∨ 11 = 48 ∨ 11 = 36 ∨ 11 = 37 ∨ 11 = 38 ∨ 11 = 39) from by omega) (show ¬ ((11 = 33 ∧ 1 = 9)) from by omega))
            have t_38 := XI_c1 mσ12 (id := 33) (k := 9) (lim_C0_9 (Or.inr (Or.inr rfl)))
            have nσ12_1 : NN σ12 1 := NN_fx nσ_1 cσ12 (show ¬ (1 = 47 ∨ 1 = 48 ∨ 1 = 36 ∨ 1 = 37 ∨ 1 = 38 ∨ 1 = 39) from by omega) (show ¬ (2 = 47 ∨ 2 = 48 ∨ 2 = 36 ∨ 2 = 37 ∨ 2 = 38 ∨ 2 = 39) from by omega) (show ¬ (3 = 47 ∨ 3 = 48 ∨ 3 = 36 ∨ 3 = 37 ∨ 3 = 38 ∨ 3 = 39) from by omega) (show ¬ ((1 = 33 ∧ 1 = 9)) from by omega) (show ¬ ((1 = 33 ∧ 3 = 9)) from by omega) (fun k (h9 : (2 = 33 ∧ k = 9)) => by omega) (fun k (h9 : (3 = 33 ∧ k = 9)) => by omega)
            intro v14 ev14
            replace H := f_l ev14 H
            have t_39 : (x1 + (1 : Int32)).toInt = x1.toInt + 1 := i_add (x := x1) (y := (1 : Int32)) (by show (_ : Int) ≤ x1.toInt + 1; omega) (by show x1.toInt + 1 ≤ (_ : Int); omega)
            have t_40 : v14.toInt = (x1 + (1 : Int32)).toInt := congrArg Int32.toInt ev14
            exact ih13 v14 σ12 mσ12 fσ12 nσ12_1 nσ12_33 (by omega) (by omega) (by first | with_reducible assumption | with_reducible rfl | omega | assumption | rfl) H (by omega)
  have U13 := T 90
  have f0 : FX (fun id => id = 34 ∨ id = 35 ∨ id = 36 ∨ id = 37 ∨ id = 38 ∨ id = 39 ∨ id = 40 ∨ id = 47 ∨ id = 48) (fun id k => (id = 33 ∧ k = 1) ∨ (id = 33 ∧ k = 3) ∨ (id = 33 ∧ k = 9) ∨ (id = 33 ∧ k = 10) ∨ (id = 33 ∧ k = 11)) σ0 σ0 := FX_rf
  have t_41 := XI_c1 m0 (id := 1) (k := 1) (lim_C0_1 (Or.inl rfl))
  have t_42 := XI_c1 m0 (id := 1) (k := 9) (lim_C0_9 (Or.inl rfl))
  have t_43 := XI_c1 m0 (id := 11) (k := 1) (lim_C10_1 (Or.inl rfl))
  have t_44 := XI_c1 m0 (id := 33) (k := 9) (lim_C0_9 (Or.inr (Or.inr rfl)))
  have H := H0
  unfold F_X11_planned at H
  refine s_X11_planned_0 C hN  ?_
  have z_45 : (1 : Int32).toInt = 1 := rfl
  refine kF_X1_becomes (Or.inr (Or.inr rfl)) (Or.inl rfl) m0 nn_1 (by first | with_reducible assumption | with_reducible rfl | omega | assumption | rfl) (fun σ1 mσ1 cσ1 nσ1_1 nσ1_33 (pσ1_0 : (gi σ1 33 1).toInt = (gi σ0 1 1).toInt) (pσ1_1 : (gi σ1 33 3).toInt = (gi σ0 1 3).toInt) (pσ1_2 : (gi σ1 33 9).toInt = (gi σ0 1 9).toInt) (pσ1_3 : CPY σ0 σ1 33 1) hσ1 => ?_)
  replace H := f_v hσ1 H
  have fσ1 : FX (fun id => id = 34 ∨ id = 35 ∨ id = 36 ∨ id = 37 ∨ id = 38 ∨ id = 39 ∨ id = 40 ∨ id = 47 ∨ id = 48) (fun id k => (id = 33 ∧ k = 1) ∨ (id = 33 ∧ k = 3) ∨ (id = 33 ∧ k = 9) ∨ (id = 33 ∧ k = 10) ∨ (id = 33 ∧ k = 11)) σ0 σ1 := FX_tr f0 cσ1 (fun x (h9 : x = 34 ∨ x = 35 ∨ x = 36 ∨ x = 37 ∨ x = 38 ∨ x = 39 ∨ x = 40) => h9.elim (fun e9 => (show x = 34 ∨ x = 35 ∨ x = 36 ∨ x = 37 ∨ x = 38 ∨ x = 39 ∨ x = 40 ∨ x = 47 ∨ x = 48 from Or.inl (e9))) (fun h9 => h9.elim (fun e9 => (show x = 34 ∨ x = 35 ∨ x = 36 ∨ x = 37 ∨ x = 38 ∨ x = 39 ∨ x = 40 ∨ x = 47 ∨ x = 48 from Or.inr (Or.inl (e9)))) (fun h9 => h9.elim (fun e9 => (show x = 34 ∨ x = 35 ∨ x = 36 ∨ x = 37 ∨ x = 38 ∨ x = 39 ∨ x = 40 ∨ x = 47 ∨ x = 48 from Or.inr (Or.inr (Or.inl (e9))))) (fun h9 => h9.elim (fun e9 => (show x = 34 ∨ x = 35 ∨ x = 36 ∨ x = 37 ∨ x = 38 ∨ x = 39 ∨ x = 40 ∨ x = 47 ∨ x = 48 from Or.inr (Or.inr (Or.inr (Or.inl (e9)))))) (fun h9 => h9.elim (fun e9 => (show x = 34 ∨ x = 35 ∨ x = 36 ∨ x = 37 ∨ x = 38 ∨ x = 39 ∨ x = 40 ∨ x = 47 ∨ x = 48 from Or.inr (Or.inr (Or.inr (Or.inr (Or.inl (e9))))))) (fun h9 => h9.elim (fun e9 => (show x = 34 ∨ x = 35 ∨ x = 36 ∨ x = 37 ∨ x = 38 ∨ x = 39 ∨ x = 40 ∨ x = 47 ∨ x = 48 from Or.inr (Or.inr (Or.inr (Or.inr (Or.inr (Or.inl (e9)))))))) (fun h9 => (show x = 34 ∨ x = 35 ∨ x = 36 ∨ x = 37 ∨ x = 38 ∨ x = 39 ∨ x = 40 ∨ x = 47 ∨ x = 48 from Or.inr (Or.inr (Or.inr (Or.inr (Or.inr (Or.inr (Or.inl (h9))))))))))))))) (fun x k (h9 : (x = 33 ∧ k = 1) ∨ (x = 33 ∧ k = 3) ∨ (x = 33 ∧ k = 9) ∨ (x = 33 ∧ k = 10) ∨ (x = 33 ∧ k = 11)) => (show (x = 34 ∨ x = 35 ∨ x = 36 ∨ x = 37 ∨ x = 38 ∨ x = 39 ∨ x = 40 ∨ x = 47 ∨ x = 48) ∨ ((x = 33 ∧ k = 1) ∨ (x = 33 ∧ k = 3) ∨ (x = 33 ∧ k = 9) ∨ (x = 33 ∧ k = 10) ∨ (x = 33 ∧ k = 11)) from h9.elim (fun e9 => Or.inr (show (x = 33 ∧ k = 1) ∨ (x = 33 ∧ k = 3) ∨ (x = 33 ∧ k = 9) ∨ (x = 33 ∧ k = 10) ∨ (x = 33 ∧ k = 11) from Or.inl (e9))) (fun h9 => h9.elim (fun e9 => Or.inr (show (x = 33 ∧ k = 1) ∨ (x = 33 ∧ k = 3) ∨ (x = 33 ∧ k = 9) ∨ (x = 33 ∧ k = 10) ∨ (x = 33 ∧ k = 11) from Or.inr (Or.inl (e9)))) (fun h9 => h9.elim (fun e9 => Or.inr (show (x = 33 ∧ k = 1) ∨ (x = 33 ∧ k = 3) ∨ (x = 33 ∧ k = 9) ∨ (x = 33 ∧ k = 10) ∨ (x = 33 ∧ k = 11) from Or.inr (Or.inr (Or.inl (e9))))) (fun h9 => h9.elim (fun e9 => Or.inr (show (x = 33 ∧ k = 1) ∨ (x = 33 ∧ k = 3) ∨ (x = 33 ∧ k = 9) ∨ (x = 33 ∧ k = 10) ∨ (x = 33 ∧ k = 11) from Or.inr (Or.inr (Or.inr (Or.inl (e9)))))) (fun h9 => Or.inr (show (x = 33 ∧ k = 1) ∨ (x = 33 ∧ k = 3) ∨ (x = 33 ∧ k = 9) ∨ (x = 33 ∧ k = 10) ∨ (x = 33 ∧ k = 11) from Or.inr (Or.inr (Or.inr (Or.inr (h9)))))))))))
  have k_46 : (gi σ1 1 1).toInt = (gi σ0 1 1).toInt := congrArg Int32.toInt (FX_i cσ1 (show ¬ (1 = 34 ∨ 1 = 35 ∨ 1 = 36 ∨ 1 = 37 ∨ 1 = 38 ∨ 1 = 39 ∨ 1 = 40) from by omega) (show ¬ ((1 = 33 ∧ 1 = 1) ∨ (1 = 33 ∧ 1 = 3) ∨ (1 = 33 ∧ 1 = 9) ∨ (1 = 33 ∧ 1 = 10) ∨ (1 = 33 ∧ 1 = 11)) from by omega))
  have k_47 : (gi σ1 1 9).toInt = (gi σ0 1 9).toInt := congrArg Int32.toInt (FX_i cσ1 (show ¬ (1 = 34 ∨ 1 = 35 ∨ 1 = 36 ∨ 1 = 37 ∨ 1 = 38 ∨ 1 = 39 ∨ 1 = 40) from by omega) (show ¬ ((1 = 33 ∧ 9 = 1) ∨ (1 = 33 ∧ 9 = 3) ∨ (1 = 33 ∧ 9 = 9) ∨ (1 = 33 ∧ 9 = 10) ∨ (1 = 33 ∧ 9 = 11)) from by omega))
  have k_48 : (gi σ1 11 1).toInt = (gi σ0 11 1).toInt := congrArg Int32.toInt (FX_i cσ1 (show ¬ (11 = 34 ∨ 11 = 35 ∨ 11 = 36 ∨ 11 = 37 ∨ 11 = 38 ∨ 11 = 39 ∨ 11 = 40) from by omega) (show ¬ ((11 = 33 ∧ 1 = 1) ∨ (11 = 33 ∧ 1 = 3) ∨ (11 = 33 ∧ 1 = 9) ∨ (11 = 33 ∧ 1 = 10) ∨ (11 = 33 ∧ 1 = 11)) from by omega))
  have t_49 := XI_c1 mσ1 (id := 33) (k := 9) (lim_C0_9 (Or.inr (Or.inr rfl)))
  have z_50 : (0 : Int32).toInt = 0 := rfl
  exact U13 (0 : Int32) σ1 mσ1 fσ1 nσ1_1 nσ1_33 (by omega) (by omega) (by first | with_reducible assumption | with_reducible rfl | omega | assumption | rfl) H (by omega)
set_option maxRecDepth 100000 in
set_option maxHeartbeats 4000000 in
theorem kF_X11_judge {l : Launch} {V : Vx} {a1 : Int32} {a2 : Int32} {σ0 : Sg} {Qk : Int32 → Sg → Prop} (m0 : XI V σ0) (h9ret : ∀ (r : Int32) (σ' : Sg), XI V σ' → FX (fun id => False) (fun _ _ => False) σ0 σ' → (F_X11_judge a1 a2 σ0 = (r, σ')) → Qk r σ') : K_X11_judge l V a1 a2 σ0 Qk := by
  refine e_X11_judge (fun M hl hV hN C => ?_)
  subst hl
  subst hV
  obtain ⟨R9, H0⟩ : ∃ R9, F_X11_judge a1 a2 σ0 = R9 := ⟨_, rfl⟩
  have T : ∀ n : Nat, (∀ (x2 : Int32) (x3 : Nat) (x4 : Int32) (σ : Sg) (hx3 : isT x3), XI (mV M) σ → FX (fun id => False) (fun _ _ => False) σ0 σ → (0 ≤ x4.toInt) → (x4.toInt ≤ 6) → (LF_X11_judge n x2 x3 x4 σ = R9) → (7 - x4.toInt).toNat < n → PS M 37 [(0, .ref 0), (2, .int x2), (3, .ref x3), (4, .int x4)] [] σ (0, 0)) := by
    intro n
    induction n with
    | zero => exact fun _ _ _ _ _ _ _ _ _ _ h8 => absurd h8 (Nat.not_lt_zero _)
    | succ n ih =>
      have ih37 := ih
      · intro x2 x3 x4 σ hx3 mσ fσ lx4 ux4 H hmu
        replace H : LB_X11_judge_37 (LF_X11_judge n) x2 x3 x4 σ = R9 := H
        unfold LB_X11_judge_37 at H
        have ox3 : hid (x3 = 52 ∨ x3 = 54 ∨ x3 = 56 ∨ x3 = 58 ∨ x3 = 60 ∨ x3 = 62) := hx3
        have k_1 : (gi σ 1 1).toInt = (gi σ0 1 1).toInt := congrArg Int32.toInt (FX_i fσ id id)
        have t_2 := XI_c1 mσ (id := 1) (k := 1) (lim_C0_1 (Or.inl rfl))
        have k_3 : (gi σ (52 + 2 * a1.toNatClampNeg) 1).toInt = (gi σ0 (52 + 2 * a1.toNatClampNeg) 1).toInt := congrArg Int32.toInt (FX_i fσ id id)
        refine s_X11_judge_37 C hN hx3 ?_
        refine ⟨?_, ?_⟩
        · intro q_4
          replace H := f_t q_4 H
          have b_5 : (gi σ 1 1).toInt ≤ x4.toInt := Int32.le_iff_toInt_le.mp q_4
          have z_6 : (-5 : Int32).toInt = -5 := rfl
          exact h9ret (-5 : Int32) σ mσ fσ (H0.trans H.symm)
        · intro q_4
          replace H := f_f q_4 H
          have b_7 : ¬ (gi σ 1 1).toInt ≤ x4.toInt := fun h9 => q_4 (Int32.le_iff_toInt_le.mpr h9)
          have tz_8 := XI_c1 mσ (lim_T0_2 hx3)
          refine kF_X9_has hx3 mσ   (fun r3 σ2 mσ2 cσ2 plσ2 phσ2 (pσ2_0 : (r3.toInt = 1 ∧ 0 ≤ x2.toInt ∧ x2.toInt < (gi σ x3 2).toInt) ∨ r3.toInt = 0) hσ2 => ?_)
          obtain rfl := FX_nil cσ2
          replace H := f_b hσ2 H
          refine ⟨?_, ?_⟩
          · intro q_9
            replace H := f_t q_9 H
            have b_10 : r3.toInt = 0 := congrArg Int32.toInt q_9
            exact h9ret ((100 : Int32) + x4) σ mσ fσ (H0.trans H.symm)
          · intro q_9
            replace H := f_f q_9 H
            have b_11 : ¬ r3.toInt = 0 := fun h9 => q_9 (Int32.toInt_inj.mp h9)
            have w_12 := Int32.toInt_lt x2
            have w_13 := Int32.le_toInt x2
            try have t_14 : (x2 + x4).toInt = x2.toInt + x4.toInt := i_add (x := x2) (y := x4) (by show (_ : Int) ≤ x2.toInt + x4.toInt; omega) (by show x2.toInt + x4.toInt ≤ (_ : Int); omega)
            have tz_15 := XI_c1 mσ (lim_T0_2 hx3)
            refine kF_X9_has hx3 mσ   (fun r6 σ5 mσ5 cσ5 plσ5 phσ5 (pσ5_0 : (r6.toInt = 1 ∧ 0 ≤ (x2 + x4).toInt ∧ (x2 + x4).toInt < (gi σ x3 2).toInt) ∨ r6.toInt = 0) hσ5 => ?_)
            obtain rfl := FX_nil cσ5
            replace H := f_b hσ5 H
            refine ⟨?_, ?_⟩
            · intro q_16
              replace H := f_f q_16 H
              have b_17 : ¬ r6.toInt = 0 := fun h9 => q_16 (Int32.toInt_inj.mp h9)
              have hv_18 : vp_in (x2 + x4) 60 := vp_in_iff.mpr ⟨by omega, by omega⟩
              refine ⟨hv_18, ?_⟩
              have hv_19 : vp_in x4 6 := vp_in_iff.mpr ⟨by omega, by omega⟩
              refine ⟨hv_19, ?_⟩
              refine ⟨?_, ?_⟩
              · intro q_20
                replace H := f_t q_20 H
                intro v11 ev11
                replace H := f_l ev11 H
                have t_21 : (x4 + (1 : Int32)).toInt = x4.toInt + 1 := i_add (x := x4) (y := (1 : Int32)) (by show (_ : Int) ≤ x4.toInt + 1; omega) (by show x4.toInt + 1 ≤ (_ : Int); omega)
                have t_22 : v11.toInt = (x4 + (1 : Int32)).toInt := congrArg Int32.toInt ev11
                exact ih37 x2 x3 v11 σ hx3 mσ fσ (by omega) (by omega) H (by omega)
              · intro q_20
                replace H := f_f q_20 H
                exact h9ret x4 σ mσ fσ (H0.trans H.symm)
            · intro q_16
              replace H := f_t q_16 H
              have b_23 : r6.toInt = 0 := congrArg Int32.toInt q_16
              exact h9ret ((100 : Int32) + x4) σ mσ fσ (H0.trans H.symm)
  have U37 := T 9
  have f0 : FX (fun id => False) (fun _ _ => False) σ0 σ0 := FX_rf
  have t_24 := XI_c1 m0 (id := 1) (k := 1) (lim_C0_1 (Or.inl rfl))
  have H := H0
  unfold F_X11_judge at H
  refine s_X11_judge_0 C hN  ?_
  refine kF_X11_isTape  m0   (fun r2 σ1 mσ1 cσ1 plσ1 phσ1 (pσ1_0 : (r2.toInt = 1 ∧ 0 ≤ a1.toInt ∧ a1.toInt ≤ 5) ∨ (r2.toInt = 0 ∧ (a1.toInt < 0 ∨ 5 < a1.toInt))) hσ1 => ?_)
  obtain rfl := FX_nil cσ1
  replace H := f_b hσ1 H
  refine ⟨?_, ?_⟩
  · intro q_25
    replace H := f_f q_25 H
    have b_26 : ¬ r2.toInt = 0 := fun h9 => q_25 (Int32.toInt_inj.mp h9)
    have w_27 := Int32.toInt_lt a1
    have w_28 := Int32.le_toInt a1
    have hv_29 : vp_in a1 6 := vp_in_iff.mpr ⟨by omega, by omega⟩
    refine ⟨hv_29, ?_⟩
    have ec_30 := cl_eq (x := a1) (by omega)
    refine kF_X9_isEmpty (isT_of hv_29) m0   (fun r6 σ5 mσ5 cσ5 plσ5 phσ5 hσ5 => ?_)
    obtain rfl := FX_nil cσ5
    replace H := f_b hσ5 H
    refine ⟨?_, ?_⟩
    · intro q_31
      replace H := f_f q_31 H
      have b_32 : ¬ r6.toInt = 0 := fun h9 => q_31 (Int32.toInt_inj.mp h9)
      have w_33 := Int32.toInt_lt a2
      have w_34 := Int32.le_toInt a2
      have z_35 : (0 : Int32).toInt = 0 := rfl
      exact U37 a2 (52 + 2 * a1.toNatClampNeg) (0 : Int32) σ0 (isT_of hv_29) m0 f0 (by omega) (by omega) H (by omega)
    · intro q_31
      replace H := f_t q_31 H
      have b_36 : r6.toInt = 0 := congrArg Int32.toInt q_31
      refine ⟨?_, ?_⟩
      · intro q_37
        replace H := f_t q_37 H
        have b_38 : (gi σ0 (52 + (2 * a1.toNatClampNeg)) 1).toInt = 1 := congrArg Int32.toInt q_37
        have w_39 := Int32.toInt_lt a2
        have w_40 := Int32.le_toInt a2
        have z_41 : (0 : Int32).toInt = 0 := rfl
        exact U37 a2 (52 + 2 * a1.toNatClampNeg) (0 : Int32) σ0 (isT_of hv_29) m0 f0 (by omega) (by omega) H (by omega)
      · intro q_37
        replace H := f_f q_37 H
        have b_42 : ¬ (gi σ0 (52 + (2 * a1.toNatClampNeg)) 1).toInt = 1 := fun h9 => q_37 (Int32.toInt_inj.mp h9)
        have z_43 : (-12 : Int32).toInt = -12 := rfl
        exact h9ret (-12 : Int32) σ0 m0 f0 (H0.trans H.symm)
  · intro q_25
    replace H := f_t q_25 H
    have b_44 : r2.toInt = 0 := congrArg Int32.toInt q_25
    have z_45 : (-1 : Int32).toInt = -1 := rfl
    exact h9ret (-1 : Int32) σ0 m0 f0 (H0.trans H.symm)
set_option maxRecDepth 100000 in
set_option maxHeartbeats 4000000 in
theorem kF_X11_stop {l : Launch} {V : Vx} {a1 : Int32} {a2 : Int32} {a3 : Int32} {a4 : Int32} {σ0 : Sg} {Qk : Int32 → Sg → Prop} (m0 : XI V σ0) (nn_1 : NN σ0 1) (pre0 : (gi σ0 1 9).toInt ≤ 9999) (h9ret : ∀ (r : Int32) (σ' : Sg), XI V σ' → FX (fun id => id = 34 ∨ id = 35 ∨ id = 36 ∨ id = 37 ∨ id = 38 ∨ id = 39 ∨ id = 40 ∨ id = 47 ∨ id = 48 ∨ id = 68) (fun id k => (id = 33 ∧ k = 1) ∨ (id = 33 ∧ k = 3) ∨ (id = 33 ∧ k = 9) ∨ (id = 33 ∧ k = 10) ∨ (id = 33 ∧ k = 11)) σ0 σ' → (NN σ' 1) → (F_X11_stop a1 a2 a3 a4 σ0 = (r, σ')) → Qk r σ') : K_X11_stop l V a1 a2 a3 a4 σ0 Qk := by
  refine e_X11_stop (fun M hl hV hN C => ?_)
  subst hl
  subst hV
  obtain ⟨R9, H0⟩ : ∃ R9, F_X11_stop a1 a2 a3 a4 σ0 = R9 := ⟨_, rfl⟩
  have T : ∀ n : Nat, (∀ (x1 : Int32) (x2 : Int32) (x3 : Int32) (x4 : Int32) (σ : Sg), XI (mV M) σ → FX (fun id => id = 34 ∨ id = 35 ∨ id = 36 ∨ id = 37 ∨ id = 38 ∨ id = 39 ∨ id = 40 ∨ id = 47 ∨ id = 48 ∨ id = 68) (fun id k => (id = 33 ∧ k = 1) ∨ (id = 33 ∧ k = 3) ∨ (id = 33 ∧ k = 9) ∨ (id = 33 ∧ k = 10) ∨ (id = 33 ∧ k = 11)) σ0 σ → NN σ 1 → (0 ≤ x1.toInt) → (x1.toInt ≤ 5) → (LF_X11_stop n x1 x2 x3 x4 σ = R9) → 1 < n → PS M 22 [(0, .ref 0), (1, .int x1), (2, .int x2), (3, .int x3), (4, .int x4)] [] σ (0, 0)) := by
    intro n
    induction n with
    | zero => exact fun _ _ _ _ _ _ _ _ _ _ _ h8 => absurd h8 (Nat.not_lt_zero _)
    | succ n ih =>
      have ih22 := ih
      · intro x1 x2 x3 x4 σ mσ fσ nσ_1 lx1 ux1 H hmu
        replace H : LB_X11_stop_22 (LF_X11_stop n) x1 x2 x3 x4 σ = R9 := H
        unfold LB_X11_stop_22 at H
        have k_1 : (gi σ 1 1).toInt = (gi σ0 1 1).toInt := congrArg Int32.toInt (FX_i fσ (show ¬ (1 = 34 ∨ 1 = 35 ∨ 1 = 36 ∨ 1 = 37 ∨ 1 = 38 ∨ 1 = 39 ∨ 1 = 40 ∨ 1 = 47 ∨ 1 = 48 ∨ 1 = 68) from by omega) (show ¬ ((1 = 33 ∧ 1 = 1) ∨ (1 = 33 ∧ 1 = 3) ∨ (1 = 33 ∧ 1 = 9) ∨ (1 = 33 ∧ 1 = 10) ∨ (1 = 33 ∧ 1 = 11)) from by omega))
        have t_2 := XI_c1 mσ (id := 1) (k := 1) (lim_C0_1 (Or.inl rfl))
        have k_3 : (gi σ 1 9).toInt = (gi σ0 1 9).toInt := congrArg Int32.toInt (FX_i fσ (show ¬ (1 = 34 ∨ 1 = 35 ∨ 1 = 36 ∨ 1 = 37 ∨ 1 = 38 ∨ 1 = 39 ∨ 1 = 40 ∨ 1 = 47 ∨ 1 = 48 ∨ 1 = 68) from by omega) (show ¬ ((1 = 33 ∧ 9 = 1) ∨ (1 = 33 ∧ 9 = 3) ∨ (1 = 33 ∧ 9 = 9) ∨ (1 = 33 ∧ 9 = 10) ∨ (1 = 33 ∧ 9 = 11)) from by omega))
        have t_4 := XI_c1 mσ (id := 1) (k := 9) (lim_C0_9 (Or.inl rfl))
        have t_5 := XI_c1 mσ (id := 33) (k := 1) (lim_C0_1 (Or.inr (Or.inr rfl)))
        have t_6 := XI_c1 mσ (id := 33) (k := 9) (lim_C0_9 (Or.inr (Or.inr rfl)))
        refine s_X11_stop_22 C hN  ?_
        refine ⟨?_, ?_⟩
        · intro q_7
          replace H := f_t q_7 H
          have w_8 := Int32.toInt_lt x2
          have w_9 := Int32.le_toInt x2
          have b_10 : x2.toInt < 1 := Int32.lt_iff_toInt_lt.mp q_7
          have z_11 : (-100002 : Int32).toInt = -100002 := rfl
          exact h9ret (-100002 : Int32) σ mσ fσ nσ_1 (H0.trans H.symm)
        · intro q_7
          replace H := f_f q_7 H
          have w_12 := Int32.toInt_lt x2
          have w_13 := Int32.le_toInt x2
          have b_14 : ¬ x2.toInt < 1 := fun h9 => q_7 (Int32.lt_iff_toInt_lt.mpr h9)
          refine ⟨?_, ?_⟩
          · intro q_15
            replace H := f_t q_15 H
            have b_16 : (20 : Int) < x2.toInt := Int32.lt_iff_toInt_lt.mp q_15
            have z_17 : (-100002 : Int32).toInt = -100002 := rfl
            exact h9ret (-100002 : Int32) σ mσ fσ nσ_1 (H0.trans H.symm)
          · intro q_15
            replace H := f_f q_15 H
            have b_18 : ¬ (20 : Int) < x2.toInt := fun h9 => q_15 (Int32.lt_iff_toInt_lt.mpr h9)
            refine ⟨?_, ?_⟩
            · intro q_19
              replace H := f_t q_19 H
              have w_20 := Int32.toInt_lt x3
              have w_21 := Int32.le_toInt x3
              have b_22 : x3.toInt < 1 := Int32.lt_iff_toInt_lt.mp q_19
              have z_23 : (-100002 : Int32).toInt = -100002 := rfl
              exact h9ret (-100002 : Int32) σ mσ fσ nσ_1 (H0.trans H.symm)
            · intro q_19
              replace H := f_f q_19 H
              have w_24 := Int32.toInt_lt x3
              have w_25 := Int32.le_toInt x3
              have b_26 : ¬ x3.toInt < 1 := fun h9 => q_19 (Int32.lt_iff_toInt_lt.mpr h9)
              refine ⟨?_, ?_⟩
              · intro q_27
                replace H := f_t q_27 H
                have b_28 : x3.toInt ≤ 60 := Int32.le_iff_toInt_le.mp q_27
                have z_29 : (1 : Int32).toInt = 1 := rfl
                refine kF_X1_becomes (Or.inr (Or.inr rfl)) (Or.inl rfl) mσ nσ_1 (by first | with_reducible assumption | with_reducible rfl | omega | assumption | rfl) (fun σ5 mσ5 cσ5 nσ5_1 nσ5_33 (pσ5_0 : (gi σ5 33 1).toInt = (gi σ 1 1).toInt) (pσ5_1 : (gi σ5 33 3).toInt = (gi σ 1 3).toInt) (pσ5_2 : (gi σ5 33 9).toInt = (gi σ 1 9).toInt) (pσ5_3 : CPY σ σ5 33 1) hσ5 => ?_)
                replace H := f_v hσ5 H
                have fσ5 : FX (fun id => id = 34 ∨ id = 35 ∨ id = 36 ∨ id = 37 ∨ id = 38 ∨ id = 39 ∨ id = 40 ∨ id = 47 ∨ id = 48 ∨ id = 68) (fun id k => (id = 33 ∧ k = 1) ∨ (id = 33 ∧ k = 3) ∨ (id = 33 ∧ k = 9) ∨ (id = 33 ∧ k = 10) ∨ (id = 33 ∧ k = 11)) σ0 σ5 := FX_tr fσ cσ5 (fun x (h9 : x = 34 ∨ x = 35 ∨ x = 36 ∨ x = 37 ∨ x = 38 ∨ x = 39 ∨ x = 40) => h9.elim (fun e9 => (show x = 34 ∨ x = 35 ∨ x = 36 ∨ x = 37 ∨ x = 38 ∨ x = 39 ∨ x = 40 ∨ x = 47 ∨ x = 48 ∨ x = 68 from Or.inl (e9))) (fun h9 => h9.elim (fun e9 => (show x = 34 ∨ x = 35 ∨ x = 36 ∨ x = 37 ∨ x = 38 ∨ x = 39 ∨ x = 40 ∨ x = 47 ∨ x = 48 ∨ x = 68 from Or.inr (Or.inl (e9)))) (fun h9 => h9.elim (fun e9 => (show x = 34 ∨ x = 35 ∨ x = 36 ∨ x = 37 ∨ x = 38 ∨ x = 39 ∨ x = 40 ∨ x = 47 ∨ x = 48 ∨ x = 68 from Or.inr (Or.inr (Or.inl (e9))))) (fun h9 => h9.elim (fun e9 => (show x = 34 ∨ x = 35 ∨ x = 36 ∨ x = 37 ∨ x = 38 ∨ x = 39 ∨ x = 40 ∨ x = 47 ∨ x = 48 ∨ x = 68 from Or.inr (Or.inr (Or.inr (Or.inl (e9)))))) (fun h9 => h9.elim (fun e9 => (show x = 34 ∨ x = 35 ∨ x = 36 ∨ x = 37 ∨ x = 38 ∨ x = 39 ∨ x = 40 ∨ x = 47 ∨ x = 48 ∨ x = 68 from Or.inr (Or.inr (Or.inr (Or.inr (Or.inl (e9))))))) (fun h9 => h9.elim (fun e9 => (show x = 34 ∨ x = 35 ∨ x = 36 ∨ x = 37 ∨ x = 38 ∨ x = 39 ∨ x = 40 ∨ x = 47 ∨ x = 48 ∨ x = 68 from Or.inr (Or.inr (Or.inr (Or.inr (Or.inr (Or.inl (e9)))))))) (fun h9 => (show x = 34 ∨ x = 35 ∨ x = 36 ∨ x = 37 ∨ x = 38 ∨ x = 39 ∨ x = 40 ∨ x = 47 ∨ x = 48 ∨ x = 68 from Or.inr (Or.inr (Or.inr (Or.inr (Or.inr (Or.inr (Or.inl (h9))))))))))))))) (fun x k (h9 : (x = 33 ∧ k = 1) ∨ (x = 33 ∧ k = 3) ∨ (x = 33 ∧ k = 9) ∨ (x = 33 ∧ k = 10) ∨ (x = 33 ∧ k = 11)) => (show (x = 34 ∨ x = 35 ∨ x = 36 ∨ x = 37 ∨ x = 38 ∨ x = 39 ∨ x = 40 ∨ x = 47 ∨ x = 48 ∨ x = 68) ∨ ((x = 33 ∧ k = 1) ∨ (x = 33 ∧ k = 3) ∨ (x = 33 ∧ k = 9) ∨ (x = 33 ∧ k = 10) ∨ (x = 33 ∧ k = 11)) from h9.elim (fun e9 => Or.inr (show (x = 33 ∧ k = 1) ∨ (x = 33 ∧ k = 3) ∨ (x = 33 ∧ k = 9) ∨ (x = 33 ∧ k = 10) ∨ (x = 33 ∧ k = 11) from Or.inl (e9))) (fun h9 => h9.elim (fun e9 => Or.inr (show (x = 33 ∧ k = 1) ∨ (x = 33 ∧ k = 3) ∨ (x = 33 ∧ k = 9) ∨ (x = 33 ∧ k = 10) ∨ (x = 33 ∧ k = 11) from Or.inr (Or.inl (e9)))) (fun h9 => h9.elim (fun e9 => Or.inr (show (x = 33 ∧ k = 1) ∨ (x = 33 ∧ k = 3) ∨ (x = 33 ∧ k = 9) ∨ (x = 33 ∧ k = 10) ∨ (x = 33 ∧ k = 11) from Or.inr (Or.inr (Or.inl (e9))))) (fun h9 => h9.elim (fun e9 => Or.inr (show (x = 33 ∧ k = 1) ∨ (x = 33 ∧ k = 3) ∨ (x = 33 ∧ k = 9) ∨ (x = 33 ∧ k = 10) ∨ (x = 33 ∧ k = 11) from Or.inr (Or.inr (Or.inr (Or.inl (e9)))))) (fun h9 => Or.inr (show (x = 33 ∧ k = 1) ∨ (x = 33 ∧ k = 3) ∨ (x = 33 ∧ k = 9) ∨ (x = 33 ∧ k = 10) ∨ (x = 33 ∧ k = 11) from Or.inr (Or.inr (Or.inr (Or.inr (h9)))))))))))
                have k_30 : (gi σ5 1 1).toInt = (gi σ 1 1).toInt := congrArg Int32.toInt (FX_i cσ5 (show ¬ (1 = 34 ∨ 1 = 35 ∨ 1 = 36 ∨ 1 = 37 ∨ 1 = 38 ∨ 1 = 39 ∨ 1 = 40) from by omega) (show ¬ ((1 = 33 ∧ 1 = 1) ∨ (1 = 33 ∧ 1 = 3) ∨ (1 = 33 ∧ 1 = 9) ∨ (1 = 33 ∧ 1 = 10) ∨ (1 = 33 ∧ 1 = 11)) from by omega))
                have k_31 : (gi σ5 1 9).toInt = (gi σ 1 9).toInt := congrArg Int32.toInt (FX_i cσ5 (show ¬ (1 = 34 ∨ 1 = 35 ∨ 1 = 36 ∨ 1 = 37 ∨ 1 = 38 ∨ 1 = 39 ∨ 1 = 40) from by omega) (show ¬ ((1 = 33 ∧ 9 = 1) ∨ (1 = 33 ∧ 9 = 3) ∨ (1 = 33 ∧ 9 = 9) ∨ (1 = 33 ∧ 9 = 10) ∨ (1 = 33 ∧ 9 = 11)) from by omega))
                have t_32 := XI_c1 mσ5 (id := 33) (k := 1) (lim_C0_1 (Or.inr (Or.inr rfl)))
                have t_33 := XI_c1 mσ5 (id := 33) (k := 9) (lim_C0_9 (Or.inr (Or.inr rfl)))
                refine kF_X1_goes (Or.inr (Or.inr rfl)) mσ5 nσ5_33 (by omega) (by omega) (by first | with_reducible assumption | with_reducible rfl | omega | assumption | rfl) (fun σ6 mσ6 cσ6 nσ6_33 (pσ6_0 : (gi σ6 33 9).toInt = (gi σ5 33 9).toInt + x3.toInt) hσ6 => ?_)
                replace H := f_v hσ6 H
                have fσ6 : FX (fun id => id = 34 ∨ id = 35 ∨ id = 36 ∨ id = 37 ∨ id = 38 ∨ id = 39 ∨ id = 40 ∨ id = 47 ∨ id = 48 ∨ id = 68) (fun id k => (id = 33 ∧ k = 1) ∨ (id = 33 ∧ k = 3) ∨ (id = 33 ∧ k = 9) ∨ (id = 33 ∧ k = 10) ∨ (id = 33 ∧ k = 11)) σ0 σ6 := FX_tr fσ5 cσ6 (fun x (h9 : x = 47 ∨ x = 48 ∨ x = 36 ∨ x = 37 ∨ x = 38 ∨ x = 39) => h9.elim (fun e9 => (show x = 34 ∨ x = 35 ∨ x = 36 ∨ x = 37 ∨ x = 38 ∨ x = 39 ∨ x = 40 ∨ x = 47 ∨ x = 48 ∨ x = 68 from Or.inr (Or.inr (Or.inr (Or.inr (Or.inr (Or.inr (Or.inr (Or.inl (e9)))))))))) (fun h9 => h9.elim (fun e9 => (show x = 34 ∨ x = 35 ∨ x = 36 ∨ x = 37 ∨ x = 38 ∨ x = 39 ∨ x = 40 ∨ x = 47 ∨ x = 48 ∨ x = 68 from Or.inr (Or.inr (Or.inr (Or.inr (Or.inr (Or.inr (Or.inr (Or.inr (Or.inl (e9))))))))))) (fun h9 => h9.elim (fun e9 => (show x = 34 ∨ x = 35 ∨ x = 36 ∨ x = 37 ∨ x = 38 ∨ x = 39 ∨ x = 40 ∨ x = 47 ∨ x = 48 ∨ x = 68 from Or.inr (Or.inr (Or.inl (e9))))) (fun h9 => h9.elim (fun e9 => (show x = 34 ∨ x = 35 ∨ x = 36 ∨ x = 37 ∨ x = 38 ∨ x = 39 ∨ x = 40 ∨ x = 47 ∨ x = 48 ∨ x = 68 from Or.inr (Or.inr (Or.inr (Or.inl (e9)))))) (fun h9 => h9.elim (fun e9 => (show x = 34 ∨ x = 35 ∨ x = 36 ∨ x = 37 ∨ x = 38 ∨ x = 39 ∨ x = 40 ∨ x = 47 ∨ x = 48 ∨ x = 68 from Or.inr (Or.inr (Or.inr (Or.inr (Or.inl (e9))))))) (fun h9 => (show x = 34 ∨ x = 35 ∨ x = 36 ∨ x = 37 ∨ x = 38 ∨ x = 39 ∨ x = 40 ∨ x = 47 ∨ x = 48 ∨ x = 68 from Or.inr (Or.inr (Or.inr (Or.inr (Or.inr (Or.inl (h9))))))))))))) (fun x k (h9 : (x = 33 ∧ k = 9)) => (show (x = 34 ∨ x = 35 ∨ x = 36 ∨ x = 37 ∨ x = 38 ∨ x = 39 ∨ x = 40 ∨ x = 47 ∨ x = 48 ∨ x = 68) ∨ ((x = 33 ∧ k = 1) ∨ (x = 33 ∧ k = 3) ∨ (x = 33 ∧ k = 9) ∨ (x = 33 ∧ k = 10) ∨ (x = 33 ∧ k = 11)) from Or.inr (show (x = 33 ∧ k = 1) ∨ (x = 33 ∧ k = 3) ∨ (x = 33 ∧ k = 9) ∨ (x = 33 ∧ k = 10) ∨ (x = 33 ∧ k = 11) from Or.inr (Or.inr (Or.inl (h9))))))
                have k_34 : (gi σ6 1 1).toInt = (gi σ5 1 1).toInt := congrArg Int32.toInt (FX_i cσ6 (show ¬ (1 = 47 ∨ 1 = 48 ∨ 1 = 36 ∨ 1 = 37 ∨ 1 = 38 ∨ 1 = 39) from by omega) (show ¬ ((1 = 33 ∧ 1 = 9)) from by omega))
                have k_35 : (gi σ6 1 9).toInt = (gi σ5 1 9).toInt := congrArg Int32.toInt (FX_i cσ6 (show ¬ (1 = 47 ∨ 1 = 48 ∨ 1 = 36 ∨ 1 = 37 ∨ 1 = 38 ∨ 1 = 39) from by omega) (show ¬ ((1 = 33 ∧ 9 = 9)) from by omega))
                have k_36 : (gi σ6 33 1).toInt = (gi σ5 33 1).toInt := congrArg Int32.toInt (FX_i cσ6 (show ¬ (33 = 47 ∨ 33 = 48 ∨ 33 = 36 ∨ 33 = 37 ∨ 33 = 38 ∨ 33 = 39) from by omega) (show ¬ ((33 = 33 ∧ 1 = 9)) from by omega))
                have t_37 := XI_c1 mσ6 (id := 33) (k := 9) (lim_C0_9 (Or.inr (Or.inr rfl)))
                have nσ6_1 : NN σ6 1 := NN_fx nσ5_1 cσ6 (show ¬ (1 = 47 ∨ 1 = 48 ∨ 1 = 36 ∨ 1 = 37 ∨ 1 = 38 ∨ 1 = 39) from by omega) (show ¬ (2 = 47 ∨ 2 = 48 ∨ 2 = 36 ∨ 2 = 37 ∨ 2 = 38 ∨ 2 = 39) from by omega) (show ¬ (3 = 47 ∨ 3 = 48 ∨ 3 = 36 ∨ 3 = 37 ∨ 3 = 38 ∨ 3 = 39) from by omega) (show ¬ ((1 = 33 ∧ 1 = 9)) from by omega) (show ¬ ((1 = 33 ∧ 3 = 9)) from by omega) (fun k (h9 : (2 = 33 ∧ k = 9)) => by omega) (fun k (h9 : (3 = 33 ∧ k = 9)) => by omega)
                refine kF_X1_allAt (Or.inr (Or.inr rfl)) mσ6   (fun r8 σ7 mσ7 cσ7 hσ7 => ?_)
                obtain rfl := FX_nil cσ7
                replace H := f_b hσ7 H
                have t_38 := XI_c1 mσ6 (id := 1) (k := 1) (lim_C0_1 (Or.inl rfl))
                have t_39 := XI_c1 mσ6 (id := 1) (k := 9) (lim_C0_9 (Or.inl rfl))
                have t_40 := XI_c1 mσ6 (id := 33) (k := 1) (lim_C0_1 (Or.inr (Or.inr rfl)))
                have z_41 : (0 : Int32).toInt = 0 := rfl
                have z_42 : (6 : Int32).toInt = 6 := rfl
                have z_43 := cl_eq (x := (0 : Int32)) (by first | decide | omega)
                have z_44 := cl_eq (x := (0 : Int32)) (by first | decide | omega)
                have z_45 := cl_eq (x := (6 : Int32)) (by first | decide | omega)
                refine ⟨⟨(fun h9 => by have h8 := Int32.lt_iff_toInt_lt.mp h9; have h7 : (0 : Int32).toInt = 0 := rfl; omega), (fun h9 => by have h8 := Int32.lt_iff_toInt_lt.mp h9; have h7 : (0 : Int32).toInt = 0 := rfl; omega), (fun h9 => by have h8 := Int32.lt_iff_toInt_lt.mp h9; have h7 : (0 : Int32).toInt = 0 := rfl; omega), by omega, by omega⟩, ?_⟩
                intro σ9 eσ9
                replace H := f_l eσ9 H
                have mσ9 : XI (mV M) σ9 := by rw [eσ9]; exact XIs_sia mσ6 (fun k lo hi q => by have q : (none : Option (Int × Int)) = some (lo, hi) := q; cases q)
                have fσ9 : FX (fun id => id = 34 ∨ id = 35 ∨ id = 36 ∨ id = 37 ∨ id = 38 ∨ id = 39 ∨ id = 40 ∨ id = 47 ∨ id = 48 ∨ id = 68) (fun id k => (id = 33 ∧ k = 1) ∨ (id = 33 ∧ k = 3) ∨ (id = 33 ∧ k = 9) ∨ (id = 33 ∧ k = 10) ∨ (id = 33 ∧ k = 11)) σ0 σ9 := by rw [eσ9]; exact FX_sia fσ6 ((show 68 = 34 ∨ 68 = 35 ∨ 68 = 36 ∨ 68 = 37 ∨ 68 = 38 ∨ 68 = 39 ∨ 68 = 40 ∨ 68 = 47 ∨ 68 = 48 ∨ 68 = 68 from Or.inr (Or.inr (Or.inr (Or.inr (Or.inr (Or.inr (Or.inr (Or.inr (Or.inr (rfl)))))))))))
                have k_46 : (gi σ9 1 1).toInt = (gi σ6 1 1).toInt := by rw [eσ9, gi_sia, if_neg (by omega)]
                have k_47 : (gi σ9 1 9).toInt = (gi σ6 1 9).toInt := by rw [eσ9, gi_sia, if_neg (by omega)]
                have k_48 : (gi σ9 33 1).toInt = (gi σ6 33 1).toInt := by rw [eσ9, gi_sia, if_neg (by omega)]
                have k_49 : (gi σ9 33 9).toInt = (gi σ6 33 9).toInt := by rw [eσ9, gi_sia, if_neg (by omega)]
                have nσ9_33 : NN σ9 33 := NN_fx nσ6_33 (show FX (fun id => id = 68) (fun _ _ => False) σ6 σ9 from by rw [eσ9]; exact FX_sia FX_rf rfl) (by omega) (by omega) (by omega) id id (fun _ => id) (fun _ => id)
                have nσ9_1 : NN σ9 1 := NN_fx nσ6_1 (show FX (fun id => id = 68) (fun _ _ => False) σ6 σ9 from by rw [eσ9]; exact FX_sia FX_rf rfl) (by omega) (by omega) (by omega) id id (fun _ => id) (fun _ => id)
                refine kF_X1_becomes (Or.inr (Or.inr rfl)) (Or.inl rfl) mσ9 nσ9_1 (by first | with_reducible assumption | with_reducible rfl | omega | assumption | rfl) (fun σ10 mσ10 cσ10 nσ10_1 nσ10_33 (pσ10_0 : (gi σ10 33 1).toInt = (gi σ9 1 1).toInt) (pσ10_1 : (gi σ10 33 3).toInt = (gi σ9 1 3).toInt) (pσ10_2 : (gi σ10 33 9).toInt = (gi σ9 1 9).toInt) (pσ10_3 : CPY σ9 σ10 33 1) hσ10 => ?_)
                replace H := f_v hσ10 H
                have fσ10 : FX (fun id => id = 34 ∨ id = 35 ∨ id = 36 ∨ id = 37 ∨ id = 38 ∨ id = 39 ∨ id = 40 ∨ id = 47 ∨ id = 48 ∨ id = 68) (fun id k => (id = 33 ∧ k = 1) ∨ (id = 33 ∧ k = 3) ∨ (id = 33 ∧ k = 9) ∨ (id = 33 ∧ k = 10) ∨ (id = 33 ∧ k = 11)) σ0 σ10 := FX_tr fσ9 cσ10 (fun x (h9 : x = 34 ∨ x = 35 ∨ x = 36 ∨ x = 37 ∨ x = 38 ∨ x = 39 ∨ x = 40) => h9.elim (fun e9 => (show x = 34 ∨ x = 35 ∨ x = 36 ∨ x = 37 ∨ x = 38 ∨ x = 39 ∨ x = 40 ∨ x = 47 ∨ x = 48 ∨ x = 68 from Or.inl (e9))) (fun h9 => h9.elim (fun e9 => (show x = 34 ∨ x = 35 ∨ x = 36 ∨ x = 37 ∨ x = 38 ∨ x = 39 ∨ x = 40 ∨ x = 47 ∨ x = 48 ∨ x = 68 from Or.inr (Or.inl (e9)))) (fun h9 => h9.elim (fun e9 => (show x = 34 ∨ x = 35 ∨ x = 36 ∨ x = 37 ∨ x = 38 ∨ x = 39 ∨ x = 40 ∨ x = 47 ∨ x = 48 ∨ x = 68 from Or.inr (Or.inr (Or.inl (e9))))) (fun h9 => h9.elim (fun e9 => (show x = 34 ∨ x = 35 ∨ x = 36 ∨ x = 37 ∨ x = 38 ∨ x = 39 ∨ x = 40 ∨ x = 47 ∨ x = 48 ∨ x = 68 from Or.inr (Or.inr (Or.inr (Or.inl (e9)))))) (fun h9 => h9.elim (fun e9 => (show x = 34 ∨ x = 35 ∨ x = 36 ∨ x = 37 ∨ x = 38 ∨ x = 39 ∨ x = 40 ∨ x = 47 ∨ x = 48 ∨ x = 68 from Or.inr (Or.inr (Or.inr (Or.inr (Or.inl (e9))))))) (fun h9 => h9.elim (fun e9 => (show x = 34 ∨ x = 35 ∨ x = 36 ∨ x = 37 ∨ x = 38 ∨ x = 39 ∨ x = 40 ∨ x = 47 ∨ x = 48 ∨ x = 68 from Or.inr (Or.inr (Or.inr (Or.inr (Or.inr (Or.inl (e9)))))))) (fun h9 => (show x = 34 ∨ x = 35 ∨ x = 36 ∨ x = 37 ∨ x = 38 ∨ x = 39 ∨ x = 40 ∨ x = 47 ∨ x = 48 ∨ x = 68 from Or.inr (Or.inr (Or.inr (Or.inr (Or.inr (Or.inr (Or.inl (h9))))))))))))))) (fun x k (h9 : (x = 33 ∧ k = 1) ∨ (x = 33 ∧ k = 3) ∨ (x = 33 ∧ k = 9) ∨ (x = 33 ∧ k = 10) ∨ (x = 33 ∧ k = 11)) => (show (x = 34 ∨ x = 35 ∨ x = 36 ∨ x = 37 ∨ x = 38 ∨ x = 39 ∨ x = 40 ∨ x = 47 ∨ x = 48 ∨ x = 68) ∨ ((x = 33 ∧ k = 1) ∨ (x = 33 ∧ k = 3) ∨ (x = 33 ∧ k = 9) ∨ (x = 33 ∧ k = 10) ∨ (x = 33 ∧ k = 11)) from h9.elim (fun e9 => Or.inr (show (x = 33 ∧ k = 1) ∨ (x = 33 ∧ k = 3) ∨ (x = 33 ∧ k = 9) ∨ (x = 33 ∧ k = 10) ∨ (x = 33 ∧ k = 11) from Or.inl (e9))) (fun h9 => h9.elim (fun e9 => Or.inr (show (x = 33 ∧ k = 1) ∨ (x = 33 ∧ k = 3) ∨ (x = 33 ∧ k = 9) ∨ (x = 33 ∧ k = 10) ∨ (x = 33 ∧ k = 11) from Or.inr (Or.inl (e9)))) (fun h9 => h9.elim (fun e9 => Or.inr (show (x = 33 ∧ k = 1) ∨ (x = 33 ∧ k = 3) ∨ (x = 33 ∧ k = 9) ∨ (x = 33 ∧ k = 10) ∨ (x = 33 ∧ k = 11) from Or.inr (Or.inr (Or.inl (e9))))) (fun h9 => h9.elim (fun e9 => Or.inr (show (x = 33 ∧ k = 1) ∨ (x = 33 ∧ k = 3) ∨ (x = 33 ∧ k = 9) ∨ (x = 33 ∧ k = 10) ∨ (x = 33 ∧ k = 11) from Or.inr (Or.inr (Or.inr (Or.inl (e9)))))) (fun h9 => Or.inr (show (x = 33 ∧ k = 1) ∨ (x = 33 ∧ k = 3) ∨ (x = 33 ∧ k = 9) ∨ (x = 33 ∧ k = 10) ∨ (x = 33 ∧ k = 11) from Or.inr (Or.inr (Or.inr (Or.inr (h9)))))))))))
                have k_50 : (gi σ10 1 1).toInt = (gi σ9 1 1).toInt := congrArg Int32.toInt (FX_i cσ10 (show ¬ (1 = 34 ∨ 1 = 35 ∨ 1 = 36 ∨ 1 = 37 ∨ 1 = 38 ∨ 1 = 39 ∨ 1 = 40) from by omega) (show ¬ ((1 = 33 ∧ 1 = 1) ∨ (1 = 33 ∧ 1 = 3) ∨ (1 = 33 ∧ 1 = 9) ∨ (1 = 33 ∧ 1 = 10) ∨ (1 = 33 ∧ 1 = 11)) from by omega))
                have k_51 : (gi σ10 1 9).toInt = (gi σ9 1 9).toInt := congrArg Int32.toInt (FX_i cσ10 (show ¬ (1 = 34 ∨ 1 = 35 ∨ 1 = 36 ∨ 1 = 37 ∨ 1 = 38 ∨ 1 = 39 ∨ 1 = 40) from by omega) (show ¬ ((1 = 33 ∧ 9 = 1) ∨ (1 = 33 ∧ 9 = 3) ∨ (1 = 33 ∧ 9 = 9) ∨ (1 = 33 ∧ 9 = 10) ∨ (1 = 33 ∧ 9 = 11)) from by omega))
                have t_52 := XI_c1 mσ10 (id := 33) (k := 1) (lim_C0_1 (Or.inr (Or.inr rfl)))
                have t_53 := XI_c1 mσ10 (id := 33) (k := 9) (lim_C0_9 (Or.inr (Or.inr rfl)))
                have hv_54 : vp_in x1 6 := vp_in_iff.mpr ⟨by omega, by omega⟩
                refine ⟨hv_54, ?_⟩
                refine ⟨hv_54, ?_⟩
                intro σ13 eσ13
                replace H := f_l eσ13 H
                have mσ13 : XI (mV M) σ13 := by rw [eσ13]; exact XIs_n mσ10 (lim_C6 (Or.inr (Or.inr rfl)) _)
                have fσ13 : FX (fun id => id = 34 ∨ id = 35 ∨ id = 36 ∨ id = 37 ∨ id = 38 ∨ id = 39 ∨ id = 40 ∨ id = 47 ∨ id = 48 ∨ id = 68) (fun id k => (id = 33 ∧ k = 1) ∨ (id = 33 ∧ k = 3) ∨ (id = 33 ∧ k = 9) ∨ (id = 33 ∧ k = 10) ∨ (id = 33 ∧ k = 11)) σ0 σ13 := by rw [eσ13]; exact FX_si fσ10 (Or.inl (show 39 = 34 ∨ 39 = 35 ∨ 39 = 36 ∨ 39 = 37 ∨ 39 = 38 ∨ 39 = 39 ∨ 39 = 40 ∨ 39 = 47 ∨ 39 = 48 ∨ 39 = 68 from Or.inr (Or.inr (Or.inr (Or.inr (Or.inr (Or.inl (rfl))))))))
                have k_55 : (gi σ13 1 1).toInt = (gi σ10 1 1).toInt := by rw [eσ13]; exact congrArg Int32.toInt (gi_si_ne (Or.inl (by omega)))
                have k_56 : (gi σ13 1 9).toInt = (gi σ10 1 9).toInt := by rw [eσ13]; exact congrArg Int32.toInt (gi_si_ne (Or.inl (by omega)))
                have k_57 : (gi σ13 33 1).toInt = (gi σ10 33 1).toInt := by rw [eσ13]; exact congrArg Int32.toInt (gi_si_ne (Or.inl (by omega)))
                have k_58 : (gi σ13 33 9).toInt = (gi σ10 33 9).toInt := by rw [eσ13]; exact congrArg Int32.toInt (gi_si_ne (Or.inl (by omega)))
                have nσ13_1 : NN σ13 1 := by rw [eσ13]; exact NN_si nσ10_1 (by omega) (fun h9 => absurd h9 (by omega))
                have nσ13_33 : NN σ13 33 := by rw [eσ13]; exact NN_si nσ10_33 (by omega) (fun h9 => absurd h9 (by omega))
                refine kF_X1_goes (Or.inr (Or.inr rfl)) mσ13 nσ13_33 (by omega) (by omega) (by first | with_reducible assumption | with_reducible rfl | omega | assumption | rfl) (fun σ14 mσ14 cσ14 nσ14_33 (pσ14_0 : (gi σ14 33 9).toInt = (gi σ13 33 9).toInt + x3.toInt) hσ14 => ?_)
                replace H := f_v hσ14 H
                have fσ14 : FX (fun id => id = 34 ∨ id = 35 ∨ id = 36 ∨ id = 37 ∨ id = 38 ∨ id = 39 ∨ id = 40 ∨ id = 47 ∨ id = 48 ∨ id = 68) (fun id k => (id = 33 ∧ k = 1) ∨ (id = 33 ∧ k = 3) ∨ (id = 33 ∧ k = 9) ∨ (id = 33 ∧ k = 10) ∨ (id = 33 ∧ k = 11)) σ0 σ14 := FX_tr fσ13 cσ14 (fun x (h9 : x = 47 ∨ x = 48 ∨ x = 36 ∨ x = 37 ∨ x = 38 ∨ x = 39) => h9.elim (fun e9 => (show x = 34 ∨ x = 35 ∨ x = 36 ∨ x = 37 ∨ x = 38 ∨ x = 39 ∨ x = 40 ∨ x = 47 ∨ x = 48 ∨ x = 68 from Or.inr (Or.inr (Or.inr (Or.inr (Or.inr (Or.inr (Or.inr (Or.inl (e9)))))))))) (fun h9 => h9.elim (fun e9 => (show x = 34 ∨ x = 35 ∨ x = 36 ∨ x = 37 ∨ x = 38 ∨ x = 39 ∨ x = 40 ∨ x = 47 ∨ x = 48 ∨ x = 68 from Or.inr (Or.inr (Or.inr (Or.inr (Or.inr (Or.inr (Or.inr (Or.inr (Or.inl (e9))))))))))) (fun h9 => h9.elim (fun e9 => (show x = 34 ∨ x = 35 ∨ x = 36 ∨ x = 37 ∨ x = 38 ∨ x = 39 ∨ x = 40 ∨ x = 47 ∨ x = 48 ∨ x = 68 from Or.inr (Or.inr (Or.inl (e9))))) (fun h9 => h9.elim (fun e9 => (show x = 34 ∨ x = 35 ∨ x = 36 ∨ x = 37 ∨ x = 38 ∨ x = 39 ∨ x = 40 ∨ x = 47 ∨ x = 48 ∨ x = 68 from Or.inr (Or.inr (Or.inr (Or.inl (e9)))))) (fun h9 => h9.elim (fun e9 => (show x = 34 ∨ x = 35 ∨ x = 36 ∨ x = 37 ∨ x = 38 ∨ x = 39 ∨ x = 40 ∨ x = 47 ∨ x = 48 ∨ x = 68 from Or.inr (Or.inr (Or.inr (Or.inr (Or.inl (e9))))))) (fun h9 => (show x = 34 ∨ x = 35 ∨ x = 36 ∨ x = 37 ∨ x = 38 ∨ x = 39 ∨ x = 40 ∨ x = 47 ∨ x = 48 ∨ x = 68 from Or.inr (Or.inr (Or.inr (Or.inr (Or.inr (Or.inl (h9))))))))))))) (fun x k (h9 : (x = 33 ∧ k = 9)) => (show (x = 34 ∨ x = 35 ∨ x = 36 ∨ x = 37 ∨ x = 38 ∨ x = 39 ∨ x = 40 ∨ x = 47 ∨ x = 48 ∨ x = 68) ∨ ((x = 33 ∧ k = 1) ∨ (x = 33 ∧ k = 3) ∨ (x = 33 ∧ k = 9) ∨ (x = 33 ∧ k = 10) ∨ (x = 33 ∧ k = 11)) from Or.inr (show (x = 33 ∧ k = 1) ∨ (x = 33 ∧ k = 3) ∨ (x = 33 ∧ k = 9) ∨ (x = 33 ∧ k = 10) ∨ (x = 33 ∧ k = 11) from Or.inr (Or.inr (Or.inl (h9))))))
                have k_59 : (gi σ14 1 1).toInt = (gi σ13 1 1).toInt := congrArg Int32.toInt (FX_i cσ14 (show ¬ (1 = 47 ∨ 1 = 48 ∨ 1 = 36 ∨ 1 = 37 ∨ 1 = 38 ∨ 1 = 39) from by omega) (show ¬ ((1 = 33 ∧ 1 = 9)) from by omega))
                have k_60 : (gi σ14 1 9).toInt = (gi σ13 1 9).toInt := congrArg Int32.toInt (FX_i cσ14 (show ¬ (1 = 47 ∨ 1 = 48 ∨ 1 = 36 ∨ 1 = 37 ∨ 1 = 38 ∨ 1 = 39) from by omega) (show ¬ ((1 = 33 ∧ 9 = 9)) from by omega))
                have k_61 : (gi σ14 33 1).toInt = (gi σ13 33 1).toInt := congrArg Int32.toInt (FX_i cσ14 (show ¬ (33 = 47 ∨ 33 = 48 ∨ 33 = 36 ∨ 33 = 37 ∨ 33 = 38 ∨ 33 = 39) from by omega) (show ¬ ((33 = 33 ∧ 1 = 9)) from by omega))
                have t_62 := XI_c1 mσ14 (id := 33) (k := 9) (lim_C0_9 (Or.inr (Or.inr rfl)))
                have nσ14_1 : NN σ14 1 := NN_fx nσ13_1 cσ14 (show ¬ (1 = 47 ∨ 1 = 48 ∨ 1 = 36 ∨ 1 = 37 ∨ 1 = 38 ∨ 1 = 39) from by omega) (show ¬ (2 = 47 ∨ 2 = 48 ∨ 2 = 36 ∨ 2 = 37 ∨ 2 = 38 ∨ 2 = 39) from by omega) (show ¬ (3 = 47 ∨ 3 = 48 ∨ 3 = 36 ∨ 3 = 37 ∨ 3 = 38 ∨ 3 = 39) from by omega) (show ¬ ((1 = 33 ∧ 1 = 9)) from by omega) (show ¬ ((1 = 33 ∧ 3 = 9)) from by omega) (fun k (h9 : (2 = 33 ∧ k = 9)) => by omega) (fun k (h9 : (3 = 33 ∧ k = 9)) => by omega)
                refine ⟨?_, ?_⟩
                · intro q_63
                  replace H := f_f q_63 H
                  have w_64 := Int32.toInt_lt x4
                  have w_65 := Int32.le_toInt x4
                  have b_66 : ¬ x4.toInt = 0 := fun h9 => q_63 (Int32.toInt_inj.mp h9)
                  refine kF_X11_hits  mσ14   (fun r17 σ16 mσ16 cσ16 hσ16 => ?_)
                  obtain rfl := FX_nil cσ16
                  replace H := f_b hσ16 H
                  have t_67 := XI_c1 mσ14 (id := 1) (k := 1) (lim_C0_1 (Or.inl rfl))
                  have t_68 := XI_c1 mσ14 (id := 1) (k := 9) (lim_C0_9 (Or.inl rfl))
                  have t_69 := XI_c1 mσ14 (id := 33) (k := 1) (lim_C0_1 (Or.inr (Or.inr rfl)))
                  exact h9ret r17 σ14 mσ14 fσ14 nσ14_1 (H0.trans H.symm)
                · intro q_63
                  replace H := f_t q_63 H
                  have w_70 := Int32.toInt_lt x4
                  have w_71 := Int32.le_toInt x4
                  have b_72 : x4.toInt = 0 := congrArg Int32.toInt q_63
                  refine kF_X1_allAt (Or.inr (Or.inr rfl)) mσ14   (fun r19 σ18 mσ18 cσ18 hσ18 => ?_)
                  obtain rfl := FX_nil cσ18
                  replace H := f_b hσ18 H
                  have t_73 := XI_c1 mσ14 (id := 1) (k := 1) (lim_C0_1 (Or.inl rfl))
                  have t_74 := XI_c1 mσ14 (id := 1) (k := 9) (lim_C0_9 (Or.inl rfl))
                  have t_75 := XI_c1 mσ14 (id := 33) (k := 1) (lim_C0_1 (Or.inr (Or.inr rfl)))
                  exact h9ret (r8 - r19) σ14 mσ14 fσ14 nσ14_1 (H0.trans H.symm)
              · intro q_27
                replace H := f_f q_27 H
                have b_76 : ¬ x3.toInt ≤ 60 := fun h9 => q_27 (Int32.le_iff_toInt_le.mpr h9)
                have z_77 : (-100002 : Int32).toInt = -100002 := rfl
                exact h9ret (-100002 : Int32) σ mσ fσ nσ_1 (H0.trans H.symm)
  have U22 := T 9
  have f0 : FX (fun id => id = 34 ∨ id = 35 ∨ id = 36 ∨ id = 37 ∨ id = 38 ∨ id = 39 ∨ id = 40 ∨ id = 47 ∨ id = 48 ∨ id = 68) (fun id k => (id = 33 ∧ k = 1) ∨ (id = 33 ∧ k = 3) ∨ (id = 33 ∧ k = 9) ∨ (id = 33 ∧ k = 10) ∨ (id = 33 ∧ k = 11)) σ0 σ0 := FX_rf
  have t_78 := XI_c1 m0 (id := 1) (k := 1) (lim_C0_1 (Or.inl rfl))
  have t_79 := XI_c1 m0 (id := 1) (k := 9) (lim_C0_9 (Or.inl rfl))
  have t_80 := XI_c1 m0 (id := 33) (k := 1) (lim_C0_1 (Or.inr (Or.inr rfl)))
  have t_81 := XI_c1 m0 (id := 33) (k := 9) (lim_C0_9 (Or.inr (Or.inr rfl)))
  have H := H0
  unfold F_X11_stop at H
  refine s_X11_stop_0 C hN  ?_
  refine kF_X11_isMower  m0   (fun r2 σ1 mσ1 cσ1 plσ1 phσ1 (pσ1_0 : (r2.toInt = 1 ∧ 0 ≤ a1.toInt ∧ a1.toInt < (gi σ0 1 1).toInt) ∨ (r2.toInt = 0 ∧ (a1.toInt < 0 ∨ (gi σ0 1 1).toInt ≤ a1.toInt))) hσ1 => ?_)
  obtain rfl := FX_nil cσ1
  replace H := f_b hσ1 H
  refine ⟨?_, ?_⟩
  · intro q_82
    replace H := f_t q_82 H
    have b_83 : r2.toInt = 0 := congrArg Int32.toInt q_82
    have z_84 : (-100001 : Int32).toInt = -100001 := rfl
    exact h9ret (-100001 : Int32) σ0 m0 f0 nn_1 (H0.trans H.symm)
  · intro q_82
    replace H := f_f q_82 H
    have b_85 : ¬ r2.toInt = 0 := fun h9 => q_82 (Int32.toInt_inj.mp h9)
    refine ⟨?_, ?_⟩
    · intro q_86
      replace H := f_t q_86 H
      have w_87 := Int32.toInt_lt a4
      have w_88 := Int32.le_toInt a4
      have b_89 : a4.toInt = 0 := congrArg Int32.toInt q_86
      have w_90 := Int32.toInt_lt a1
      have w_91 := Int32.le_toInt a1
      have w_92 := Int32.toInt_lt a2
      have w_93 := Int32.le_toInt a2
      have w_94 := Int32.toInt_lt a3
      have w_95 := Int32.le_toInt a3
      exact U22 a1 a2 a3 a4 σ0 m0 f0 nn_1 (by omega) (by omega) H (by omega)
    · intro q_86
      replace H := f_f q_86 H
      have w_96 := Int32.toInt_lt a4
      have w_97 := Int32.le_toInt a4
      have b_98 : ¬ a4.toInt = 0 := fun h9 => q_86 (Int32.toInt_inj.mp h9)
      refine ⟨?_, ?_⟩
      · intro q_99
        replace H := f_t q_99 H
        have b_100 : a4.toInt = 1 := congrArg Int32.toInt q_99
        have w_101 := Int32.toInt_lt a1
        have w_102 := Int32.le_toInt a1
        have w_103 := Int32.toInt_lt a2
        have w_104 := Int32.le_toInt a2
        have w_105 := Int32.toInt_lt a3
        have w_106 := Int32.le_toInt a3
        exact U22 a1 a2 a3 a4 σ0 m0 f0 nn_1 (by omega) (by omega) H (by omega)
      · intro q_99
        replace H := f_f q_99 H
        have b_107 : ¬ a4.toInt = 1 := fun h9 => q_99 (Int32.toInt_inj.mp h9)
        have z_108 : (-100001 : Int32).toInt = -100001 := rfl
        exact h9ret (-100001 : Int32) σ0 m0 f0 nn_1 (H0.trans H.symm)
set_option maxRecDepth 100000 in
set_option maxHeartbeats 4000000 in
theorem kF_X11_alone {l : Launch} {V : Vx} {a1 : Int32} {σ0 : Sg} {Qk : Int32 → Sg → Prop} (m0 : XI V σ0) (nn_1 : NN σ0 1) (pre0 : (gi σ0 1 9).toInt ≤ 9999) (h9ret : ∀ (r : Int32) (σ' : Sg), XI V σ' → FX (fun id => id = 34 ∨ id = 35 ∨ id = 36 ∨ id = 37 ∨ id = 38 ∨ id = 39 ∨ id = 40 ∨ id = 47 ∨ id = 48) (fun id k => (id = 33 ∧ k = 1) ∨ (id = 33 ∧ k = 3) ∨ (id = 33 ∧ k = 9) ∨ (id = 33 ∧ k = 10) ∨ (id = 33 ∧ k = 11)) σ0 σ' → (NN σ' 1) → (F_X11_alone a1 σ0 = (r, σ')) → Qk r σ') : K_X11_alone l V a1 σ0 Qk := by
  refine e_X11_alone (fun M hl hV hN C => ?_)
  subst hl
  subst hV
  obtain ⟨R9, H0⟩ : ∃ R9, F_X11_alone a1 σ0 = R9 := ⟨_, rfl⟩
  have T : ∀ n : Nat, (∀ (x1 : Int32) (x2 : Int32) (x3 : Int32) (σ : Sg), XI (mV M) σ → FX (fun id => id = 34 ∨ id = 35 ∨ id = 36 ∨ id = 37 ∨ id = 38 ∨ id = 39 ∨ id = 40 ∨ id = 47 ∨ id = 48) (fun id k => (id = 33 ∧ k = 1) ∨ (id = 33 ∧ k = 3) ∨ (id = 33 ∧ k = 9) ∨ (id = 33 ∧ k = 10) ∨ (id = 33 ∧ k = 11)) σ0 σ → NN σ 1 → (1 ≤ x1.toInt) → (x1.toInt ≤ 60) → (0 ≤ x3.toInt) → (x3.toInt ≤ 6) → (LF_X11_alone n x1 x2 x3 σ = R9) → (7 - x3.toInt).toNat < n → PS M 43 [(0, .ref 0), (1, .int x1), (2, .int x2), (3, .int x3)] [] σ (0, 0)) := by
    intro n
    induction n with
    | zero => exact fun _ _ _ _ _ _ _ _ _ _ _ _ h8 => absurd h8 (Nat.not_lt_zero _)
    | succ n ih =>
      have ih43 := ih
      · intro x1 x2 x3 σ mσ fσ nσ_1 lx1 ux1 lx3 ux3 H hmu
        replace H : LB_X11_alone_43 (LF_X11_alone n) x1 x2 x3 σ = R9 := H
        unfold LB_X11_alone_43 at H
        have k_1 : (gi σ 1 1).toInt = (gi σ0 1 1).toInt := congrArg Int32.toInt (FX_i fσ (show ¬ (1 = 34 ∨ 1 = 35 ∨ 1 = 36 ∨ 1 = 37 ∨ 1 = 38 ∨ 1 = 39 ∨ 1 = 40 ∨ 1 = 47 ∨ 1 = 48) from by omega) (show ¬ ((1 = 33 ∧ 1 = 1) ∨ (1 = 33 ∧ 1 = 3) ∨ (1 = 33 ∧ 1 = 9) ∨ (1 = 33 ∧ 1 = 10) ∨ (1 = 33 ∧ 1 = 11)) from by omega))
        have t_2 := XI_c1 mσ (id := 1) (k := 1) (lim_C0_1 (Or.inl rfl))
        have k_3 : (gi σ 1 9).toInt = (gi σ0 1 9).toInt := congrArg Int32.toInt (FX_i fσ (show ¬ (1 = 34 ∨ 1 = 35 ∨ 1 = 36 ∨ 1 = 37 ∨ 1 = 38 ∨ 1 = 39 ∨ 1 = 40 ∨ 1 = 47 ∨ 1 = 48) from by omega) (show ¬ ((1 = 33 ∧ 9 = 1) ∨ (1 = 33 ∧ 9 = 3) ∨ (1 = 33 ∧ 9 = 9) ∨ (1 = 33 ∧ 9 = 10) ∨ (1 = 33 ∧ 9 = 11)) from by omega))
        have t_4 := XI_c1 mσ (id := 1) (k := 9) (lim_C0_9 (Or.inl rfl))
        have t_5 := XI_c1 mσ (id := 33) (k := 1) (lim_C0_1 (Or.inr (Or.inr rfl)))
        have t_6 := XI_c1 mσ (id := 33) (k := 9) (lim_C0_9 (Or.inr (Or.inr rfl)))
        refine s_X11_alone_43 C hN  ?_
        refine ⟨?_, ?_⟩
        · intro q_7
          replace H := f_t q_7 H
          have b_8 : (gi σ 1 1).toInt ≤ x3.toInt := Int32.le_iff_toInt_le.mp q_7
          exact h9ret x2 σ mσ fσ nσ_1 (H0.trans H.symm)
        · intro q_7
          replace H := f_f q_7 H
          have b_9 : ¬ (gi σ 1 1).toInt ≤ x3.toInt := fun h9 => q_7 (Int32.le_iff_toInt_le.mpr h9)
          have z_10 : (1 : Int32).toInt = 1 := rfl
          refine kF_X1_becomes (Or.inr (Or.inr rfl)) (Or.inl rfl) mσ nσ_1 (by first | with_reducible assumption | with_reducible rfl | omega | assumption | rfl) (fun σ2 mσ2 cσ2 nσ2_1 nσ2_33 (pσ2_0 : (gi σ2 33 1).toInt = (gi σ 1 1).toInt) (pσ2_1 : (gi σ2 33 3).toInt = (gi σ 1 3).toInt) (pσ2_2 : (gi σ2 33 9).toInt = (gi σ 1 9).toInt) (pσ2_3 : CPY σ σ2 33 1) hσ2 => ?_)
          replace H := f_v hσ2 H
          have fσ2 : FX (fun id => id = 34 ∨ id = 35 ∨ id = 36 ∨ id = 37 ∨ id = 38 ∨ id = 39 ∨ id = 40 ∨ id = 47 ∨ id = 48) (fun id k => (id = 33 ∧ k = 1) ∨ (id = 33 ∧ k = 3) ∨ (id = 33 ∧ k = 9) ∨ (id = 33 ∧ k = 10) ∨ (id = 33 ∧ k = 11)) σ0 σ2 := FX_tr fσ cσ2 (fun x (h9 : x = 34 ∨ x = 35 ∨ x = 36 ∨ x = 37 ∨ x = 38 ∨ x = 39 ∨ x = 40) => h9.elim (fun e9 => (show x = 34 ∨ x = 35 ∨ x = 36 ∨ x = 37 ∨ x = 38 ∨ x = 39 ∨ x = 40 ∨ x = 47 ∨ x = 48 from Or.inl (e9))) (fun h9 => h9.elim (fun e9 => (show x = 34 ∨ x = 35 ∨ x = 36 ∨ x = 37 ∨ x = 38 ∨ x = 39 ∨ x = 40 ∨ x = 47 ∨ x = 48 from Or.inr (Or.inl (e9)))) (fun h9 => h9.elim (fun e9 => (show x = 34 ∨ x = 35 ∨ x = 36 ∨ x = 37 ∨ x = 38 ∨ x = 39 ∨ x = 40 ∨ x = 47 ∨ x = 48 from Or.inr (Or.inr (Or.inl (e9))))) (fun h9 => h9.elim (fun e9 => (show x = 34 ∨ x = 35 ∨ x = 36 ∨ x = 37 ∨ x = 38 ∨ x = 39 ∨ x = 40 ∨ x = 47 ∨ x = 48 from Or.inr (Or.inr (Or.inr (Or.inl (e9)))))) (fun h9 => h9.elim (fun e9 => (show x = 34 ∨ x = 35 ∨ x = 36 ∨ x = 37 ∨ x = 38 ∨ x = 39 ∨ x = 40 ∨ x = 47 ∨ x = 48 from Or.inr (Or.inr (Or.inr (Or.inr (Or.inl (e9))))))) (fun h9 => h9.elim (fun e9 => (show x = 34 ∨ x = 35 ∨ x = 36 ∨ x = 37 ∨ x = 38 ∨ x = 39 ∨ x = 40 ∨ x = 47 ∨ x = 48 from Or.inr (Or.inr (Or.inr (Or.inr (Or.inr (Or.inl (e9)))))))) (fun h9 => (show x = 34 ∨ x = 35 ∨ x = 36 ∨ x = 37 ∨ x = 38 ∨ x = 39 ∨ x = 40 ∨ x = 47 ∨ x = 48 from Or.inr (Or.inr (Or.inr (Or.inr (Or.inr (Or.inr (Or.inl (h9))))))))))))))) (fun x k (h9 : (x = 33 ∧ k = 1) ∨ (x = 33 ∧ k = 3) ∨ (x = 33 ∧ k = 9) ∨ (x = 33 ∧ k = 10) ∨ (x = 33 ∧ k = 11)) => (show (x = 34 ∨ x = 35 ∨ x = 36 ∨ x = 37 ∨ x = 38 ∨ x = 39 ∨ x = 40 ∨ x = 47 ∨ x = 48) ∨ ((x = 33 ∧ k = 1) ∨ (x = 33 ∧ k = 3) ∨ (x = 33 ∧ k = 9) ∨ (x = 33 ∧ k = 10) ∨ (x = 33 ∧ k = 11)) from h9.elim (fun e9 => Or.inr (show (x = 33 ∧ k = 1) ∨ (x = 33 ∧ k = 3) ∨ (x = 33 ∧ k = 9) ∨ (x = 33 ∧ k = 10) ∨ (x = 33 ∧ k = 11) from Or.inl (e9))) (fun h9 => h9.elim (fun e9 => Or.inr (show (x = 33 ∧ k = 1) ∨ (x = 33 ∧ k = 3) ∨ (x = 33 ∧ k = 9) ∨ (x = 33 ∧ k = 10) ∨ (x = 33 ∧ k = 11) from Or.inr (Or.inl (e9)))) (fun h9 => h9.elim (fun e9 => Or.inr (show (x = 33 ∧ k = 1) ∨ (x = 33 ∧ k = 3) ∨ (x = 33 ∧ k = 9) ∨ (x = 33 ∧ k = 10) ∨ (x = 33 ∧ k = 11) from Or.inr (Or.inr (Or.inl (e9))))) (fun h9 => h9.elim (fun e9 => Or.inr (show (x = 33 ∧ k = 1) ∨ (x = 33 ∧ k = 3) ∨ (x = 33 ∧ k = 9) ∨ (x = 33 ∧ k = 10) ∨ (x = 33 ∧ k = 11) from Or.inr (Or.inr (Or.inr (Or.inl (e9)))))) (fun h9 => Or.inr (show (x = 33 ∧ k = 1) ∨ (x = 33 ∧ k = 3) ∨ (x = 33 ∧ k = 9) ∨ (x = 33 ∧ k = 10) ∨ (x = 33 ∧ k = 11) from Or.inr (Or.inr (Or.inr (Or.inr (h9)))))))))))
          have k_11 : (gi σ2 1 1).toInt = (gi σ 1 1).toInt := congrArg Int32.toInt (FX_i cσ2 (show ¬ (1 = 34 ∨ 1 = 35 ∨ 1 = 36 ∨ 1 = 37 ∨ 1 = 38 ∨ 1 = 39 ∨ 1 = 40) from by omega) (show ¬ ((1 = 33 ∧ 1 = 1) ∨ (1 = 33 ∧ 1 = 3) ∨ (1 = 33 ∧ 1 = 9) ∨ (1 = 33 ∧ 1 = 10) ∨ (1 = 33 ∧ 1 = 11)) from by omega))
          have k_12 : (gi σ2 1 9).toInt = (gi σ 1 9).toInt := congrArg Int32.toInt (FX_i cσ2 (show ¬ (1 = 34 ∨ 1 = 35 ∨ 1 = 36 ∨ 1 = 37 ∨ 1 = 38 ∨ 1 = 39 ∨ 1 = 40) from by omega) (show ¬ ((1 = 33 ∧ 9 = 1) ∨ (1 = 33 ∧ 9 = 3) ∨ (1 = 33 ∧ 9 = 9) ∨ (1 = 33 ∧ 9 = 10) ∨ (1 = 33 ∧ 9 = 11)) from by omega))
          have t_13 := XI_c1 mσ2 (id := 33) (k := 1) (lim_C0_1 (Or.inr (Or.inr rfl)))
          have t_14 := XI_c1 mσ2 (id := 33) (k := 9) (lim_C0_9 (Or.inr (Or.inr rfl)))
          have z_15 : (0 : Int32).toInt = 0 := rfl
          have hv_16 : vp_in (0 : Int32) 6 := vp_in_iff.mpr ⟨by omega, by omega⟩
          refine ⟨hv_16, ?_⟩
          intro σ4 eσ4
          replace H := f_l eσ4 H
          have mσ4 : XI (mV M) σ4 := by rw [eσ4]; exact XIs_b mσ2 (lim_C2 (Or.inr (Or.inr rfl)) _) (by omega) (by omega)
          have fσ4 : FX (fun id => id = 34 ∨ id = 35 ∨ id = 36 ∨ id = 37 ∨ id = 38 ∨ id = 39 ∨ id = 40 ∨ id = 47 ∨ id = 48) (fun id k => (id = 33 ∧ k = 1) ∨ (id = 33 ∧ k = 3) ∨ (id = 33 ∧ k = 9) ∨ (id = 33 ∧ k = 10) ∨ (id = 33 ∧ k = 11)) σ0 σ4 := by rw [eσ4]; exact FX_si fσ2 (Or.inl (show 35 = 34 ∨ 35 = 35 ∨ 35 = 36 ∨ 35 = 37 ∨ 35 = 38 ∨ 35 = 39 ∨ 35 = 40 ∨ 35 = 47 ∨ 35 = 48 from Or.inr (Or.inl (rfl))))
          have k_17 : (gi σ4 1 1).toInt = (gi σ2 1 1).toInt := by rw [eσ4]; exact congrArg Int32.toInt (gi_si_ne (Or.inl (by omega)))
          have k_18 : (gi σ4 1 9).toInt = (gi σ2 1 9).toInt := by rw [eσ4]; exact congrArg Int32.toInt (gi_si_ne (Or.inl (by omega)))
          have k_19 : (gi σ4 33 1).toInt = (gi σ2 33 1).toInt := by rw [eσ4]; exact congrArg Int32.toInt (gi_si_ne (Or.inl (by omega)))
          have k_20 : (gi σ4 33 9).toInt = (gi σ2 33 9).toInt := by rw [eσ4]; exact congrArg Int32.toInt (gi_si_ne (Or.inl (by omega)))
          have nσ4_1 : NN σ4 1 := by rw [eσ4]; exact NN_si nσ2_1 (by omega) (fun h9 => absurd h9 (by omega))
          have nσ4_33 : NN σ4 33 := by rw [eσ4]; exact NN_line nσ2_33 (by omega)
          intro σ5 eσ5
          replace H := f_l eσ5 H
          have mσ5 : XI (mV M) σ5 := by rw [eσ5]; exact XIs_b mσ4 (lim_C0_3 (Or.inr (Or.inr rfl))) (by omega) (by omega)
          have fσ5 : FX (fun id => id = 34 ∨ id = 35 ∨ id = 36 ∨ id = 37 ∨ id = 38 ∨ id = 39 ∨ id = 40 ∨ id = 47 ∨ id = 48) (fun id k => (id = 33 ∧ k = 1) ∨ (id = 33 ∧ k = 3) ∨ (id = 33 ∧ k = 9) ∨ (id = 33 ∧ k = 10) ∨ (id = 33 ∧ k = 11)) σ0 σ5 := by rw [eσ5]; exact FX_si fσ4 (Or.inr (show (33 = 33 ∧ 3 = 1) ∨ (33 = 33 ∧ 3 = 3) ∨ (33 = 33 ∧ 3 = 9) ∨ (33 = 33 ∧ 3 = 10) ∨ (33 = 33 ∧ 3 = 11) from Or.inr (Or.inl (⟨rfl, rfl⟩))))
          have k_21 : (gi σ5 1 1).toInt = (gi σ4 1 1).toInt := by rw [eσ5]; exact congrArg Int32.toInt (gi_si_ne (Or.inl (by omega)))
          have k_22 : (gi σ5 1 9).toInt = (gi σ4 1 9).toInt := by rw [eσ5]; exact congrArg Int32.toInt (gi_si_ne (Or.inl (by omega)))
          have k_23 : (gi σ5 33 1).toInt = (gi σ4 33 1).toInt := gk_r eσ5 rfl
          have k_24 : (gi σ5 33 9).toInt = (gi σ4 33 9).toInt := gk_r eσ5 rfl
          have nσ5_1 : NN σ5 1 := by rw [eσ5]; exact NN_si nσ4_1 (by omega) (fun h9 => absurd h9 (by omega))
          have nσ5_33 : NN σ5 33 := by rw [eσ5]; exact NN_one nσ4_33 (by rw [show (gi σ4 (33 + 2) 0).toInt = x3.toInt from by rw [eσ4]; exact congrArg Int32.toInt gi_si_eq]; omega) rfl
          refine kF_X1_goes (Or.inr (Or.inr rfl)) mσ5 nσ5_33 (by omega) (by omega) (by first | with_reducible assumption | with_reducible rfl | omega | assumption | rfl) (fun σ6 mσ6 cσ6 nσ6_33 (pσ6_0 : (gi σ6 33 9).toInt = (gi σ5 33 9).toInt + x1.toInt) hσ6 => ?_)
          replace H := f_v hσ6 H
          have fσ6 : FX (fun id => id = 34 ∨ id = 35 ∨ id = 36 ∨ id = 37 ∨ id = 38 ∨ id = 39 ∨ id = 40 ∨ id = 47 ∨ id = 48) (fun id k => (id = 33 ∧ k = 1) ∨ (id = 33 ∧ k = 3) ∨ (id = 33 ∧ k = 9) ∨ (id = 33 ∧ k = 10) ∨ (id = 33 ∧ k = 11)) σ0 σ6 := FX_tr fσ5 cσ6 (fun x (h9 : x = 47 ∨ x = 48 ∨ x = 36 ∨ x = 37 ∨ x = 38 ∨ x = 39) => h9.elim (fun e9 => (show x = 34 ∨ x = 35 ∨ x = 36 ∨ x = 37 ∨ x = 38 ∨ x = 39 ∨ x = 40 ∨ x = 47 ∨ x = 48 from Or.inr (Or.inr (Or.inr (Or.inr (Or.inr (Or.inr (Or.inr (Or.inl (e9)))))))))) (fun h9 => h9.elim (fun e9 => (show x = 34 ∨ x = 35 ∨ x = 36 ∨ x = 37 ∨ x = 38 ∨ x = 39 ∨ x = 40 ∨ x = 47 ∨ x = 48 from Or.inr (Or.inr (Or.inr (Or.inr (Or.inr (Or.inr (Or.inr (Or.inr (e9)))))))))) (fun h9 => h9.elim (fun e9 => (show x = 34 ∨ x = 35 ∨ x = 36 ∨ x = 37 ∨ x = 38 ∨ x = 39 ∨ x = 40 ∨ x = 47 ∨ x = 48 from Or.inr (Or.inr (Or.inl (e9))))) (fun h9 => h9.elim (fun e9 => (show x = 34 ∨ x = 35 ∨ x = 36 ∨ x = 37 ∨ x = 38 ∨ x = 39 ∨ x = 40 ∨ x = 47 ∨ x = 48 from Or.inr (Or.inr (Or.inr (Or.inl (e9)))))) (fun h9 => h9.elim (fun e9 => (show x = 34 ∨ x = 35 ∨ x = 36 ∨ x = 37 ∨ x = 38 ∨ x = 39 ∨ x = 40 ∨ x = 47 ∨ x = 48 from Or.inr (Or.inr (Or.inr (Or.inr (Or.inl (e9))))))) (fun h9 => (show x = 34 ∨ x = 35 ∨ x = 36 ∨ x = 37 ∨ x = 38 ∨ x = 39 ∨ x = 40 ∨ x = 47 ∨ x = 48 from Or.inr (Or.inr (Or.inr (Or.inr (Or.inr (Or.inl (h9))))))))))))) (fun x k (h9 : (x = 33 ∧ k = 9)) => (show (x = 34 ∨ x = 35 ∨ x = 36 ∨ x = 37 ∨ x = 38 ∨ x = 39 ∨ x = 40 ∨ x = 47 ∨ x = 48) ∨ ((x = 33 ∧ k = 1) ∨ (x = 33 ∧ k = 3) ∨ (x = 33 ∧ k = 9) ∨ (x = 33 ∧ k = 10) ∨ (x = 33 ∧ k = 11)) from Or.inr (show (x = 33 ∧ k = 1) ∨ (x = 33 ∧ k = 3) ∨ (x = 33 ∧ k = 9) ∨ (x = 33 ∧ k = 10) ∨ (x = 33 ∧ k = 11) from Or.inr (Or.inr (Or.inl (h9))))))
          have k_25 : (gi σ6 1 1).toInt = (gi σ5 1 1).toInt := congrArg Int32.toInt (FX_i cσ6 (show ¬ (1 = 47 ∨ 1 = 48 ∨ 1 = 36 ∨ 1 = 37 ∨ 1 = 38 ∨ 1 = 39) from by omega) (show ¬ ((1 = 33 ∧ 1 = 9)) from by omega))
          have k_26 : (gi σ6 1 9).toInt = (gi σ5 1 9).toInt := congrArg Int32.toInt (FX_i cσ6 (show ¬ (1 = 47 ∨ 1 = 48 ∨ 1 = 36 ∨ 1 = 37 ∨ 1 = 38 ∨ 1 = 39) from by omega) (show ¬ ((1 = 33 ∧ 9 = 9)) from by omega))
          have k_27 : (gi σ6 33 1).toInt = (gi σ5 33 1).toInt := congrArg Int32.toInt (FX_i cσ6 (show ¬ (33 = 47 ∨ 33 = 48 ∨ 33 = 36 ∨ 33 = 37 ∨ 33 = 38 ∨ 33 = 39) from by omega) (show ¬ ((33 = 33 ∧ 1 = 9)) from by omega))
          have t_28 := XI_c1 mσ6 (id := 33) (k := 9) (lim_C0_9 (Or.inr (Or.inr rfl)))
          have nσ6_1 : NN σ6 1 := NN_fx nσ5_1 cσ6 (show ¬ (1 = 47 ∨ 1 = 48 ∨ 1 = 36 ∨ 1 = 37 ∨ 1 = 38 ∨ 1 = 39) from by omega) (show ¬ (2 = 47 ∨ 2 = 48 ∨ 2 = 36 ∨ 2 = 37 ∨ 2 = 38 ∨ 2 = 39) from by omega) (show ¬ (3 = 47 ∨ 3 = 48 ∨ 3 = 36 ∨ 3 = 37 ∨ 3 = 38 ∨ 3 = 39) from by omega) (show ¬ ((1 = 33 ∧ 1 = 9)) from by omega) (show ¬ ((1 = 33 ∧ 3 = 9)) from by omega) (fun k (h9 : (2 = 33 ∧ k = 9)) => by omega) (fun k (h9 : (3 = 33 ∧ k = 9)) => by omega)
          have hv_29 : vp_in x3 6 := vp_in_iff.mpr ⟨by omega, by omega⟩
          refine ⟨hv_29, ?_⟩
          intro v8 ev8
          replace H := f_l ev8 H
          intro v9 ev9
          replace H := f_l ev9 H
          have t_30 : (x3 + (1 : Int32)).toInt = x3.toInt + 1 := i_add (x := x3) (y := (1 : Int32)) (by show (_ : Int) ≤ x3.toInt + 1; omega) (by show x3.toInt + 1 ≤ (_ : Int); omega)
          have t_31 : v9.toInt = (x3 + (1 : Int32)).toInt := congrArg Int32.toInt ev9
          have w_32 := Int32.toInt_lt v8
          have w_33 := Int32.le_toInt v8
          exact ih43 x1 v8 v9 σ6 mσ6 fσ6 nσ6_1 (by omega) (by omega) (by omega) (by omega) H (by omega)
  have U43 := T 9
  have f0 : FX (fun id => id = 34 ∨ id = 35 ∨ id = 36 ∨ id = 37 ∨ id = 38 ∨ id = 39 ∨ id = 40 ∨ id = 47 ∨ id = 48) (fun id k => (id = 33 ∧ k = 1) ∨ (id = 33 ∧ k = 3) ∨ (id = 33 ∧ k = 9) ∨ (id = 33 ∧ k = 10) ∨ (id = 33 ∧ k = 11)) σ0 σ0 := FX_rf
  have t_34 := XI_c1 m0 (id := 1) (k := 1) (lim_C0_1 (Or.inl rfl))
  have t_35 := XI_c1 m0 (id := 1) (k := 9) (lim_C0_9 (Or.inl rfl))
  have t_36 := XI_c1 m0 (id := 33) (k := 1) (lim_C0_1 (Or.inr (Or.inr rfl)))
  have t_37 := XI_c1 m0 (id := 33) (k := 9) (lim_C0_9 (Or.inr (Or.inr rfl)))
  have H := H0
  unfold F_X11_alone at H
  refine s_X11_alone_0 C hN  ?_
  refine ⟨?_, ?_⟩
  · intro q_38
    replace H := f_t q_38 H
    have w_39 := Int32.toInt_lt a1
    have w_40 := Int32.le_toInt a1
    have b_41 : a1.toInt < 1 := Int32.lt_iff_toInt_lt.mp q_38
    have z_42 : (-100002 : Int32).toInt = -100002 := rfl
    exact h9ret (-100002 : Int32) σ0 m0 f0 nn_1 (H0.trans H.symm)
  · intro q_38
    replace H := f_f q_38 H
    have w_43 := Int32.toInt_lt a1
    have w_44 := Int32.le_toInt a1
    have b_45 : ¬ a1.toInt < 1 := fun h9 => q_38 (Int32.lt_iff_toInt_lt.mpr h9)
    refine ⟨?_, ?_⟩
    · intro q_46
      replace H := f_t q_46 H
      have b_47 : a1.toInt ≤ 60 := Int32.le_iff_toInt_le.mp q_46
      have z_48 : (1 : Int32).toInt = 1 := rfl
      refine kF_X1_becomes (Or.inr (Or.inr rfl)) (Or.inl rfl) m0 nn_1 (by first | with_reducible assumption | with_reducible rfl | omega | assumption | rfl) (fun σ3 mσ3 cσ3 nσ3_1 nσ3_33 (pσ3_0 : (gi σ3 33 1).toInt = (gi σ0 1 1).toInt) (pσ3_1 : (gi σ3 33 3).toInt = (gi σ0 1 3).toInt) (pσ3_2 : (gi σ3 33 9).toInt = (gi σ0 1 9).toInt) (pσ3_3 : CPY σ0 σ3 33 1) hσ3 => ?_)
      replace H := f_v hσ3 H
      have fσ3 : FX (fun id => id = 34 ∨ id = 35 ∨ id = 36 ∨ id = 37 ∨ id = 38 ∨ id = 39 ∨ id = 40 ∨ id = 47 ∨ id = 48) (fun id k => (id = 33 ∧ k = 1) ∨ (id = 33 ∧ k = 3) ∨ (id = 33 ∧ k = 9) ∨ (id = 33 ∧ k = 10) ∨ (id = 33 ∧ k = 11)) σ0 σ3 := FX_tr f0 cσ3 (fun x (h9 : x = 34 ∨ x = 35 ∨ x = 36 ∨ x = 37 ∨ x = 38 ∨ x = 39 ∨ x = 40) => h9.elim (fun e9 => (show x = 34 ∨ x = 35 ∨ x = 36 ∨ x = 37 ∨ x = 38 ∨ x = 39 ∨ x = 40 ∨ x = 47 ∨ x = 48 from Or.inl (e9))) (fun h9 => h9.elim (fun e9 => (show x = 34 ∨ x = 35 ∨ x = 36 ∨ x = 37 ∨ x = 38 ∨ x = 39 ∨ x = 40 ∨ x = 47 ∨ x = 48 from Or.inr (Or.inl (e9)))) (fun h9 => h9.elim (fun e9 => (show x = 34 ∨ x = 35 ∨ x = 36 ∨ x = 37 ∨ x = 38 ∨ x = 39 ∨ x = 40 ∨ x = 47 ∨ x = 48 from Or.inr (Or.inr (Or.inl (e9))))) (fun h9 => h9.elim (fun e9 => (show x = 34 ∨ x = 35 ∨ x = 36 ∨ x = 37 ∨ x = 38 ∨ x = 39 ∨ x = 40 ∨ x = 47 ∨ x = 48 from Or.inr (Or.inr (Or.inr (Or.inl (e9)))))) (fun h9 => h9.elim (fun e9 => (show x = 34 ∨ x = 35 ∨ x = 36 ∨ x = 37 ∨ x = 38 ∨ x = 39 ∨ x = 40 ∨ x = 47 ∨ x = 48 from Or.inr (Or.inr (Or.inr (Or.inr (Or.inl (e9))))))) (fun h9 => h9.elim (fun e9 => (show x = 34 ∨ x = 35 ∨ x = 36 ∨ x = 37 ∨ x = 38 ∨ x = 39 ∨ x = 40 ∨ x = 47 ∨ x = 48 from Or.inr (Or.inr (Or.inr (Or.inr (Or.inr (Or.inl (e9)))))))) (fun h9 => (show x = 34 ∨ x = 35 ∨ x = 36 ∨ x = 37 ∨ x = 38 ∨ x = 39 ∨ x = 40 ∨ x = 47 ∨ x = 48 from Or.inr (Or.inr (Or.inr (Or.inr (Or.inr (Or.inr (Or.inl (h9))))))))))))))) (fun x k (h9 : (x = 33 ∧ k = 1) ∨ (x = 33 ∧ k = 3) ∨ (x = 33 ∧ k = 9) ∨ (x = 33 ∧ k = 10) ∨ (x = 33 ∧ k = 11)) => (show (x = 34 ∨ x = 35 ∨ x = 36 ∨ x = 37 ∨ x = 38 ∨ x = 39 ∨ x = 40 ∨ x = 47 ∨ x = 48) ∨ ((x = 33 ∧ k = 1) ∨ (x = 33 ∧ k = 3) ∨ (x = 33 ∧ k = 9) ∨ (x = 33 ∧ k = 10) ∨ (x = 33 ∧ k = 11)) from h9.elim (fun e9 => Or.inr (show (x = 33 ∧ k = 1) ∨ (x = 33 ∧ k = 3) ∨ (x = 33 ∧ k = 9) ∨ (x = 33 ∧ k = 10) ∨ (x = 33 ∧ k = 11) from Or.inl (e9))) (fun h9 => h9.elim (fun e9 => Or.inr (show (x = 33 ∧ k = 1) ∨ (x = 33 ∧ k = 3) ∨ (x = 33 ∧ k = 9) ∨ (x = 33 ∧ k = 10) ∨ (x = 33 ∧ k = 11) from Or.inr (Or.inl (e9)))) (fun h9 => h9.elim (fun e9 => Or.inr (show (x = 33 ∧ k = 1) ∨ (x = 33 ∧ k = 3) ∨ (x = 33 ∧ k = 9) ∨ (x = 33 ∧ k = 10) ∨ (x = 33 ∧ k = 11) from Or.inr (Or.inr (Or.inl (e9))))) (fun h9 => h9.elim (fun e9 => Or.inr (show (x = 33 ∧ k = 1) ∨ (x = 33 ∧ k = 3) ∨ (x = 33 ∧ k = 9) ∨ (x = 33 ∧ k = 10) ∨ (x = 33 ∧ k = 11) from Or.inr (Or.inr (Or.inr (Or.inl (e9)))))) (fun h9 => Or.inr (show (x = 33 ∧ k = 1) ∨ (x = 33 ∧ k = 3) ∨ (x = 33 ∧ k = 9) ∨ (x = 33 ∧ k = 10) ∨ (x = 33 ∧ k = 11) from Or.inr (Or.inr (Or.inr (Or.inr (h9)))))))))))
      have k_49 : (gi σ3 1 1).toInt = (gi σ0 1 1).toInt := congrArg Int32.toInt (FX_i cσ3 (show ¬ (1 = 34 ∨ 1 = 35 ∨ 1 = 36 ∨ 1 = 37 ∨ 1 = 38 ∨ 1 = 39 ∨ 1 = 40) from by omega) (show ¬ ((1 = 33 ∧ 1 = 1) ∨ (1 = 33 ∧ 1 = 3) ∨ (1 = 33 ∧ 1 = 9) ∨ (1 = 33 ∧ 1 = 10) ∨ (1 = 33 ∧ 1 = 11)) from by omega))
      have k_50 : (gi σ3 1 9).toInt = (gi σ0 1 9).toInt := congrArg Int32.toInt (FX_i cσ3 (show ¬ (1 = 34 ∨ 1 = 35 ∨ 1 = 36 ∨ 1 = 37 ∨ 1 = 38 ∨ 1 = 39 ∨ 1 = 40) from by omega) (show ¬ ((1 = 33 ∧ 9 = 1) ∨ (1 = 33 ∧ 9 = 3) ∨ (1 = 33 ∧ 9 = 9) ∨ (1 = 33 ∧ 9 = 10) ∨ (1 = 33 ∧ 9 = 11)) from by omega))
      have t_51 := XI_c1 mσ3 (id := 33) (k := 1) (lim_C0_1 (Or.inr (Or.inr rfl)))
      have t_52 := XI_c1 mσ3 (id := 33) (k := 9) (lim_C0_9 (Or.inr (Or.inr rfl)))
      refine kF_X1_goes (Or.inr (Or.inr rfl)) mσ3 nσ3_33 (by omega) (by omega) (by first | with_reducible assumption | with_reducible rfl | omega | assumption | rfl) (fun σ4 mσ4 cσ4 nσ4_33 (pσ4_0 : (gi σ4 33 9).toInt = (gi σ3 33 9).toInt + a1.toInt) hσ4 => ?_)
      replace H := f_v hσ4 H
      have fσ4 : FX (fun id => id = 34 ∨ id = 35 ∨ id = 36 ∨ id = 37 ∨ id = 38 ∨ id = 39 ∨ id = 40 ∨ id = 47 ∨ id = 48) (fun id k => (id = 33 ∧ k = 1) ∨ (id = 33 ∧ k = 3) ∨ (id = 33 ∧ k = 9) ∨ (id = 33 ∧ k = 10) ∨ (id = 33 ∧ k = 11)) σ0 σ4 := FX_tr fσ3 cσ4 (fun x (h9 : x = 47 ∨ x = 48 ∨ x = 36 ∨ x = 37 ∨ x = 38 ∨ x = 39) => h9.elim (fun e9 => (show x = 34 ∨ x = 35 ∨ x = 36 ∨ x = 37 ∨ x = 38 ∨ x = 39 ∨ x = 40 ∨ x = 47 ∨ x = 48 from Or.inr (Or.inr (Or.inr (Or.inr (Or.inr (Or.inr (Or.inr (Or.inl (e9)))))))))) (fun h9 => h9.elim (fun e9 => (show x = 34 ∨ x = 35 ∨ x = 36 ∨ x = 37 ∨ x = 38 ∨ x = 39 ∨ x = 40 ∨ x = 47 ∨ x = 48 from Or.inr (Or.inr (Or.inr (Or.inr (Or.inr (Or.inr (Or.inr (Or.inr (e9)))))))))) (fun h9 => h9.elim (fun e9 => (show x = 34 ∨ x = 35 ∨ x = 36 ∨ x = 37 ∨ x = 38 ∨ x = 39 ∨ x = 40 ∨ x = 47 ∨ x = 48 from Or.inr (Or.inr (Or.inl (e9))))) (fun h9 => h9.elim (fun e9 => (show x = 34 ∨ x = 35 ∨ x = 36 ∨ x = 37 ∨ x = 38 ∨ x = 39 ∨ x = 40 ∨ x = 47 ∨ x = 48 from Or.inr (Or.inr (Or.inr (Or.inl (e9)))))) (fun h9 => h9.elim (fun e9 => (show x = 34 ∨ x = 35 ∨ x = 36 ∨ x = 37 ∨ x = 38 ∨ x = 39 ∨ x = 40 ∨ x = 47 ∨ x = 48 from Or.inr (Or.inr (Or.inr (Or.inr (Or.inl (e9))))))) (fun h9 => (show x = 34 ∨ x = 35 ∨ x = 36 ∨ x = 37 ∨ x = 38 ∨ x = 39 ∨ x = 40 ∨ x = 47 ∨ x = 48 from Or.inr (Or.inr (Or.inr (Or.inr (Or.inr (Or.inl (h9))))))))))))) (fun x k (h9 : (x = 33 ∧ k = 9)) => (show (x = 34 ∨ x = 35 ∨ x = 36 ∨ x = 37 ∨ x = 38 ∨ x = 39 ∨ x = 40 ∨ x = 47 ∨ x = 48) ∨ ((x = 33 ∧ k = 1) ∨ (x = 33 ∧ k = 3) ∨ (x = 33 ∧ k = 9) ∨ (x = 33 ∧ k = 10) ∨ (x = 33 ∧ k = 11)) from Or.inr (show (x = 33 ∧ k = 1) ∨ (x = 33 ∧ k = 3) ∨ (x = 33 ∧ k = 9) ∨ (x = 33 ∧ k = 10) ∨ (x = 33 ∧ k = 11) from Or.inr (Or.inr (Or.inl (h9))))))
      have k_53 : (gi σ4 1 1).toInt = (gi σ3 1 1).toInt := congrArg Int32.toInt (FX_i cσ4 (show ¬ (1 = 47 ∨ 1 = 48 ∨ 1 = 36 ∨ 1 = 37 ∨ 1 = 38 ∨ 1 = 39) from by omega) (show ¬ ((1 = 33 ∧ 1 = 9)) from by omega))
      have k_54 : (gi σ4 1 9).toInt = (gi σ3 1 9).toInt := congrArg Int32.toInt (FX_i cσ4 (show ¬ (1 = 47 ∨ 1 = 48 ∨ 1 = 36 ∨ 1 = 37 ∨ 1 = 38 ∨ 1 = 39) from by omega) (show ¬ ((1 = 33 ∧ 9 = 9)) from by omega))
      have k_55 : (gi σ4 33 1).toInt = (gi σ3 33 1).toInt := congrArg Int32.toInt (FX_i cσ4 (show ¬ (33 = 47 ∨ 33 = 48 ∨ 33 = 36 ∨ 33 = 37 ∨ 33 = 38 ∨ 33 = 39) from by omega) (show ¬ ((33 = 33 ∧ 1 = 9)) from by omega))
      have t_56 := XI_c1 mσ4 (id := 33) (k := 9) (lim_C0_9 (Or.inr (Or.inr rfl)))
      have nσ4_1 : NN σ4 1 := NN_fx nσ3_1 cσ4 (show ¬ (1 = 47 ∨ 1 = 48 ∨ 1 = 36 ∨ 1 = 37 ∨ 1 = 38 ∨ 1 = 39) from by omega) (show ¬ (2 = 47 ∨ 2 = 48 ∨ 2 = 36 ∨ 2 = 37 ∨ 2 = 38 ∨ 2 = 39) from by omega) (show ¬ (3 = 47 ∨ 3 = 48 ∨ 3 = 36 ∨ 3 = 37 ∨ 3 = 38 ∨ 3 = 39) from by omega) (show ¬ ((1 = 33 ∧ 1 = 9)) from by omega) (show ¬ ((1 = 33 ∧ 3 = 9)) from by omega) (fun k (h9 : (2 = 33 ∧ k = 9)) => by omega) (fun k (h9 : (3 = 33 ∧ k = 9)) => by omega)
      refine kF_X1_allAt (Or.inr (Or.inr rfl)) mσ4   (fun r6 σ5 mσ5 cσ5 hσ5 => ?_)
      obtain rfl := FX_nil cσ5
      replace H := f_b hσ5 H
      have t_57 := XI_c1 mσ4 (id := 1) (k := 1) (lim_C0_1 (Or.inl rfl))
      have t_58 := XI_c1 mσ4 (id := 1) (k := 9) (lim_C0_9 (Or.inl rfl))
      have t_59 := XI_c1 mσ4 (id := 33) (k := 1) (lim_C0_1 (Or.inr (Or.inr rfl)))
      have w_60 := Int32.toInt_lt r6
      have w_61 := Int32.le_toInt r6
      have z_62 : (0 : Int32).toInt = 0 := rfl
      exact U43 a1 r6 (0 : Int32) σ4 mσ4 fσ4 nσ4_1 (by omega) (by omega) (by omega) (by omega) H (by omega)
    · intro q_46
      replace H := f_f q_46 H
      have b_63 : ¬ a1.toInt ≤ 60 := fun h9 => q_46 (Int32.le_iff_toInt_le.mpr h9)
      have z_64 : (-100002 : Int32).toInt = -100002 := rfl
      exact h9ret (-100002 : Int32) σ0 m0 f0 nn_1 (H0.trans H.symm)
set_option maxRecDepth 100000 in
set_option maxHeartbeats 4000000 in
theorem kF_X11_seenIsSo {l : Launch} {V : Vx} {a1 : Int32} {σ0 : Sg} {Qk : Int32 → Sg → Prop} (m0 : XI V σ0) (h9ret : ∀ (r : Int32) (σ' : Sg), XI V σ' → FX (fun id => False) (fun _ _ => False) σ0 σ' → (F_X11_seenIsSo a1 σ0 = (r, σ')) → Qk r σ') : K_X11_seenIsSo l V a1 σ0 Qk := by
  refine e_X11_seenIsSo (fun M hl hV hN C => ?_)
  subst hl
  subst hV
  obtain ⟨R9, H0⟩ : ∃ R9, F_X11_seenIsSo a1 σ0 = R9 := ⟨_, rfl⟩
  have T : ∀ n : Nat, (∀ (x1 : Int32) (x3 : Int32) (σ : Sg), XI (mV M) σ → FX (fun id => False) (fun _ _ => False) σ0 σ → (0 ≤ x3.toInt) → (x3.toInt ≤ 18) → (x3.toInt % 3 = 0) → (LF_X11_seenIsSo n x1 x3 σ = R9) → (20 - x3.toInt).toNat < n → PS M 13 [(0, .ref 0), (1, .int x1), (2, .ref 10), (3, .int x3)] [] σ (0, 0)) := by
    intro n
    induction n with
    | zero => exact fun _ _ _ _ _ _ _ _ _ h8 => absurd h8 (Nat.not_lt_zero _)
    | succ n ih =>
      have ih13 := ih
      · intro x1 x3 σ mσ fσ lx3 ux3 i0 H hmu
        replace H : LB_X11_seenIsSo_13 (LF_X11_seenIsSo n) x1 x3 σ = R9 := H
        unfold LB_X11_seenIsSo_13 at H
        have k_1 : (gi σ 1 1).toInt = (gi σ0 1 1).toInt := congrArg Int32.toInt (FX_i fσ id id)
        have t_2 := XI_c1 mσ (id := 1) (k := 1) (lim_C0_1 (Or.inl rfl))
        have k_3 : (gi σ 9 1).toInt = (gi σ0 9 1).toInt := congrArg Int32.toInt (FX_i fσ id id)
        have t_4 := XI_c1 mσ (id := 9) (k := 1) (lim_C8_1 (Or.inl rfl))
        have ec9 := cl_eq (x := x3) (by omega)
        have sn9 : x3.toNatClampNeg % 3 = 0 → _ := fun q9 => XI_c1 mσ (id := 10) (k := x3.toNatClampNeg) (lim_C9 (c := 1) (Or.inl rfl) q9)
        have sn9 := sn9 (by omega)
        refine s_X11_seenIsSo_13 C hN  ?_
        refine ⟨?_, ?_⟩
        · intro q_5
          replace H := f_t q_5 H
          have t_6 : (x3 + (2 : Int32)).toInt = x3.toInt + 2 := i_add (x := x3) (y := (2 : Int32)) (by show (_ : Int) ≤ x3.toInt + 2; omega) (by show x3.toInt + 2 ≤ (_ : Int); omega)
          have b_7 : (gi σ 9 1).toInt ≤ (x3 + (2 : Int32)).toInt := Int32.le_iff_toInt_le.mp q_5
          have z_8 : (1 : Int32).toInt = 1 := rfl
          exact h9ret (1 : Int32) σ mσ fσ (H0.trans H.symm)
        · intro q_5
          replace H := f_f q_5 H
          have t_9 : (x3 + (2 : Int32)).toInt = x3.toInt + 2 := i_add (x := x3) (y := (2 : Int32)) (by show (_ : Int) ≤ x3.toInt + 2; omega) (by show x3.toInt + 2 ≤ (_ : Int); omega)
          have b_10 : ¬ (gi σ 9 1).toInt ≤ (x3 + (2 : Int32)).toInt := fun h9 => q_5 (Int32.le_iff_toInt_le.mpr h9)
          have t_11 : (x3 + (1 : Int32)).toInt = x3.toInt + 1 := i_add (x := x3) (y := (1 : Int32)) (by show (_ : Int) ≤ x3.toInt + 1; omega) (by show x3.toInt + 1 ≤ (_ : Int); omega)
          have hv_12 : vp_in (x3 + (1 : Int32)) 18 := vp_in_iff.mpr ⟨by omega, by omega⟩
          refine ⟨hv_12, ?_⟩
          refine ⟨?_, ?_⟩
          · intro q_13
            replace H := f_f q_13 H
            have w_14 := Int32.toInt_lt (gi σ 10 (x3 + (1 : Int32)).toNatClampNeg)
            have w_15 := Int32.le_toInt (gi σ 10 (x3 + (1 : Int32)).toNatClampNeg)
            have w_16 := Int32.toInt_lt x1
            have w_17 := Int32.le_toInt x1
            have b_18 : ¬ (gi σ 10 (x3 + (1 : Int32)).toNatClampNeg).toInt = x1.toInt := fun h9 => q_13 (Int32.toInt_inj.mp h9)
            intro v4 ev4
            replace H := f_l ev4 H
            have t_19 : (x3 + (3 : Int32)).toInt = x3.toInt + 3 := i_add (x := x3) (y := (3 : Int32)) (by show (_ : Int) ≤ x3.toInt + 3; omega) (by show x3.toInt + 3 ≤ (_ : Int); omega)
            have t_20 : v4.toInt = (x3 + (3 : Int32)).toInt := congrArg Int32.toInt ev4
            exact ih13 x1 v4 σ mσ fσ (by omega) (by omega) (by first | with_reducible assumption | with_reducible rfl | omega | assumption | rfl) H (by omega)
          · intro q_13
            replace H := f_t q_13 H
            have w_21 := Int32.toInt_lt (gi σ 10 (x3 + (1 : Int32)).toNatClampNeg)
            have w_22 := Int32.le_toInt (gi σ 10 (x3 + (1 : Int32)).toNatClampNeg)
            have w_23 := Int32.toInt_lt x1
            have w_24 := Int32.le_toInt x1
            have b_25 : (gi σ 10 (x3 + (1 : Int32)).toNatClampNeg).toInt = x1.toInt := congrArg Int32.toInt q_13
            have hv_26 : vp_in x3 18 := vp_in_iff.mpr ⟨by omega, by omega⟩
            refine ⟨hv_26, ?_⟩
            have w_27 := Int32.toInt_lt (gi σ 10 x3.toNatClampNeg)
            have w_28 := Int32.le_toInt (gi σ 10 x3.toNatClampNeg)
            have hv_29 : vp_in (gi σ 10 x3.toNatClampNeg) 6 := vp_in_iff.mpr ⟨by omega, by omega⟩
            refine ⟨hv_29, ?_⟩
            have hv_30 : vp_in (x3 + (2 : Int32)) 18 := vp_in_iff.mpr ⟨by omega, by omega⟩
            refine ⟨hv_30, ?_⟩
            refine ⟨?_, ?_⟩
            · intro q_31
              replace H := f_t q_31 H
              have w_32 := Int32.toInt_lt (gi σ 36 (gi σ 10 x3.toNatClampNeg).toNatClampNeg)
              have w_33 := Int32.le_toInt (gi σ 36 (gi σ 10 x3.toNatClampNeg).toNatClampNeg)
              have w_34 := Int32.toInt_lt (gi σ 10 (x3 + (2 : Int32)).toNatClampNeg)
              have w_35 := Int32.le_toInt (gi σ 10 (x3 + (2 : Int32)).toNatClampNeg)
              have b_36 : (gi σ 36 (gi σ 10 x3.toNatClampNeg).toNatClampNeg).toInt = (gi σ 10 (x3 + (2 : Int32)).toNatClampNeg).toInt := congrArg Int32.toInt q_31
              intro v9 ev9
              replace H := f_l ev9 H
              have t_37 : (x3 + (3 : Int32)).toInt = x3.toInt + 3 := i_add (x := x3) (y := (3 : Int32)) (by show (_ : Int) ≤ x3.toInt + 3; omega) (by show x3.toInt + 3 ≤ (_ : Int); omega)
              have t_38 : v9.toInt = (x3 + (3 : Int32)).toInt := congrArg Int32.toInt ev9
              exact ih13 x1 v9 σ mσ fσ (by omega) (by omega) (by first | with_reducible assumption | with_reducible rfl | omega | assumption | rfl) H (by omega)
            · intro q_31
              replace H := f_f q_31 H
              have w_39 := Int32.toInt_lt (gi σ 36 (gi σ 10 x3.toNatClampNeg).toNatClampNeg)
              have w_40 := Int32.le_toInt (gi σ 36 (gi σ 10 x3.toNatClampNeg).toNatClampNeg)
              have w_41 := Int32.toInt_lt (gi σ 10 (x3 + (2 : Int32)).toNatClampNeg)
              have w_42 := Int32.le_toInt (gi σ 10 (x3 + (2 : Int32)).toNatClampNeg)
              have b_43 : ¬ (gi σ 36 (gi σ 10 x3.toNatClampNeg).toNatClampNeg).toInt = (gi σ 10 (x3 + (2 : Int32)).toNatClampNeg).toInt := fun h9 => q_31 (Int32.toInt_inj.mp h9)
              have z_44 : (0 : Int32).toInt = 0 := rfl
              exact h9ret (0 : Int32) σ mσ fσ (H0.trans H.symm)
  have U13 := T 90
  have f0 : FX (fun id => False) (fun _ _ => False) σ0 σ0 := FX_rf
  have t_45 := XI_c1 m0 (id := 1) (k := 1) (lim_C0_1 (Or.inl rfl))
  have t_46 := XI_c1 m0 (id := 9) (k := 1) (lim_C8_1 (Or.inl rfl))
  have H := H0
  unfold F_X11_seenIsSo at H
  refine s_X11_seenIsSo_0 C hN  ?_
  have w_47 := Int32.toInt_lt a1
  have w_48 := Int32.le_toInt a1
  have z_49 : (0 : Int32).toInt = 0 := rfl
  exact U13 a1 (0 : Int32) σ0 m0 f0 (by omega) (by omega) (by first | with_reducible assumption | with_reducible rfl | omega | assumption | rfl) H (by omega)
set_option maxRecDepth 100000 in
set_option maxHeartbeats 4000000 in
theorem kF_X11_allSeenIsSo {l : Launch} {V : Vx} {σ0 : Sg} {Qk : Int32 → Sg → Prop} (m0 : XI V σ0) (nn_33 : NN σ0 33) (pre0 : (gi σ0 33 9).toInt ≤ 10000) (h9ret : ∀ (r : Int32) (σ' : Sg), XI V σ' → FX (fun id => id = 36 ∨ id = 37 ∨ id = 38 ∨ id = 39 ∨ id = 47 ∨ id = 48) (fun id k => (id = 33 ∧ k = 9)) σ0 σ' → (NN σ' 33) → (0 ≤ r.toInt) → (r.toInt ≤ 1) → (F_X11_allSeenIsSo σ0 = (r, σ')) → Qk r σ') : K_X11_allSeenIsSo l V σ0 Qk := by
  refine e_X11_allSeenIsSo (fun M hl hV hN C => ?_)
  subst hl
  subst hV
  obtain ⟨R9, H0⟩ : ∃ R9, F_X11_allSeenIsSo σ0 = R9 := ⟨_, rfl⟩
  have T : ∀ n : Nat, (∀ (x1 : Int32) (σ : Sg), XI (mV M) σ → FX (fun id => id = 36 ∨ id = 37 ∨ id = 38 ∨ id = 39 ∨ id = 47 ∨ id = 48) (fun id k => (id = 33 ∧ k = 9)) σ0 σ → NN σ 33 → (0 ≤ x1.toInt) → (x1.toInt ≤ 31) → ((gi σ 33 9).toInt ≤ 10000 + x1.toInt) → (LF_X11_allSeenIsSo n x1 σ = R9) → (32 - x1.toInt).toNat < n → PS M 2 [(0, .ref 0), (1, .int x1)] [] σ (0, 0)) := by
    intro n
    induction n with
    | zero => exact fun _ _ _ _ _ _ _ _ _ h8 => absurd h8 (Nat.not_lt_zero _)
    | succ n ih =>
      have ih2 := ih
      · intro x1 σ mσ fσ nσ_33 lx1 ux1 i0 H hmu
        replace H : LB_X11_allSeenIsSo_2 (LF_X11_allSeenIsSo n) x1 σ = R9 := H
        unfold LB_X11_allSeenIsSo_2 at H
        have k_1 : (gi σ 1 1).toInt = (gi σ0 1 1).toInt := congrArg Int32.toInt (FX_i fσ (show ¬ (1 = 36 ∨ 1 = 37 ∨ 1 = 38 ∨ 1 = 39 ∨ 1 = 47 ∨ 1 = 48) from by omega) (show ¬ ((1 = 33 ∧ 1 = 9)) from by omega))
        have t_2 := XI_c1 mσ (id := 1) (k := 1) (lim_C0_1 (Or.inl rfl))
        have t_3 := XI_c1 mσ (id := 33) (k := 9) (lim_C0_9 (Or.inr (Or.inr rfl)))
        refine s_X11_allSeenIsSo_2 C hN  ?_
        refine ⟨?_, ?_⟩
        · intro q_4
          replace H := f_t q_4 H
          have b_5 : (30 : Int) < x1.toInt := Int32.lt_iff_toInt_lt.mp q_4
          have z_6 : (1 : Int32).toInt = 1 := rfl
          exact h9ret (1 : Int32) σ mσ fσ nσ_33 (by omega) (by omega) (H0.trans H.symm)
        · intro q_4
          replace H := f_f q_4 H
          have b_7 : ¬ (30 : Int) < x1.toInt := fun h9 => q_4 (Int32.lt_iff_toInt_lt.mpr h9)
          refine kF_X11_seenIsSo  mσ   (fun r3 σ2 mσ2 cσ2 hσ2 => ?_)
          obtain rfl := FX_nil cσ2
          replace H := f_b hσ2 H
          refine ⟨?_, ?_⟩
          · intro q_8
            replace H := f_f q_8 H
            have w_9 := Int32.toInt_lt r3
            have w_10 := Int32.le_toInt r3
            have b_11 : ¬ r3.toInt = 0 := fun h9 => q_8 (Int32.toInt_inj.mp h9)
            refine kF_X1_goesMinute (Or.inr (Or.inr rfl)) mσ nσ_33 (by first | with_reducible assumption | with_reducible rfl | omega | assumption | rfl) (fun r6 σ5 mσ5 cσ5 nσ5_33 (pσ5_0 : (gi σ5 33 9).toInt = (gi σ 33 9).toInt + 1) hσ5 => ?_)
            replace H := f_b hσ5 H
            have fσ5 : FX (fun id => id = 36 ∨ id = 37 ∨ id = 38 ∨ id = 39 ∨ id = 47 ∨ id = 48) (fun id k => (id = 33 ∧ k = 9)) σ0 σ5 := FX_tr fσ cσ5 (fun x (h9 : x = 47 ∨ x = 48 ∨ x = 36 ∨ x = 37 ∨ x = 38 ∨ x = 39) => h9.elim (fun e9 => (show x = 36 ∨ x = 37 ∨ x = 38 ∨ x = 39 ∨ x = 47 ∨ x = 48 from Or.inr (Or.inr (Or.inr (Or.inr (Or.inl (e9))))))) (fun h9 => h9.elim (fun e9 => (show x = 36 ∨ x = 37 ∨ x = 38 ∨ x = 39 ∨ x = 47 ∨ x = 48 from Or.inr (Or.inr (Or.inr (Or.inr (Or.inr (e9))))))) (fun h9 => h9.elim (fun e9 => (show x = 36 ∨ x = 37 ∨ x = 38 ∨ x = 39 ∨ x = 47 ∨ x = 48 from Or.inl (e9))) (fun h9 => h9.elim (fun e9 => (show x = 36 ∨ x = 37 ∨ x = 38 ∨ x = 39 ∨ x = 47 ∨ x = 48 from Or.inr (Or.inl (e9)))) (fun h9 => h9.elim (fun e9 => (show x = 36 ∨ x = 37 ∨ x = 38 ∨ x = 39 ∨ x = 47 ∨ x = 48 from Or.inr (Or.inr (Or.inl (e9))))) (fun h9 => (show x = 36 ∨ x = 37 ∨ x = 38 ∨ x = 39 ∨ x = 47 ∨ x = 48 from Or.inr (Or.inr (Or.inr (Or.inl (h9))))))))))) (fun x k (h9 : (x = 33 ∧ k = 9)) => (show (x = 36 ∨ x = 37 ∨ x = 38 ∨ x = 39 ∨ x = 47 ∨ x = 48) ∨ ((x = 33 ∧ k = 9)) from Or.inr (show (x = 33 ∧ k = 9) from h9)))
            have k_12 : (gi σ5 1 1).toInt = (gi σ 1 1).toInt := congrArg Int32.toInt (FX_i cσ5 (show ¬ (1 = 47 ∨ 1 = 48 ∨ 1 = 36 ∨ 1 = 37 ∨ 1 = 38 ∨ 1 = 39) from by omega) (show ¬ ((1 = 33 ∧ 1 = 9)) from by omega))
            have t_13 := XI_c1 mσ5 (id := 33) (k := 9) (lim_C0_9 (Or.inr (Or.inr rfl)))
            intro v7 ev7
            replace H := f_l ev7 H
            have t_14 : (x1 + (1 : Int32)).toInt = x1.toInt + 1 := i_add (x := x1) (y := (1 : Int32)) (by show (_ : Int) ≤ x1.toInt + 1; omega) (by show x1.toInt + 1 ≤ (_ : Int); omega)
            have t_15 : v7.toInt = (x1 + (1 : Int32)).toInt := congrArg Int32.toInt ev7
            exact ih2 v7 σ5 mσ5 fσ5 nσ5_33 (by omega) (by omega) (by first | with_reducible assumption | with_reducible rfl | omega | assumption | rfl) H (by omega)
          · intro q_8
            replace H := f_t q_8 H
            have w_16 := Int32.toInt_lt r3
            have w_17 := Int32.le_toInt r3
            have b_18 : r3.toInt = 0 := congrArg Int32.toInt q_8
            have z_19 : (0 : Int32).toInt = 0 := rfl
            exact h9ret (0 : Int32) σ mσ fσ nσ_33 (by omega) (by omega) (H0.trans H.symm)
  have U2 := T 90
  have f0 : FX (fun id => id = 36 ∨ id = 37 ∨ id = 38 ∨ id = 39 ∨ id = 47 ∨ id = 48) (fun id k => (id = 33 ∧ k = 9)) σ0 σ0 := FX_rf
  have t_20 := XI_c1 m0 (id := 1) (k := 1) (lim_C0_1 (Or.inl rfl))
  have t_21 := XI_c1 m0 (id := 33) (k := 9) (lim_C0_9 (Or.inr (Or.inr rfl)))
  have H := H0
  unfold F_X11_allSeenIsSo at H
  refine s_X11_allSeenIsSo_0 C hN  ?_
  have z_22 : (0 : Int32).toInt = 0 := rfl
  exact U2 (0 : Int32) σ0 m0 f0 nn_33 (by omega) (by omega) (by first | with_reducible assumption | with_reducible rfl | omega | assumption | rfl) H (by omega)
set_option maxRecDepth 100000 in
set_option maxHeartbeats 4000000 in
theorem kF_X11_who {l : Launch} {V : Vx} {σ0 : Sg} {Qk : Int32 → Sg → Prop} (m0 : XI V σ0) (nn_1 : NN σ0 1) (pre0 : (gi σ0 1 9).toInt ≤ 9999) (h9ret : ∀ (r : Int32) (σ' : Sg), XI V σ' → FX (fun id => id = 34 ∨ id = 35 ∨ id = 36 ∨ id = 37 ∨ id = 38 ∨ id = 39 ∨ id = 40 ∨ id = 47 ∨ id = 48) (fun id k => (id = 33 ∧ k = 1) ∨ (id = 33 ∧ k = 3) ∨ (id = 33 ∧ k = 9) ∨ (id = 33 ∧ k = 10) ∨ (id = 33 ∧ k = 11)) σ0 σ' → (NN σ' 1) → (F_X11_who σ0 = (r, σ')) → Qk r σ') : K_X11_who l V σ0 Qk := by
  refine e_X11_who (fun M hl hV hN C => ?_)
  subst hl
  subst hV
  obtain ⟨R9, H0⟩ : ∃ R9, F_X11_who σ0 = R9 := ⟨_, rfl⟩
  have T : ∀ n : Nat, (∀ (x1 : Int32) (x2 : Int32) (σ : Sg), XI (mV M) σ → FX (fun id => id = 34 ∨ id = 35 ∨ id = 36 ∨ id = 37 ∨ id = 38 ∨ id = 39 ∨ id = 40 ∨ id = 47 ∨ id = 48) (fun id k => (id = 33 ∧ k = 1) ∨ (id = 33 ∧ k = 3) ∨ (id = 33 ∧ k = 9) ∨ (id = 33 ∧ k = 10) ∨ (id = 33 ∧ k = 11)) σ0 σ → NN σ 1 → (0 ≤ x2.toInt) → (x2.toInt ≤ 6) → (LF_X11_who n x1 x2 σ = R9) → (7 - x2.toInt).toNat < n → PS M 4 [(0, .ref 0), (1, .int x1), (2, .int x2)] [] σ (0, 0)) := by
    intro n
    induction n with
    | zero => exact fun _ _ _ _ _ _ _ _ _ h8 => absurd h8 (Nat.not_lt_zero _)
    | succ n ih =>
      have ih4 := ih
      · intro x1 x2 σ mσ fσ nσ_1 lx2 ux2 H hmu
        replace H : LB_X11_who_4 (LF_X11_who n) x1 x2 σ = R9 := H
        unfold LB_X11_who_4 at H
        have k_1 : (gi σ 1 1).toInt = (gi σ0 1 1).toInt := congrArg Int32.toInt (FX_i fσ (show ¬ (1 = 34 ∨ 1 = 35 ∨ 1 = 36 ∨ 1 = 37 ∨ 1 = 38 ∨ 1 = 39 ∨ 1 = 40 ∨ 1 = 47 ∨ 1 = 48) from by omega) (show ¬ ((1 = 33 ∧ 1 = 1) ∨ (1 = 33 ∧ 1 = 3) ∨ (1 = 33 ∧ 1 = 9) ∨ (1 = 33 ∧ 1 = 10) ∨ (1 = 33 ∧ 1 = 11)) from by omega))
        have t_2 := XI_c1 mσ (id := 1) (k := 1) (lim_C0_1 (Or.inl rfl))
        have k_3 : (gi σ 1 9).toInt = (gi σ0 1 9).toInt := congrArg Int32.toInt (FX_i fσ (show ¬ (1 = 34 ∨ 1 = 35 ∨ 1 = 36 ∨ 1 = 37 ∨ 1 = 38 ∨ 1 = 39 ∨ 1 = 40 ∨ 1 = 47 ∨ 1 = 48) from by omega) (show ¬ ((1 = 33 ∧ 9 = 1) ∨ (1 = 33 ∧ 9 = 3) ∨ (1 = 33 ∧ 9 = 9) ∨ (1 = 33 ∧ 9 = 10) ∨ (1 = 33 ∧ 9 = 11)) from by omega))
        have t_4 := XI_c1 mσ (id := 1) (k := 9) (lim_C0_9 (Or.inl rfl))
        have t_5 := XI_c1 mσ (id := 33) (k := 1) (lim_C0_1 (Or.inr (Or.inr rfl)))
        have t_6 := XI_c1 mσ (id := 33) (k := 9) (lim_C0_9 (Or.inr (Or.inr rfl)))
        refine s_X11_who_4 C hN  ?_
        refine ⟨?_, ?_⟩
        · intro q_7
          replace H := f_t q_7 H
          have b_8 : (gi σ 1 1).toInt ≤ x2.toInt := Int32.le_iff_toInt_le.mp q_7
          exact h9ret x1 σ mσ fσ nσ_1 (H0.trans H.symm)
        · intro q_7
          replace H := f_f q_7 H
          have b_9 : ¬ (gi σ 1 1).toInt ≤ x2.toInt := fun h9 => q_7 (Int32.le_iff_toInt_le.mpr h9)
          have z_10 : (1 : Int32).toInt = 1 := rfl
          refine kF_X1_becomes (Or.inr (Or.inr rfl)) (Or.inl rfl) mσ nσ_1 (by first | with_reducible assumption | with_reducible rfl | omega | assumption | rfl) (fun σ2 mσ2 cσ2 nσ2_1 nσ2_33 (pσ2_0 : (gi σ2 33 1).toInt = (gi σ 1 1).toInt) (pσ2_1 : (gi σ2 33 3).toInt = (gi σ 1 3).toInt) (pσ2_2 : (gi σ2 33 9).toInt = (gi σ 1 9).toInt) (pσ2_3 : CPY σ σ2 33 1) hσ2 => ?_)
          replace H := f_v hσ2 H
          have fσ2 : FX (fun id => id = 34 ∨ id = 35 ∨ id = 36 ∨ id = 37 ∨ id = 38 ∨ id = 39 ∨ id = 40 ∨ id = 47 ∨ id = 48) (fun id k => (id = 33 ∧ k = 1) ∨ (id = 33 ∧ k = 3) ∨ (id = 33 ∧ k = 9) ∨ (id = 33 ∧ k = 10) ∨ (id = 33 ∧ k = 11)) σ0 σ2 := FX_tr fσ cσ2 (fun x (h9 : x = 34 ∨ x = 35 ∨ x = 36 ∨ x = 37 ∨ x = 38 ∨ x = 39 ∨ x = 40) => h9.elim (fun e9 => (show x = 34 ∨ x = 35 ∨ x = 36 ∨ x = 37 ∨ x = 38 ∨ x = 39 ∨ x = 40 ∨ x = 47 ∨ x = 48 from Or.inl (e9))) (fun h9 => h9.elim (fun e9 => (show x = 34 ∨ x = 35 ∨ x = 36 ∨ x = 37 ∨ x = 38 ∨ x = 39 ∨ x = 40 ∨ x = 47 ∨ x = 48 from Or.inr (Or.inl (e9)))) (fun h9 => h9.elim (fun e9 => (show x = 34 ∨ x = 35 ∨ x = 36 ∨ x = 37 ∨ x = 38 ∨ x = 39 ∨ x = 40 ∨ x = 47 ∨ x = 48 from Or.inr (Or.inr (Or.inl (e9))))) (fun h9 => h9.elim (fun e9 => (show x = 34 ∨ x = 35 ∨ x = 36 ∨ x = 37 ∨ x = 38 ∨ x = 39 ∨ x = 40 ∨ x = 47 ∨ x = 48 from Or.inr (Or.inr (Or.inr (Or.inl (e9)))))) (fun h9 => h9.elim (fun e9 => (show x = 34 ∨ x = 35 ∨ x = 36 ∨ x = 37 ∨ x = 38 ∨ x = 39 ∨ x = 40 ∨ x = 47 ∨ x = 48 from Or.inr (Or.inr (Or.inr (Or.inr (Or.inl (e9))))))) (fun h9 => h9.elim (fun e9 => (show x = 34 ∨ x = 35 ∨ x = 36 ∨ x = 37 ∨ x = 38 ∨ x = 39 ∨ x = 40 ∨ x = 47 ∨ x = 48 from Or.inr (Or.inr (Or.inr (Or.inr (Or.inr (Or.inl (e9)))))))) (fun h9 => (show x = 34 ∨ x = 35 ∨ x = 36 ∨ x = 37 ∨ x = 38 ∨ x = 39 ∨ x = 40 ∨ x = 47 ∨ x = 48 from Or.inr (Or.inr (Or.inr (Or.inr (Or.inr (Or.inr (Or.inl (h9))))))))))))))) (fun x k (h9 : (x = 33 ∧ k = 1) ∨ (x = 33 ∧ k = 3) ∨ (x = 33 ∧ k = 9) ∨ (x = 33 ∧ k = 10) ∨ (x = 33 ∧ k = 11)) => (show (x = 34 ∨ x = 35 ∨ x = 36 ∨ x = 37 ∨ x = 38 ∨ x = 39 ∨ x = 40 ∨ x = 47 ∨ x = 48) ∨ ((x = 33 ∧ k = 1) ∨ (x = 33 ∧ k = 3) ∨ (x = 33 ∧ k = 9) ∨ (x = 33 ∧ k = 10) ∨ (x = 33 ∧ k = 11)) from h9.elim (fun e9 => Or.inr (show (x = 33 ∧ k = 1) ∨ (x = 33 ∧ k = 3) ∨ (x = 33 ∧ k = 9) ∨ (x = 33 ∧ k = 10) ∨ (x = 33 ∧ k = 11) from Or.inl (e9))) (fun h9 => h9.elim (fun e9 => Or.inr (show (x = 33 ∧ k = 1) ∨ (x = 33 ∧ k = 3) ∨ (x = 33 ∧ k = 9) ∨ (x = 33 ∧ k = 10) ∨ (x = 33 ∧ k = 11) from Or.inr (Or.inl (e9)))) (fun h9 => h9.elim (fun e9 => Or.inr (show (x = 33 ∧ k = 1) ∨ (x = 33 ∧ k = 3) ∨ (x = 33 ∧ k = 9) ∨ (x = 33 ∧ k = 10) ∨ (x = 33 ∧ k = 11) from Or.inr (Or.inr (Or.inl (e9))))) (fun h9 => h9.elim (fun e9 => Or.inr (show (x = 33 ∧ k = 1) ∨ (x = 33 ∧ k = 3) ∨ (x = 33 ∧ k = 9) ∨ (x = 33 ∧ k = 10) ∨ (x = 33 ∧ k = 11) from Or.inr (Or.inr (Or.inr (Or.inl (e9)))))) (fun h9 => Or.inr (show (x = 33 ∧ k = 1) ∨ (x = 33 ∧ k = 3) ∨ (x = 33 ∧ k = 9) ∨ (x = 33 ∧ k = 10) ∨ (x = 33 ∧ k = 11) from Or.inr (Or.inr (Or.inr (Or.inr (h9)))))))))))
          have k_11 : (gi σ2 1 1).toInt = (gi σ 1 1).toInt := congrArg Int32.toInt (FX_i cσ2 (show ¬ (1 = 34 ∨ 1 = 35 ∨ 1 = 36 ∨ 1 = 37 ∨ 1 = 38 ∨ 1 = 39 ∨ 1 = 40) from by omega) (show ¬ ((1 = 33 ∧ 1 = 1) ∨ (1 = 33 ∧ 1 = 3) ∨ (1 = 33 ∧ 1 = 9) ∨ (1 = 33 ∧ 1 = 10) ∨ (1 = 33 ∧ 1 = 11)) from by omega))
          have k_12 : (gi σ2 1 9).toInt = (gi σ 1 9).toInt := congrArg Int32.toInt (FX_i cσ2 (show ¬ (1 = 34 ∨ 1 = 35 ∨ 1 = 36 ∨ 1 = 37 ∨ 1 = 38 ∨ 1 = 39 ∨ 1 = 40) from by omega) (show ¬ ((1 = 33 ∧ 9 = 1) ∨ (1 = 33 ∧ 9 = 3) ∨ (1 = 33 ∧ 9 = 9) ∨ (1 = 33 ∧ 9 = 10) ∨ (1 = 33 ∧ 9 = 11)) from by omega))
          have t_13 := XI_c1 mσ2 (id := 33) (k := 1) (lim_C0_1 (Or.inr (Or.inr rfl)))
          have t_14 := XI_c1 mσ2 (id := 33) (k := 9) (lim_C0_9 (Or.inr (Or.inr rfl)))
          have hv_15 : vp_in x2 6 := vp_in_iff.mpr ⟨by omega, by omega⟩
          refine ⟨hv_15, ?_⟩
          refine ⟨hv_15, ?_⟩
          intro σ5 eσ5
          replace H := f_l eσ5 H
          have mσ5 : XI (mV M) σ5 := by rw [eσ5]; exact XIs_n mσ2 (lim_C6 (Or.inr (Or.inr rfl)) _)
          have fσ5 : FX (fun id => id = 34 ∨ id = 35 ∨ id = 36 ∨ id = 37 ∨ id = 38 ∨ id = 39 ∨ id = 40 ∨ id = 47 ∨ id = 48) (fun id k => (id = 33 ∧ k = 1) ∨ (id = 33 ∧ k = 3) ∨ (id = 33 ∧ k = 9) ∨ (id = 33 ∧ k = 10) ∨ (id = 33 ∧ k = 11)) σ0 σ5 := by rw [eσ5]; exact FX_si fσ2 (Or.inl (show 39 = 34 ∨ 39 = 35 ∨ 39 = 36 ∨ 39 = 37 ∨ 39 = 38 ∨ 39 = 39 ∨ 39 = 40 ∨ 39 = 47 ∨ 39 = 48 from Or.inr (Or.inr (Or.inr (Or.inr (Or.inr (Or.inl (rfl))))))))
          have k_16 : (gi σ5 1 1).toInt = (gi σ2 1 1).toInt := by rw [eσ5]; exact congrArg Int32.toInt (gi_si_ne (Or.inl (by omega)))
          have k_17 : (gi σ5 1 9).toInt = (gi σ2 1 9).toInt := by rw [eσ5]; exact congrArg Int32.toInt (gi_si_ne (Or.inl (by omega)))
          have k_18 : (gi σ5 33 1).toInt = (gi σ2 33 1).toInt := by rw [eσ5]; exact congrArg Int32.toInt (gi_si_ne (Or.inl (by omega)))
          have k_19 : (gi σ5 33 9).toInt = (gi σ2 33 9).toInt := by rw [eσ5]; exact congrArg Int32.toInt (gi_si_ne (Or.inl (by omega)))
          have nσ5_1 : NN σ5 1 := by rw [eσ5]; exact NN_si nσ2_1 (by omega) (fun h9 => absurd h9 (by omega))
          have nσ5_33 : NN σ5 33 := by rw [eσ5]; exact NN_si nσ2_33 (by omega) (fun h9 => absurd h9 (by omega))
          refine kF_X11_allSeenIsSo  mσ5 nσ5_33 (by first | with_reducible assumption | with_reducible rfl | omega | assumption | rfl) (fun r7 σ6 mσ6 cσ6 nσ6_33 plσ6 phσ6 hσ6 => ?_)
          replace H := f_b hσ6 H
          have fσ6 : FX (fun id => id = 34 ∨ id = 35 ∨ id = 36 ∨ id = 37 ∨ id = 38 ∨ id = 39 ∨ id = 40 ∨ id = 47 ∨ id = 48) (fun id k => (id = 33 ∧ k = 1) ∨ (id = 33 ∧ k = 3) ∨ (id = 33 ∧ k = 9) ∨ (id = 33 ∧ k = 10) ∨ (id = 33 ∧ k = 11)) σ0 σ6 := FX_tr fσ5 cσ6 (fun x (h9 : x = 36 ∨ x = 37 ∨ x = 38 ∨ x = 39 ∨ x = 47 ∨ x = 48) => h9.elim (fun e9 => (show x = 34 ∨ x = 35 ∨ x = 36 ∨ x = 37 ∨ x = 38 ∨ x = 39 ∨ x = 40 ∨ x = 47 ∨ x = 48 from Or.inr (Or.inr (Or.inl (e9))))) (fun h9 => h9.elim (fun e9 => (show x = 34 ∨ x = 35 ∨ x = 36 ∨ x = 37 ∨ x = 38 ∨ x = 39 ∨ x = 40 ∨ x = 47 ∨ x = 48 from Or.inr (Or.inr (Or.inr (Or.inl (e9)))))) (fun h9 => h9.elim (fun e9 => (show x = 34 ∨ x = 35 ∨ x = 36 ∨ x = 37 ∨ x = 38 ∨ x = 39 ∨ x = 40 ∨ x = 47 ∨ x = 48 from Or.inr (Or.inr (Or.inr (Or.inr (Or.inl (e9))))))) (fun h9 => h9.elim (fun e9 => (show x = 34 ∨ x = 35 ∨ x = 36 ∨ x = 37 ∨ x = 38 ∨ x = 39 ∨ x = 40 ∨ x = 47 ∨ x = 48 from Or.inr (Or.inr (Or.inr (Or.inr (Or.inr (Or.inl (e9)))))))) (fun h9 => h9.elim (fun e9 => (show x = 34 ∨ x = 35 ∨ x = 36 ∨ x = 37 ∨ x = 38 ∨ x = 39 ∨ x = 40 ∨ x = 47 ∨ x = 48 from Or.inr (Or.inr (Or.inr (Or.inr (Or.inr (Or.inr (Or.inr (Or.inl (e9)))))))))) (fun h9 => (show x = 34 ∨ x = 35 ∨ x = 36 ∨ x = 37 ∨ x = 38 ∨ x = 39 ∨ x = 40 ∨ x = 47 ∨ x = 48 from Or.inr (Or.inr (Or.inr (Or.inr (Or.inr (Or.inr (Or.inr (Or.inr (h9))))))))))))))) (fun x k (h9 : (x = 33 ∧ k = 9)) => (show (x = 34 ∨ x = 35 ∨ x = 36 ∨ x = 37 ∨ x = 38 ∨ x = 39 ∨ x = 40 ∨ x = 47 ∨ x = 48) ∨ ((x = 33 ∧ k = 1) ∨ (x = 33 ∧ k = 3) ∨ (x = 33 ∧ k = 9) ∨ (x = 33 ∧ k = 10) ∨ (x = 33 ∧ k = 11)) from Or.inr (show (x = 33 ∧ k = 1) ∨ (x = 33 ∧ k = 3) ∨ (x = 33 ∧ k = 9) ∨ (x = 33 ∧ k = 10) ∨ (x = 33 ∧ k = 11) from Or.inr (Or.inr (Or.inl (h9))))))
          have k_20 : (gi σ6 1 1).toInt = (gi σ5 1 1).toInt := congrArg Int32.toInt (FX_i cσ6 (show ¬ (1 = 36 ∨ 1 = 37 ∨ 1 = 38 ∨ 1 = 39 ∨ 1 = 47 ∨ 1 = 48) from by omega) (show ¬ ((1 = 33 ∧ 1 = 9)) from by omega))
          have k_21 : (gi σ6 1 9).toInt = (gi σ5 1 9).toInt := congrArg Int32.toInt (FX_i cσ6 (show ¬ (1 = 36 ∨ 1 = 37 ∨ 1 = 38 ∨ 1 = 39 ∨ 1 = 47 ∨ 1 = 48) from by omega) (show ¬ ((1 = 33 ∧ 9 = 9)) from by omega))
          have k_22 : (gi σ6 33 1).toInt = (gi σ5 33 1).toInt := congrArg Int32.toInt (FX_i cσ6 (show ¬ (33 = 36 ∨ 33 = 37 ∨ 33 = 38 ∨ 33 = 39 ∨ 33 = 47 ∨ 33 = 48) from by omega) (show ¬ ((33 = 33 ∧ 1 = 9)) from by omega))
          have t_23 := XI_c1 mσ6 (id := 33) (k := 9) (lim_C0_9 (Or.inr (Or.inr rfl)))
          have nσ6_1 : NN σ6 1 := NN_fx nσ5_1 cσ6 (show ¬ (1 = 36 ∨ 1 = 37 ∨ 1 = 38 ∨ 1 = 39 ∨ 1 = 47 ∨ 1 = 48) from by omega) (show ¬ (2 = 36 ∨ 2 = 37 ∨ 2 = 38 ∨ 2 = 39 ∨ 2 = 47 ∨ 2 = 48) from by omega) (show ¬ (3 = 36 ∨ 3 = 37 ∨ 3 = 38 ∨ 3 = 39 ∨ 3 = 47 ∨ 3 = 48) from by omega) (show ¬ ((1 = 33 ∧ 1 = 9)) from by omega) (show ¬ ((1 = 33 ∧ 3 = 9)) from by omega) (fun k (h9 : (2 = 33 ∧ k = 9)) => by omega) (fun k (h9 : (3 = 33 ∧ k = 9)) => by omega)
          refine ⟨?_, ?_⟩
          · intro q_24
            replace H := f_t q_24 H
            have b_25 : r7.toInt = 0 := congrArg Int32.toInt q_24
            intro v9 ev9
            replace H := f_l ev9 H
            have t_26 : (x2 + (1 : Int32)).toInt = x2.toInt + 1 := i_add (x := x2) (y := (1 : Int32)) (by show (_ : Int) ≤ x2.toInt + 1; omega) (by show x2.toInt + 1 ≤ (_ : Int); omega)
            have t_27 : v9.toInt = (x2 + (1 : Int32)).toInt := congrArg Int32.toInt ev9
            have w_28 := Int32.toInt_lt x1
            have w_29 := Int32.le_toInt x1
            exact ih4 x1 v9 σ6 mσ6 fσ6 nσ6_1 (by omega) (by omega) H (by omega)
          · intro q_24
            replace H := f_f q_24 H
            have b_30 : ¬ r7.toInt = 0 := fun h9 => q_24 (Int32.toInt_inj.mp h9)
            intro v10 ev10
            replace H := f_l ev10 H
            intro v11 ev11
            replace H := f_l ev11 H
            have t_31 : (x2 + (1 : Int32)).toInt = x2.toInt + 1 := i_add (x := x2) (y := (1 : Int32)) (by show (_ : Int) ≤ x2.toInt + 1; omega) (by show x2.toInt + 1 ≤ (_ : Int); omega)
            have t_32 : v11.toInt = (x2 + (1 : Int32)).toInt := congrArg Int32.toInt ev11
            have w_33 := Int32.toInt_lt v10
            have w_34 := Int32.le_toInt v10
            exact ih4 v10 v11 σ6 mσ6 fσ6 nσ6_1 (by omega) (by omega) H (by omega)
  have U4 := T 9
  have f0 : FX (fun id => id = 34 ∨ id = 35 ∨ id = 36 ∨ id = 37 ∨ id = 38 ∨ id = 39 ∨ id = 40 ∨ id = 47 ∨ id = 48) (fun id k => (id = 33 ∧ k = 1) ∨ (id = 33 ∧ k = 3) ∨ (id = 33 ∧ k = 9) ∨ (id = 33 ∧ k = 10) ∨ (id = 33 ∧ k = 11)) σ0 σ0 := FX_rf
  have t_35 := XI_c1 m0 (id := 1) (k := 1) (lim_C0_1 (Or.inl rfl))
  have t_36 := XI_c1 m0 (id := 1) (k := 9) (lim_C0_9 (Or.inl rfl))
  have t_37 := XI_c1 m0 (id := 33) (k := 1) (lim_C0_1 (Or.inr (Or.inr rfl)))
  have t_38 := XI_c1 m0 (id := 33) (k := 9) (lim_C0_9 (Or.inr (Or.inr rfl)))
  have H := H0
  unfold F_X11_who at H
  refine s_X11_who_0 C hN  ?_
  have z_39 : (0 : Int32).toInt = 0 := rfl
  exact U4 (0 : Int32) (0 : Int32) σ0 m0 f0 nn_1 (by omega) (by omega) H (by omega)
set_option maxRecDepth 100000 in
set_option maxHeartbeats 4000000 in
theorem kF_X11_lowest {l : Launch} {V : Vx} {a1 : Int32} {a2 : Int32} {a3 : Int32} {σ0 : Sg} {Qk : Int64 → Sg → Prop} (m0 : XI V σ0) (h9ret : ∀ (r : Int64) (σ' : Sg), XI V σ' → FX (fun id => False) (fun _ _ => False) σ0 σ' → (F_X11_lowest a1 a2 a3 σ0 = (r, σ')) → Qk r σ') : K_X11_lowest l V a1 a2 a3 σ0 Qk := by
  refine e_X11_lowest (fun M hl hV hN C => ?_)
  subst hl
  subst hV
  obtain ⟨R9, H0⟩ : ∃ R9, F_X11_lowest a1 a2 a3 σ0 = R9 := ⟨_, rfl⟩
  have T : ∀ n : Nat, (∀ (x0 : Int32) (x1 : Int32) (x2 : Int32) (x3 : Int32) (x4 : Int32) (x5 : Int32) (σ : Sg), XI (mV M) σ → FX (fun id => False) (fun _ _ => False) σ0 σ → (0 ≤ x5.toInt) → (x5.toInt ≤ 100) → (LF_X11_lowest n 0 x0 x1 x2 x3 x4 x5 σ = R9) → (101 - x5.toInt).toNat + 5 < n → PS M 8 [(0, .int x0), (1, .int x1), (2, .int x2), (3, .int x3), (4, .int x4), (5, .int x5)] [] σ (0, 0)) ∧ (∀ (x0 : Int32) (x1 : Int32) (x2 : Int32) (x3 : Int32) (σ : Sg), XI (mV M) σ → FX (fun id => False) (fun _ _ => False) σ0 σ → (LF_X11_lowest n 1 x0 x1 x2 x3 0 0 σ = R9) → 1 < n → PS M 39 [(0, .int x0), (1, .int x1), (2, .int x2), (3, .int x3)] [] σ (0, 0)) := by
    intro n
    induction n with
    | zero => exact ⟨fun _ _ _ _ _ _ _ _ _ _ _ _ h8 => absurd h8 (Nat.not_lt_zero _), fun _ _ _ _ _ _ _ _ h8 => absurd h8 (Nat.not_lt_zero _)⟩
    | succ n ih =>
      obtain ⟨ih8, ih39⟩ := ih
      refine ⟨?_, ?_⟩
      · intro x0 x1 x2 x3 x4 x5 σ mσ fσ lx5 ux5 H hmu
        replace H : LB_X11_lowest_8 (LF_X11_lowest n) x0 x1 x2 x3 x4 x5 σ = R9 := H
        unfold LB_X11_lowest_8 at H
        refine s_X11_lowest_8 C hN  ?_
        refine ⟨?_, ?_⟩
        · intro q_1
          replace H := f_t q_1 H
          have b_2 : (100 : Int) ≤ x5.toInt := Int32.le_iff_toInt_le.mp q_1
          have w_3 := Int32.toInt_lt x0
          have w_4 := Int32.le_toInt x0
          have w_5 := Int32.toInt_lt x1
          have w_6 := Int32.le_toInt x1
          have w_7 := Int32.toInt_lt x2
          have w_8 := Int32.le_toInt x2
          have w_9 := Int32.toInt_lt x3
          have w_10 := Int32.le_toInt x3
          exact ih39 x0 x1 x2 x3 σ mσ fσ H (by omega)
        · intro q_1
          replace H := f_f q_1 H
          have b_11 : ¬ (100 : Int) ≤ x5.toInt := fun h9 => q_1 (Int32.le_iff_toInt_le.mpr h9)
          refine ⟨?_, ?_⟩
          · intro q_12
            replace H := f_t q_12 H
            have w_13 := Int32.toInt_lt x4
            have w_14 := Int32.le_toInt x4
            have b_15 : x4.toInt ≤ 0 := Int32.le_iff_toInt_le.mp q_12
            have w_16 := Int32.toInt_lt x0
            have w_17 := Int32.le_toInt x0
            have w_18 := Int32.toInt_lt x1
            have w_19 := Int32.le_toInt x1
            have w_20 := Int32.toInt_lt x2
            have w_21 := Int32.le_toInt x2
            have w_22 := Int32.toInt_lt x3
            have w_23 := Int32.le_toInt x3
            exact ih39 x0 x1 x2 x3 σ mσ fσ H (by omega)
          · intro q_12
            replace H := f_f q_12 H
            have w_24 := Int32.toInt_lt x4
            have w_25 := Int32.le_toInt x4
            have b_26 : ¬ x4.toInt ≤ 0 := fun h9 => q_12 (Int32.le_iff_toInt_le.mpr h9)
            refine ⟨fun h9 => ?_, ?_⟩
            · have h9 : x4.toInt = 0 := congrArg Int32.toInt h9
              omega
            intro v4 ev4
            replace H := f_l ev4 H
            intro v5 ev5
            replace H := f_l ev5 H
            have t_27 : (x5 + (1 : Int32)).toInt = x5.toInt + 1 := i_add (x := x5) (y := (1 : Int32)) (by show (_ : Int) ≤ x5.toInt + 1; omega) (by show x5.toInt + 1 ≤ (_ : Int); omega)
            have t_28 : v5.toInt = (x5 + (1 : Int32)).toInt := congrArg Int32.toInt ev5
            have w_29 := Int32.toInt_lt x0
            have w_30 := Int32.le_toInt x0
            have w_31 := Int32.toInt_lt x1
            have w_32 := Int32.le_toInt x1
            have w_33 := Int32.toInt_lt x2
            have w_34 := Int32.le_toInt x2
            have w_35 := Int32.toInt_lt v4
            have w_36 := Int32.le_toInt v4
            exact ih8 x0 x1 x2 x4 v4 v5 σ mσ fσ (by omega) (by omega) H (by omega)
      · intro x0 x1 x2 x3 σ mσ fσ H hmu
        replace H : LB_X11_lowest_39 (LF_X11_lowest n) x0 x1 x2 x3 σ = R9 := H
        unfold LB_X11_lowest_39 at H
        refine s_X11_lowest_39 C hN  ?_
        refine ⟨?_, ?_⟩
        · intro q_37
          replace H := f_t q_37 H
          have w_38 := Int32.toInt_lt x3
          have w_39 := Int32.le_toInt x3
          have b_40 : (1 : Int) ≤ x3.toInt := Int32.le_iff_toInt_le.mp q_37
          refine ⟨?_, ?_⟩
          · intro q_41
            replace H := f_f q_41 H
            have w_42 := Int32.toInt_lt x2
            have w_43 := Int32.le_toInt x2
            have b_44 : ¬ x2.toInt = 0 := fun h9 => q_41 (Int32.toInt_inj.mp h9)
            refine ⟨fun h9 => ?_, ?_⟩
            · have h9 : x3.toInt = 0 := congrArg Int32.toInt h9
              omega
            exact h9ret ((x1 / x3).toInt64) σ mσ fσ (H0.trans H.symm)
          · intro q_41
            replace H := f_t q_41 H
            have w_45 := Int32.toInt_lt x2
            have w_46 := Int32.le_toInt x2
            have b_47 : x2.toInt = 0 := congrArg Int32.toInt q_41
            refine ⟨fun h9 => ?_, ?_⟩
            · have h9 : x3.toInt = 0 := congrArg Int32.toInt h9
              omega
            exact h9ret ((x0 / x3).toInt64) σ mσ fσ (H0.trans H.symm)
        · intro q_37
          replace H := f_f q_37 H
          have w_48 := Int32.toInt_lt x3
          have w_49 := Int32.le_toInt x3
          have b_50 : ¬ (1 : Int) ≤ x3.toInt := fun h9 => q_37 (Int32.le_iff_toInt_le.mpr h9)
          exact h9ret (-9223372036854775808 : Int64) σ mσ fσ (H0.trans H.symm)
  obtain ⟨U8, U39⟩ := T 200
  have f0 : FX (fun id => False) (fun _ _ => False) σ0 σ0 := FX_rf
  have H := H0
  unfold F_X11_lowest at H
  refine s_X11_lowest_0 C hN  ?_
  have w_51 := Int32.toInt_lt a1
  have w_52 := Int32.le_toInt a1
  have w_53 := Int32.toInt_lt a2
  have w_54 := Int32.le_toInt a2
  have w_55 := Int32.toInt_lt a3
  have w_56 := Int32.le_toInt a3
  have z_57 : (0 : Int32).toInt = 0 := rfl
  exact U8 a1 a2 a3 a2 a1 (0 : Int32) σ0 m0 f0 (by omega) (by omega) H (by omega)
set_option maxRecDepth 100000 in
set_option maxHeartbeats 4000000 in
theorem kF_X11_odds {l : Launch} {V : Vx} {a1 : Int32} {a2 : Int32} {a3 : Int32} {σ0 : Sg} {Qk : Int64 → Sg → Prop} (m0 : XI V σ0) (nn_1 : NN σ0 1) (pre0 : (gi σ0 1 9).toInt ≤ 9999) (h9ret : ∀ (r : Int64) (σ' : Sg), XI V σ' → FX (fun id => id = 34 ∨ id = 35 ∨ id = 36 ∨ id = 37 ∨ id = 38 ∨ id = 39 ∨ id = 40 ∨ id = 47 ∨ id = 48) (fun id k => (id = 33 ∧ k = 1) ∨ (id = 33 ∧ k = 3) ∨ (id = 33 ∧ k = 9) ∨ (id = 33 ∧ k = 10) ∨ (id = 33 ∧ k = 11)) σ0 σ' → (NN σ' 1) → (F_X11_odds a1 a2 a3 σ0 = (r, σ')) → Qk r σ') : K_X11_odds l V a1 a2 a3 σ0 Qk := by
  refine e_X11_odds (fun M hl hV hN C => ?_)
  subst hl
  subst hV
  obtain ⟨R9, H0⟩ : ∃ R9, F_X11_odds a1 a2 a3 σ0 = R9 := ⟨_, rfl⟩
  have T : ∀ n : Nat, (∀ (x1 : Int32) (x2 : Int32) (x3 : Int32) (x4 : Int32) (x5 : Int32) (σ : Sg), XI (mV M) σ → FX (fun id => id = 34 ∨ id = 35 ∨ id = 36 ∨ id = 37 ∨ id = 38 ∨ id = 39 ∨ id = 40 ∨ id = 47 ∨ id = 48) (fun id k => (id = 33 ∧ k = 1) ∨ (id = 33 ∧ k = 3) ∨ (id = 33 ∧ k = 9) ∨ (id = 33 ∧ k = 10) ∨ (id = 33 ∧ k = 11)) σ0 σ → NN σ 1 → (1 ≤ x2.toInt) → (x2.toInt ≤ 60) → (0 ≤ x5.toInt) → (x5.toInt ≤ 6) → (LF_X11_odds n x1 x2 x3 x4 x5 σ = R9) → (7 - x5.toInt).toNat < n → PS M 38 [(0, .ref 0), (1, .int x1), (2, .int x2), (3, .int x3), (4, .int x4), (5, .int x5)] [] σ (0, 0)) := by
    intro n
    induction n with
    | zero => exact fun _ _ _ _ _ _ _ _ _ _ _ _ _ _ h8 => absurd h8 (Nat.not_lt_zero _)
    | succ n ih =>
      have ih38 := ih
      · intro x1 x2 x3 x4 x5 σ mσ fσ nσ_1 lx2 ux2 lx5 ux5 H hmu
        replace H : LB_X11_odds_38 (LF_X11_odds n) x1 x2 x3 x4 x5 σ = R9 := H
        unfold LB_X11_odds_38 at H
        have k_1 : (gi σ 1 1).toInt = (gi σ0 1 1).toInt := congrArg Int32.toInt (FX_i fσ (show ¬ (1 = 34 ∨ 1 = 35 ∨ 1 = 36 ∨ 1 = 37 ∨ 1 = 38 ∨ 1 = 39 ∨ 1 = 40 ∨ 1 = 47 ∨ 1 = 48) from by omega) (show ¬ ((1 = 33 ∧ 1 = 1) ∨ (1 = 33 ∧ 1 = 3) ∨ (1 = 33 ∧ 1 = 9) ∨ (1 = 33 ∧ 1 = 10) ∨ (1 = 33 ∧ 1 = 11)) from by omega))
        have t_2 := XI_c1 mσ (id := 1) (k := 1) (lim_C0_1 (Or.inl rfl))
        have k_3 : (gi σ 1 9).toInt = (gi σ0 1 9).toInt := congrArg Int32.toInt (FX_i fσ (show ¬ (1 = 34 ∨ 1 = 35 ∨ 1 = 36 ∨ 1 = 37 ∨ 1 = 38 ∨ 1 = 39 ∨ 1 = 40 ∨ 1 = 47 ∨ 1 = 48) from by omega) (show ¬ ((1 = 33 ∧ 9 = 1) ∨ (1 = 33 ∧ 9 = 3) ∨ (1 = 33 ∧ 9 = 9) ∨ (1 = 33 ∧ 9 = 10) ∨ (1 = 33 ∧ 9 = 11)) from by omega))
        have t_4 := XI_c1 mσ (id := 1) (k := 9) (lim_C0_9 (Or.inl rfl))
        have t_5 := XI_c1 mσ (id := 33) (k := 1) (lim_C0_1 (Or.inr (Or.inr rfl)))
        have t_6 := XI_c1 mσ (id := 33) (k := 9) (lim_C0_9 (Or.inr (Or.inr rfl)))
        refine s_X11_odds_38 C hN  ?_
        refine ⟨?_, ?_⟩
        · intro q_7
          replace H := f_t q_7 H
          have b_8 : (gi σ 1 1).toInt ≤ x5.toInt := Int32.le_iff_toInt_le.mp q_7
          refine kF_X11_lowest  mσ   (fun r3 σ2 mσ2 cσ2 hσ2 => ?_)
          obtain rfl := FX_nil cσ2
          replace H := f_b hσ2 H
          exact h9ret r3 σ mσ fσ nσ_1 (H0.trans H.symm)
        · intro q_7
          replace H := f_f q_7 H
          have b_9 : ¬ (gi σ 1 1).toInt ≤ x5.toInt := fun h9 => q_7 (Int32.le_iff_toInt_le.mpr h9)
          have z_10 : (1 : Int32).toInt = 1 := rfl
          refine kF_X1_becomes (Or.inr (Or.inr rfl)) (Or.inl rfl) mσ nσ_1 (by first | with_reducible assumption | with_reducible rfl | omega | assumption | rfl) (fun σ4 mσ4 cσ4 nσ4_1 nσ4_33 (pσ4_0 : (gi σ4 33 1).toInt = (gi σ 1 1).toInt) (pσ4_1 : (gi σ4 33 3).toInt = (gi σ 1 3).toInt) (pσ4_2 : (gi σ4 33 9).toInt = (gi σ 1 9).toInt) (pσ4_3 : CPY σ σ4 33 1) hσ4 => ?_)
          replace H := f_v hσ4 H
          have fσ4 : FX (fun id => id = 34 ∨ id = 35 ∨ id = 36 ∨ id = 37 ∨ id = 38 ∨ id = 39 ∨ id = 40 ∨ id = 47 ∨ id = 48) (fun id k => (id = 33 ∧ k = 1) ∨ (id = 33 ∧ k = 3) ∨ (id = 33 ∧ k = 9) ∨ (id = 33 ∧ k = 10) ∨ (id = 33 ∧ k = 11)) σ0 σ4 := FX_tr fσ cσ4 (fun x (h9 : x = 34 ∨ x = 35 ∨ x = 36 ∨ x = 37 ∨ x = 38 ∨ x = 39 ∨ x = 40) => h9.elim (fun e9 => (show x = 34 ∨ x = 35 ∨ x = 36 ∨ x = 37 ∨ x = 38 ∨ x = 39 ∨ x = 40 ∨ x = 47 ∨ x = 48 from Or.inl (e9))) (fun h9 => h9.elim (fun e9 => (show x = 34 ∨ x = 35 ∨ x = 36 ∨ x = 37 ∨ x = 38 ∨ x = 39 ∨ x = 40 ∨ x = 47 ∨ x = 48 from Or.inr (Or.inl (e9)))) (fun h9 => h9.elim (fun e9 => (show x = 34 ∨ x = 35 ∨ x = 36 ∨ x = 37 ∨ x = 38 ∨ x = 39 ∨ x = 40 ∨ x = 47 ∨ x = 48 from Or.inr (Or.inr (Or.inl (e9))))) (fun h9 => h9.elim (fun e9 => (show x = 34 ∨ x = 35 ∨ x = 36 ∨ x = 37 ∨ x = 38 ∨ x = 39 ∨ x = 40 ∨ x = 47 ∨ x = 48 from Or.inr (Or.inr (Or.inr (Or.inl (e9)))))) (fun h9 => h9.elim (fun e9 => (show x = 34 ∨ x = 35 ∨ x = 36 ∨ x = 37 ∨ x = 38 ∨ x = 39 ∨ x = 40 ∨ x = 47 ∨ x = 48 from Or.inr (Or.inr (Or.inr (Or.inr (Or.inl (e9))))))) (fun h9 => h9.elim (fun e9 => (show x = 34 ∨ x = 35 ∨ x = 36 ∨ x = 37 ∨ x = 38 ∨ x = 39 ∨ x = 40 ∨ x = 47 ∨ x = 48 from Or.inr (Or.inr (Or.inr (Or.inr (Or.inr (Or.inl (e9)))))))) (fun h9 => (show x = 34 ∨ x = 35 ∨ x = 36 ∨ x = 37 ∨ x = 38 ∨ x = 39 ∨ x = 40 ∨ x = 47 ∨ x = 48 from Or.inr (Or.inr (Or.inr (Or.inr (Or.inr (Or.inr (Or.inl (h9))))))))))))))) (fun x k (h9 : (x = 33 ∧ k = 1) ∨ (x = 33 ∧ k = 3) ∨ (x = 33 ∧ k = 9) ∨ (x = 33 ∧ k = 10) ∨ (x = 33 ∧ k = 11)) => (show (x = 34 ∨ x = 35 ∨ x = 36 ∨ x = 37 ∨ x = 38 ∨ x = 39 ∨ x = 40 ∨ x = 47 ∨ x = 48) ∨ ((x = 33 ∧ k = 1) ∨ (x = 33 ∧ k = 3) ∨ (x = 33 ∧ k = 9) ∨ (x = 33 ∧ k = 10) ∨ (x = 33 ∧ k = 11)) from h9.elim (fun e9 => Or.inr (show (x = 33 ∧ k = 1) ∨ (x = 33 ∧ k = 3) ∨ (x = 33 ∧ k = 9) ∨ (x = 33 ∧ k = 10) ∨ (x = 33 ∧ k = 11) from Or.inl (e9))) (fun h9 => h9.elim (fun e9 => Or.inr (show (x = 33 ∧ k = 1) ∨ (x = 33 ∧ k = 3) ∨ (x = 33 ∧ k = 9) ∨ (x = 33 ∧ k = 10) ∨ (x = 33 ∧ k = 11) from Or.inr (Or.inl (e9)))) (fun h9 => h9.elim (fun e9 => Or.inr (show (x = 33 ∧ k = 1) ∨ (x = 33 ∧ k = 3) ∨ (x = 33 ∧ k = 9) ∨ (x = 33 ∧ k = 10) ∨ (x = 33 ∧ k = 11) from Or.inr (Or.inr (Or.inl (e9))))) (fun h9 => h9.elim (fun e9 => Or.inr (show (x = 33 ∧ k = 1) ∨ (x = 33 ∧ k = 3) ∨ (x = 33 ∧ k = 9) ∨ (x = 33 ∧ k = 10) ∨ (x = 33 ∧ k = 11) from Or.inr (Or.inr (Or.inr (Or.inl (e9)))))) (fun h9 => Or.inr (show (x = 33 ∧ k = 1) ∨ (x = 33 ∧ k = 3) ∨ (x = 33 ∧ k = 9) ∨ (x = 33 ∧ k = 10) ∨ (x = 33 ∧ k = 11) from Or.inr (Or.inr (Or.inr (Or.inr (h9)))))))))))
          have k_11 : (gi σ4 1 1).toInt = (gi σ 1 1).toInt := congrArg Int32.toInt (FX_i cσ4 (show ¬ (1 = 34 ∨ 1 = 35 ∨ 1 = 36 ∨ 1 = 37 ∨ 1 = 38 ∨ 1 = 39 ∨ 1 = 40) from by omega) (show ¬ ((1 = 33 ∧ 1 = 1) ∨ (1 = 33 ∧ 1 = 3) ∨ (1 = 33 ∧ 1 = 9) ∨ (1 = 33 ∧ 1 = 10) ∨ (1 = 33 ∧ 1 = 11)) from by omega))
          have k_12 : (gi σ4 1 9).toInt = (gi σ 1 9).toInt := congrArg Int32.toInt (FX_i cσ4 (show ¬ (1 = 34 ∨ 1 = 35 ∨ 1 = 36 ∨ 1 = 37 ∨ 1 = 38 ∨ 1 = 39 ∨ 1 = 40) from by omega) (show ¬ ((1 = 33 ∧ 9 = 1) ∨ (1 = 33 ∧ 9 = 3) ∨ (1 = 33 ∧ 9 = 9) ∨ (1 = 33 ∧ 9 = 10) ∨ (1 = 33 ∧ 9 = 11)) from by omega))
          have t_13 := XI_c1 mσ4 (id := 33) (k := 1) (lim_C0_1 (Or.inr (Or.inr rfl)))
          have t_14 := XI_c1 mσ4 (id := 33) (k := 9) (lim_C0_9 (Or.inr (Or.inr rfl)))
          have hv_15 : vp_in x5 6 := vp_in_iff.mpr ⟨by omega, by omega⟩
          refine ⟨hv_15, ?_⟩
          refine ⟨hv_15, ?_⟩
          intro σ7 eσ7
          replace H := f_l eσ7 H
          have mσ7 : XI (mV M) σ7 := by rw [eσ7]; exact XIs_n mσ4 (lim_C6 (Or.inr (Or.inr rfl)) _)
          have fσ7 : FX (fun id => id = 34 ∨ id = 35 ∨ id = 36 ∨ id = 37 ∨ id = 38 ∨ id = 39 ∨ id = 40 ∨ id = 47 ∨ id = 48) (fun id k => (id = 33 ∧ k = 1) ∨ (id = 33 ∧ k = 3) ∨ (id = 33 ∧ k = 9) ∨ (id = 33 ∧ k = 10) ∨ (id = 33 ∧ k = 11)) σ0 σ7 := by rw [eσ7]; exact FX_si fσ4 (Or.inl (show 39 = 34 ∨ 39 = 35 ∨ 39 = 36 ∨ 39 = 37 ∨ 39 = 38 ∨ 39 = 39 ∨ 39 = 40 ∨ 39 = 47 ∨ 39 = 48 from Or.inr (Or.inr (Or.inr (Or.inr (Or.inr (Or.inl (rfl))))))))
          have k_16 : (gi σ7 1 1).toInt = (gi σ4 1 1).toInt := by rw [eσ7]; exact congrArg Int32.toInt (gi_si_ne (Or.inl (by omega)))
          have k_17 : (gi σ7 1 9).toInt = (gi σ4 1 9).toInt := by rw [eσ7]; exact congrArg Int32.toInt (gi_si_ne (Or.inl (by omega)))
          have k_18 : (gi σ7 33 1).toInt = (gi σ4 33 1).toInt := by rw [eσ7]; exact congrArg Int32.toInt (gi_si_ne (Or.inl (by omega)))
          have k_19 : (gi σ7 33 9).toInt = (gi σ4 33 9).toInt := by rw [eσ7]; exact congrArg Int32.toInt (gi_si_ne (Or.inl (by omega)))
          have nσ7_1 : NN σ7 1 := by rw [eσ7]; exact NN_si nσ4_1 (by omega) (fun h9 => absurd h9 (by omega))
          have nσ7_33 : NN σ7 33 := by rw [eσ7]; exact NN_si nσ4_33 (by omega) (fun h9 => absurd h9 (by omega))
          refine kF_X11_heldTimes  mσ7 nσ7_33 (by omega) (by omega) (by first | with_reducible assumption | with_reducible rfl | omega | assumption | rfl) (fun r9 σ8 mσ8 cσ8 nσ8_33 hσ8 => ?_)
          replace H := f_b hσ8 H
          have fσ8 : FX (fun id => id = 34 ∨ id = 35 ∨ id = 36 ∨ id = 37 ∨ id = 38 ∨ id = 39 ∨ id = 40 ∨ id = 47 ∨ id = 48) (fun id k => (id = 33 ∧ k = 1) ∨ (id = 33 ∧ k = 3) ∨ (id = 33 ∧ k = 9) ∨ (id = 33 ∧ k = 10) ∨ (id = 33 ∧ k = 11)) σ0 σ8 := FX_tr fσ7 cσ8 (fun x (h9 : x = 36 ∨ x = 37 ∨ x = 38 ∨ x = 39 ∨ x = 47 ∨ x = 48) => h9.elim (fun e9 => (show x = 34 ∨ x = 35 ∨ x = 36 ∨ x = 37 ∨ x = 38 ∨ x = 39 ∨ x = 40 ∨ x = 47 ∨ x = 48 from Or.inr (Or.inr (Or.inl (e9))))) (fun h9 => h9.elim (fun e9 => (show x = 34 ∨ x = 35 ∨ x = 36 ∨ x = 37 ∨ x = 38 ∨ x = 39 ∨ x = 40 ∨ x = 47 ∨ x = 48 from Or.inr (Or.inr (Or.inr (Or.inl (e9)))))) (fun h9 => h9.elim (fun e9 => (show x = 34 ∨ x = 35 ∨ x = 36 ∨ x = 37 ∨ x = 38 ∨ x = 39 ∨ x = 40 ∨ x = 47 ∨ x = 48 from Or.inr (Or.inr (Or.inr (Or.inr (Or.inl (e9))))))) (fun h9 => h9.elim (fun e9 => (show x = 34 ∨ x = 35 ∨ x = 36 ∨ x = 37 ∨ x = 38 ∨ x = 39 ∨ x = 40 ∨ x = 47 ∨ x = 48 from Or.inr (Or.inr (Or.inr (Or.inr (Or.inr (Or.inl (e9)))))))) (fun h9 => h9.elim (fun e9 => (show x = 34 ∨ x = 35 ∨ x = 36 ∨ x = 37 ∨ x = 38 ∨ x = 39 ∨ x = 40 ∨ x = 47 ∨ x = 48 from Or.inr (Or.inr (Or.inr (Or.inr (Or.inr (Or.inr (Or.inr (Or.inl (e9)))))))))) (fun h9 => (show x = 34 ∨ x = 35 ∨ x = 36 ∨ x = 37 ∨ x = 38 ∨ x = 39 ∨ x = 40 ∨ x = 47 ∨ x = 48 from Or.inr (Or.inr (Or.inr (Or.inr (Or.inr (Or.inr (Or.inr (Or.inr (h9))))))))))))))) (fun x k (h9 : (x = 33 ∧ k = 9)) => (show (x = 34 ∨ x = 35 ∨ x = 36 ∨ x = 37 ∨ x = 38 ∨ x = 39 ∨ x = 40 ∨ x = 47 ∨ x = 48) ∨ ((x = 33 ∧ k = 1) ∨ (x = 33 ∧ k = 3) ∨ (x = 33 ∧ k = 9) ∨ (x = 33 ∧ k = 10) ∨ (x = 33 ∧ k = 11)) from Or.inr (show (x = 33 ∧ k = 1) ∨ (x = 33 ∧ k = 3) ∨ (x = 33 ∧ k = 9) ∨ (x = 33 ∧ k = 10) ∨ (x = 33 ∧ k = 11) from Or.inr (Or.inr (Or.inl (h9))))))
          have k_20 : (gi σ8 1 1).toInt = (gi σ7 1 1).toInt := congrArg Int32.toInt (FX_i cσ8 (show ¬ (1 = 36 ∨ 1 = 37 ∨ 1 = 38 ∨ 1 = 39 ∨ 1 = 47 ∨ 1 = 48) from by omega) (show ¬ ((1 = 33 ∧ 1 = 9)) from by omega))
          have k_21 : (gi σ8 1 9).toInt = (gi σ7 1 9).toInt := congrArg Int32.toInt (FX_i cσ8 (show ¬ (1 = 36 ∨ 1 = 37 ∨ 1 = 38 ∨ 1 = 39 ∨ 1 = 47 ∨ 1 = 48) from by omega) (show ¬ ((1 = 33 ∧ 9 = 9)) from by omega))
          have k_22 : (gi σ8 33 1).toInt = (gi σ7 33 1).toInt := congrArg Int32.toInt (FX_i cσ8 (show ¬ (33 = 36 ∨ 33 = 37 ∨ 33 = 38 ∨ 33 = 39 ∨ 33 = 47 ∨ 33 = 48) from by omega) (show ¬ ((33 = 33 ∧ 1 = 9)) from by omega))
          have t_23 := XI_c1 mσ8 (id := 33) (k := 9) (lim_C0_9 (Or.inr (Or.inr rfl)))
          have nσ8_1 : NN σ8 1 := NN_fx nσ7_1 cσ8 (show ¬ (1 = 36 ∨ 1 = 37 ∨ 1 = 38 ∨ 1 = 39 ∨ 1 = 47 ∨ 1 = 48) from by omega) (show ¬ (2 = 36 ∨ 2 = 37 ∨ 2 = 38 ∨ 2 = 39 ∨ 2 = 47 ∨ 2 = 48) from by omega) (show ¬ (3 = 36 ∨ 3 = 37 ∨ 3 = 38 ∨ 3 = 39 ∨ 3 = 47 ∨ 3 = 48) from by omega) (show ¬ ((1 = 33 ∧ 1 = 9)) from by omega) (show ¬ ((1 = 33 ∧ 3 = 9)) from by omega) (fun k (h9 : (2 = 33 ∧ k = 9)) => by omega) (fun k (h9 : (3 = 33 ∧ k = 9)) => by omega)
          refine ⟨?_, ?_⟩
          · intro q_24
            replace H := f_t q_24 H
            have w_25 := Int32.toInt_lt r9
            have w_26 := Int32.le_toInt r9
            have b_27 : r9.toInt ≤ 0 := Int32.le_iff_toInt_le.mp q_24
            intro v11 ev11
            replace H := f_l ev11 H
            have t_28 : (x5 + (1 : Int32)).toInt = x5.toInt + 1 := i_add (x := x5) (y := (1 : Int32)) (by show (_ : Int) ≤ x5.toInt + 1; omega) (by show x5.toInt + 1 ≤ (_ : Int); omega)
            have t_29 : v11.toInt = (x5 + (1 : Int32)).toInt := congrArg Int32.toInt ev11
            have w_30 := Int32.toInt_lt x1
            have w_31 := Int32.le_toInt x1
            have w_32 := Int32.toInt_lt x3
            have w_33 := Int32.le_toInt x3
            have w_34 := Int32.toInt_lt x4
            have w_35 := Int32.le_toInt x4
            exact ih38 x1 x2 x3 x4 v11 σ8 mσ8 fσ8 nσ8_1 (by omega) (by omega) (by omega) (by omega) H (by omega)
          · intro q_24
            replace H := f_f q_24 H
            have w_36 := Int32.toInt_lt r9
            have w_37 := Int32.le_toInt r9
            have b_38 : ¬ r9.toInt ≤ 0 := fun h9 => q_24 (Int32.le_iff_toInt_le.mpr h9)
            intro v12 ev12
            replace H := f_l ev12 H
            intro v13 ev13
            replace H := f_l ev13 H
            have t_39 : (x5 + (1 : Int32)).toInt = x5.toInt + 1 := i_add (x := x5) (y := (1 : Int32)) (by show (_ : Int) ≤ x5.toInt + 1; omega) (by show x5.toInt + 1 ≤ (_ : Int); omega)
            have t_40 : v13.toInt = (x5 + (1 : Int32)).toInt := congrArg Int32.toInt ev13
            have w_41 := Int32.toInt_lt x1
            have w_42 := Int32.le_toInt x1
            have w_43 := Int32.toInt_lt x3
            have w_44 := Int32.le_toInt x3
            have w_45 := Int32.toInt_lt v12
            have w_46 := Int32.le_toInt v12
            exact ih38 x1 x2 x3 v12 v13 σ8 mσ8 fσ8 nσ8_1 (by omega) (by omega) (by omega) (by omega) H (by omega)
  have U38 := T 9
  have f0 : FX (fun id => id = 34 ∨ id = 35 ∨ id = 36 ∨ id = 37 ∨ id = 38 ∨ id = 39 ∨ id = 40 ∨ id = 47 ∨ id = 48) (fun id k => (id = 33 ∧ k = 1) ∨ (id = 33 ∧ k = 3) ∨ (id = 33 ∧ k = 9) ∨ (id = 33 ∧ k = 10) ∨ (id = 33 ∧ k = 11)) σ0 σ0 := FX_rf
  have t_47 := XI_c1 m0 (id := 1) (k := 1) (lim_C0_1 (Or.inl rfl))
  have t_48 := XI_c1 m0 (id := 1) (k := 9) (lim_C0_9 (Or.inl rfl))
  have t_49 := XI_c1 m0 (id := 33) (k := 1) (lim_C0_1 (Or.inr (Or.inr rfl)))
  have t_50 := XI_c1 m0 (id := 33) (k := 9) (lim_C0_9 (Or.inr (Or.inr rfl)))
  have H := H0
  unfold F_X11_odds at H
  refine s_X11_odds_0 C hN  ?_
  refine kF_X11_isMower  m0   (fun r2 σ1 mσ1 cσ1 plσ1 phσ1 (pσ1_0 : (r2.toInt = 1 ∧ 0 ≤ a1.toInt ∧ a1.toInt < (gi σ0 1 1).toInt) ∨ (r2.toInt = 0 ∧ (a1.toInt < 0 ∨ (gi σ0 1 1).toInt ≤ a1.toInt))) hσ1 => ?_)
  obtain rfl := FX_nil cσ1
  replace H := f_b hσ1 H
  refine ⟨?_, ?_⟩
  · intro q_51
    replace H := f_t q_51 H
    have b_52 : r2.toInt = 0 := congrArg Int32.toInt q_51
    exact h9ret (-9223372036854775808 : Int64) σ0 m0 f0 nn_1 (H0.trans H.symm)
  · intro q_51
    replace H := f_f q_51 H
    have b_53 : ¬ r2.toInt = 0 := fun h9 => q_51 (Int32.toInt_inj.mp h9)
    refine ⟨?_, ?_⟩
    · intro q_54
      replace H := f_t q_54 H
      have w_55 := Int32.toInt_lt a2
      have w_56 := Int32.le_toInt a2
      have b_57 : a2.toInt < 1 := Int32.lt_iff_toInt_lt.mp q_54
      exact h9ret (-9223372036854775808 : Int64) σ0 m0 f0 nn_1 (H0.trans H.symm)
    · intro q_54
      replace H := f_f q_54 H
      have w_58 := Int32.toInt_lt a2
      have w_59 := Int32.le_toInt a2
      have b_60 : ¬ a2.toInt < 1 := fun h9 => q_54 (Int32.lt_iff_toInt_lt.mpr h9)
      refine ⟨?_, ?_⟩
      · intro q_61
        replace H := f_t q_61 H
        have b_62 : (60 : Int) < a2.toInt := Int32.lt_iff_toInt_lt.mp q_61
        exact h9ret (-9223372036854775808 : Int64) σ0 m0 f0 nn_1 (H0.trans H.symm)
      · intro q_61
        replace H := f_f q_61 H
        have b_63 : ¬ (60 : Int) < a2.toInt := fun h9 => q_61 (Int32.lt_iff_toInt_lt.mpr h9)
        refine ⟨?_, ?_⟩
        · intro q_64
          replace H := f_t q_64 H
          have w_65 := Int32.toInt_lt a3
          have w_66 := Int32.le_toInt a3
          have b_67 : a3.toInt = 0 := congrArg Int32.toInt q_64
          have w_68 := Int32.toInt_lt a1
          have w_69 := Int32.le_toInt a1
          have z_70 : (0 : Int32).toInt = 0 := rfl
          exact U38 a1 a2 a3 (0 : Int32) (0 : Int32) σ0 m0 f0 nn_1 (by omega) (by omega) (by omega) (by omega) H (by omega)
        · intro q_64
          replace H := f_f q_64 H
          have w_71 := Int32.toInt_lt a3
          have w_72 := Int32.le_toInt a3
          have b_73 : ¬ a3.toInt = 0 := fun h9 => q_64 (Int32.toInt_inj.mp h9)
          refine ⟨?_, ?_⟩
          · intro q_74
            replace H := f_t q_74 H
            have b_75 : a3.toInt = 1 := congrArg Int32.toInt q_74
            have w_76 := Int32.toInt_lt a1
            have w_77 := Int32.le_toInt a1
            have z_78 : (0 : Int32).toInt = 0 := rfl
            exact U38 a1 a2 a3 (0 : Int32) (0 : Int32) σ0 m0 f0 nn_1 (by omega) (by omega) (by omega) (by omega) H (by omega)
          · intro q_74
            replace H := f_f q_74 H
            have b_79 : ¬ a3.toInt = 1 := fun h9 => q_74 (Int32.toInt_inj.mp h9)
            exact h9ret (-9223372036854775808 : Int64) σ0 m0 f0 nn_1 (H0.trans H.symm)
set_option maxRecDepth 100000 in
set_option maxHeartbeats 4000000 in
theorem kF_X11_mean {l : Launch} {V : Vx} {a1 : Int32} {a2 : Int32} {σ0 : Sg} {Qk : Int64 → Sg → Prop} (m0 : XI V σ0) (nn_1 : NN σ0 1) (pre0 : (gi σ0 1 9).toInt ≤ 9999) (h9ret : ∀ (r : Int64) (σ' : Sg), XI V σ' → FX (fun id => id = 34 ∨ id = 35 ∨ id = 36 ∨ id = 37 ∨ id = 38 ∨ id = 39 ∨ id = 40 ∨ id = 47 ∨ id = 48) (fun id k => (id = 33 ∧ k = 1) ∨ (id = 33 ∧ k = 3) ∨ (id = 33 ∧ k = 9) ∨ (id = 33 ∧ k = 10) ∨ (id = 33 ∧ k = 11)) σ0 σ' → (NN σ' 1) → (F_X11_mean a1 a2 σ0 = (r, σ')) → Qk r σ') : K_X11_mean l V a1 a2 σ0 Qk := by
  refine e_X11_mean (fun M hl hV hN C => ?_)
  subst hl
  subst hV
  obtain ⟨R9, H0⟩ : ∃ R9, F_X11_mean a1 a2 σ0 = R9 := ⟨_, rfl⟩
  have T : ∀ n : Nat, (∀ (x1 : Int32) (x2 : Int32) (σ : Sg), XI (mV M) σ → FX (fun id => id = 34 ∨ id = 35 ∨ id = 36 ∨ id = 37 ∨ id = 38 ∨ id = 39 ∨ id = 40 ∨ id = 47 ∨ id = 48) (fun id k => (id = 33 ∧ k = 1) ∨ (id = 33 ∧ k = 3) ∨ (id = 33 ∧ k = 9) ∨ (id = 33 ∧ k = 10) ∨ (id = 33 ∧ k = 11)) σ0 σ → NN σ 1 → (1 ≤ x1.toInt) → (x1.toInt ≤ 60) → (LF_X11_mean n x1 x2 σ = R9) → 1 < n → PS M 34 [(0, .ref 0), (1, .int x1), (2, .int x2)] [] σ (0, 0)) := by
    intro n
    induction n with
    | zero => exact fun _ _ _ _ _ _ _ _ _ h8 => absurd h8 (Nat.not_lt_zero _)
    | succ n ih =>
      have ih34 := ih
      · intro x1 x2 σ mσ fσ nσ_1 lx1 ux1 H hmu
        replace H : LB_X11_mean_34 (LF_X11_mean n) x1 x2 σ = R9 := H
        unfold LB_X11_mean_34 at H
        have k_1 : (gi σ 1 1).toInt = (gi σ0 1 1).toInt := congrArg Int32.toInt (FX_i fσ (show ¬ (1 = 34 ∨ 1 = 35 ∨ 1 = 36 ∨ 1 = 37 ∨ 1 = 38 ∨ 1 = 39 ∨ 1 = 40 ∨ 1 = 47 ∨ 1 = 48) from by omega) (show ¬ ((1 = 33 ∧ 1 = 1) ∨ (1 = 33 ∧ 1 = 3) ∨ (1 = 33 ∧ 1 = 9) ∨ (1 = 33 ∧ 1 = 10) ∨ (1 = 33 ∧ 1 = 11)) from by omega))
        have t_2 := XI_c1 mσ (id := 1) (k := 1) (lim_C0_1 (Or.inl rfl))
        have k_3 : (gi σ 1 9).toInt = (gi σ0 1 9).toInt := congrArg Int32.toInt (FX_i fσ (show ¬ (1 = 34 ∨ 1 = 35 ∨ 1 = 36 ∨ 1 = 37 ∨ 1 = 38 ∨ 1 = 39 ∨ 1 = 40 ∨ 1 = 47 ∨ 1 = 48) from by omega) (show ¬ ((1 = 33 ∧ 9 = 1) ∨ (1 = 33 ∧ 9 = 3) ∨ (1 = 33 ∧ 9 = 9) ∨ (1 = 33 ∧ 9 = 10) ∨ (1 = 33 ∧ 9 = 11)) from by omega))
        have t_4 := XI_c1 mσ (id := 1) (k := 9) (lim_C0_9 (Or.inl rfl))
        refine s_X11_mean_34 C hN  ?_
        have z_5 : (1 : Int32).toInt = 1 := rfl
        refine kF_X1_becomes (Or.inr (Or.inr rfl)) (Or.inl rfl) mσ nσ_1 (by first | with_reducible assumption | with_reducible rfl | omega | assumption | rfl) (fun σ1 mσ1 cσ1 nσ1_1 nσ1_33 (pσ1_0 : (gi σ1 33 1).toInt = (gi σ 1 1).toInt) (pσ1_1 : (gi σ1 33 3).toInt = (gi σ 1 3).toInt) (pσ1_2 : (gi σ1 33 9).toInt = (gi σ 1 9).toInt) (pσ1_3 : CPY σ σ1 33 1) hσ1 => ?_)
        replace H := f_v hσ1 H
        have fσ1 : FX (fun id => id = 34 ∨ id = 35 ∨ id = 36 ∨ id = 37 ∨ id = 38 ∨ id = 39 ∨ id = 40 ∨ id = 47 ∨ id = 48) (fun id k => (id = 33 ∧ k = 1) ∨ (id = 33 ∧ k = 3) ∨ (id = 33 ∧ k = 9) ∨ (id = 33 ∧ k = 10) ∨ (id = 33 ∧ k = 11)) σ0 σ1 := FX_tr fσ cσ1 (fun x (h9 : x = 34 ∨ x = 35 ∨ x = 36 ∨ x = 37 ∨ x = 38 ∨ x = 39 ∨ x = 40) => h9.elim (fun e9 => (show x = 34 ∨ x = 35 ∨ x = 36 ∨ x = 37 ∨ x = 38 ∨ x = 39 ∨ x = 40 ∨ x = 47 ∨ x = 48 from Or.inl (e9))) (fun h9 => h9.elim (fun e9 => (show x = 34 ∨ x = 35 ∨ x = 36 ∨ x = 37 ∨ x = 38 ∨ x = 39 ∨ x = 40 ∨ x = 47 ∨ x = 48 from Or.inr (Or.inl (e9)))) (fun h9 => h9.elim (fun e9 => (show x = 34 ∨ x = 35 ∨ x = 36 ∨ x = 37 ∨ x = 38 ∨ x = 39 ∨ x = 40 ∨ x = 47 ∨ x = 48 from Or.inr (Or.inr (Or.inl (e9))))) (fun h9 => h9.elim (fun e9 => (show x = 34 ∨ x = 35 ∨ x = 36 ∨ x = 37 ∨ x = 38 ∨ x = 39 ∨ x = 40 ∨ x = 47 ∨ x = 48 from Or.inr (Or.inr (Or.inr (Or.inl (e9)))))) (fun h9 => h9.elim (fun e9 => (show x = 34 ∨ x = 35 ∨ x = 36 ∨ x = 37 ∨ x = 38 ∨ x = 39 ∨ x = 40 ∨ x = 47 ∨ x = 48 from Or.inr (Or.inr (Or.inr (Or.inr (Or.inl (e9))))))) (fun h9 => h9.elim (fun e9 => (show x = 34 ∨ x = 35 ∨ x = 36 ∨ x = 37 ∨ x = 38 ∨ x = 39 ∨ x = 40 ∨ x = 47 ∨ x = 48 from Or.inr (Or.inr (Or.inr (Or.inr (Or.inr (Or.inl (e9)))))))) (fun h9 => (show x = 34 ∨ x = 35 ∨ x = 36 ∨ x = 37 ∨ x = 38 ∨ x = 39 ∨ x = 40 ∨ x = 47 ∨ x = 48 from Or.inr (Or.inr (Or.inr (Or.inr (Or.inr (Or.inr (Or.inl (h9))))))))))))))) (fun x k (h9 : (x = 33 ∧ k = 1) ∨ (x = 33 ∧ k = 3) ∨ (x = 33 ∧ k = 9) ∨ (x = 33 ∧ k = 10) ∨ (x = 33 ∧ k = 11)) => (show (x = 34 ∨ x = 35 ∨ x = 36 ∨ x = 37 ∨ x = 38 ∨ x = 39 ∨ x = 40 ∨ x = 47 ∨ x = 48) ∨ ((x = 33 ∧ k = 1) ∨ (x = 33 ∧ k = 3) ∨ (x = 33 ∧ k = 9) ∨ (x = 33 ∧ k = 10) ∨ (x = 33 ∧ k = 11)) from h9.elim (fun e9 => Or.inr (show (x = 33 ∧ k = 1) ∨ (x = 33 ∧ k = 3) ∨ (x = 33 ∧ k = 9) ∨ (x = 33 ∧ k = 10) ∨ (x = 33 ∧ k = 11) from Or.inl (e9))) (fun h9 => h9.elim (fun e9 => Or.inr (show (x = 33 ∧ k = 1) ∨ (x = 33 ∧ k = 3) ∨ (x = 33 ∧ k = 9) ∨ (x = 33 ∧ k = 10) ∨ (x = 33 ∧ k = 11) from Or.inr (Or.inl (e9)))) (fun h9 => h9.elim (fun e9 => Or.inr (show (x = 33 ∧ k = 1) ∨ (x = 33 ∧ k = 3) ∨ (x = 33 ∧ k = 9) ∨ (x = 33 ∧ k = 10) ∨ (x = 33 ∧ k = 11) from Or.inr (Or.inr (Or.inl (e9))))) (fun h9 => h9.elim (fun e9 => Or.inr (show (x = 33 ∧ k = 1) ∨ (x = 33 ∧ k = 3) ∨ (x = 33 ∧ k = 9) ∨ (x = 33 ∧ k = 10) ∨ (x = 33 ∧ k = 11) from Or.inr (Or.inr (Or.inr (Or.inl (e9)))))) (fun h9 => Or.inr (show (x = 33 ∧ k = 1) ∨ (x = 33 ∧ k = 3) ∨ (x = 33 ∧ k = 9) ∨ (x = 33 ∧ k = 10) ∨ (x = 33 ∧ k = 11) from Or.inr (Or.inr (Or.inr (Or.inr (h9)))))))))))
        have k_6 : (gi σ1 1 1).toInt = (gi σ 1 1).toInt := congrArg Int32.toInt (FX_i cσ1 (show ¬ (1 = 34 ∨ 1 = 35 ∨ 1 = 36 ∨ 1 = 37 ∨ 1 = 38 ∨ 1 = 39 ∨ 1 = 40) from by omega) (show ¬ ((1 = 33 ∧ 1 = 1) ∨ (1 = 33 ∧ 1 = 3) ∨ (1 = 33 ∧ 1 = 9) ∨ (1 = 33 ∧ 1 = 10) ∨ (1 = 33 ∧ 1 = 11)) from by omega))
        have k_7 : (gi σ1 1 9).toInt = (gi σ 1 9).toInt := congrArg Int32.toInt (FX_i cσ1 (show ¬ (1 = 34 ∨ 1 = 35 ∨ 1 = 36 ∨ 1 = 37 ∨ 1 = 38 ∨ 1 = 39 ∨ 1 = 40) from by omega) (show ¬ ((1 = 33 ∧ 9 = 1) ∨ (1 = 33 ∧ 9 = 3) ∨ (1 = 33 ∧ 9 = 9) ∨ (1 = 33 ∧ 9 = 10) ∨ (1 = 33 ∧ 9 = 11)) from by omega))
        refine kF_X1_goes (Or.inr (Or.inr rfl)) mσ1 nσ1_33 (by omega) (by omega) (by first | with_reducible assumption | with_reducible rfl | omega | assumption | rfl) (fun σ2 mσ2 cσ2 nσ2_33 (pσ2_0 : (gi σ2 33 9).toInt = (gi σ1 33 9).toInt + x1.toInt) hσ2 => ?_)
        replace H := f_v hσ2 H
        have fσ2 : FX (fun id => id = 34 ∨ id = 35 ∨ id = 36 ∨ id = 37 ∨ id = 38 ∨ id = 39 ∨ id = 40 ∨ id = 47 ∨ id = 48) (fun id k => (id = 33 ∧ k = 1) ∨ (id = 33 ∧ k = 3) ∨ (id = 33 ∧ k = 9) ∨ (id = 33 ∧ k = 10) ∨ (id = 33 ∧ k = 11)) σ0 σ2 := FX_tr fσ1 cσ2 (fun x (h9 : x = 47 ∨ x = 48 ∨ x = 36 ∨ x = 37 ∨ x = 38 ∨ x = 39) => h9.elim (fun e9 => (show x = 34 ∨ x = 35 ∨ x = 36 ∨ x = 37 ∨ x = 38 ∨ x = 39 ∨ x = 40 ∨ x = 47 ∨ x = 48 from Or.inr (Or.inr (Or.inr (Or.inr (Or.inr (Or.inr (Or.inr (Or.inl (e9)))))))))) (fun h9 => h9.elim (fun e9 => (show x = 34 ∨ x = 35 ∨ x = 36 ∨ x = 37 ∨ x = 38 ∨ x = 39 ∨ x = 40 ∨ x = 47 ∨ x = 48 from Or.inr (Or.inr (Or.inr (Or.inr (Or.inr (Or.inr (Or.inr (Or.inr (e9)))))))))) (fun h9 => h9.elim (fun e9 => (show x = 34 ∨ x = 35 ∨ x = 36 ∨ x = 37 ∨ x = 38 ∨ x = 39 ∨ x = 40 ∨ x = 47 ∨ x = 48 from Or.inr (Or.inr (Or.inl (e9))))) (fun h9 => h9.elim (fun e9 => (show x = 34 ∨ x = 35 ∨ x = 36 ∨ x = 37 ∨ x = 38 ∨ x = 39 ∨ x = 40 ∨ x = 47 ∨ x = 48 from Or.inr (Or.inr (Or.inr (Or.inl (e9)))))) (fun h9 => h9.elim (fun e9 => (show x = 34 ∨ x = 35 ∨ x = 36 ∨ x = 37 ∨ x = 38 ∨ x = 39 ∨ x = 40 ∨ x = 47 ∨ x = 48 from Or.inr (Or.inr (Or.inr (Or.inr (Or.inl (e9))))))) (fun h9 => (show x = 34 ∨ x = 35 ∨ x = 36 ∨ x = 37 ∨ x = 38 ∨ x = 39 ∨ x = 40 ∨ x = 47 ∨ x = 48 from Or.inr (Or.inr (Or.inr (Or.inr (Or.inr (Or.inl (h9))))))))))))) (fun x k (h9 : (x = 33 ∧ k = 9)) => (show (x = 34 ∨ x = 35 ∨ x = 36 ∨ x = 37 ∨ x = 38 ∨ x = 39 ∨ x = 40 ∨ x = 47 ∨ x = 48) ∨ ((x = 33 ∧ k = 1) ∨ (x = 33 ∧ k = 3) ∨ (x = 33 ∧ k = 9) ∨ (x = 33 ∧ k = 10) ∨ (x = 33 ∧ k = 11)) from Or.inr (show (x = 33 ∧ k = 1) ∨ (x = 33 ∧ k = 3) ∨ (x = 33 ∧ k = 9) ∨ (x = 33 ∧ k = 10) ∨ (x = 33 ∧ k = 11) from Or.inr (Or.inr (Or.inl (h9))))))
        have k_8 : (gi σ2 1 1).toInt = (gi σ1 1 1).toInt := congrArg Int32.toInt (FX_i cσ2 (show ¬ (1 = 47 ∨ 1 = 48 ∨ 1 = 36 ∨ 1 = 37 ∨ 1 = 38 ∨ 1 = 39) from by omega) (show ¬ ((1 = 33 ∧ 1 = 9)) from by omega))
        have k_9 : (gi σ2 1 9).toInt = (gi σ1 1 9).toInt := congrArg Int32.toInt (FX_i cσ2 (show ¬ (1 = 47 ∨ 1 = 48 ∨ 1 = 36 ∨ 1 = 37 ∨ 1 = 38 ∨ 1 = 39) from by omega) (show ¬ ((1 = 33 ∧ 9 = 9)) from by omega))
        have nσ2_1 : NN σ2 1 := NN_fx nσ1_1 cσ2 (show ¬ (1 = 47 ∨ 1 = 48 ∨ 1 = 36 ∨ 1 = 37 ∨ 1 = 38 ∨ 1 = 39) from by omega) (show ¬ (2 = 47 ∨ 2 = 48 ∨ 2 = 36 ∨ 2 = 37 ∨ 2 = 38 ∨ 2 = 39) from by omega) (show ¬ (3 = 47 ∨ 3 = 48 ∨ 3 = 36 ∨ 3 = 37 ∨ 3 = 38 ∨ 3 = 39) from by omega) (show ¬ ((1 = 33 ∧ 1 = 9)) from by omega) (show ¬ ((1 = 33 ∧ 3 = 9)) from by omega) (fun k (h9 : (2 = 33 ∧ k = 9)) => by omega) (fun k (h9 : (3 = 33 ∧ k = 9)) => by omega)
        refine kF_X1_allAt (Or.inr (Or.inr rfl)) mσ2   (fun r4 σ3 mσ3 cσ3 hσ3 => ?_)
        obtain rfl := FX_nil cσ3
        replace H := f_b hσ3 H
        have t_10 := XI_c1 mσ2 (id := 1) (k := 1) (lim_C0_1 (Or.inl rfl))
        have t_11 := XI_c1 mσ2 (id := 1) (k := 9) (lim_C0_9 (Or.inl rfl))
        refine kF_X11_lowest  mσ2   (fun r6 σ5 mσ5 cσ5 hσ5 => ?_)
        obtain rfl := FX_nil cσ5
        replace H := f_b hσ5 H
        exact h9ret r6 σ2 mσ2 fσ2 nσ2_1 (H0.trans H.symm)
  have U34 := T 9
  have f0 : FX (fun id => id = 34 ∨ id = 35 ∨ id = 36 ∨ id = 37 ∨ id = 38 ∨ id = 39 ∨ id = 40 ∨ id = 47 ∨ id = 48) (fun id k => (id = 33 ∧ k = 1) ∨ (id = 33 ∧ k = 3) ∨ (id = 33 ∧ k = 9) ∨ (id = 33 ∧ k = 10) ∨ (id = 33 ∧ k = 11)) σ0 σ0 := FX_rf
  have t_12 := XI_c1 m0 (id := 1) (k := 1) (lim_C0_1 (Or.inl rfl))
  have t_13 := XI_c1 m0 (id := 1) (k := 9) (lim_C0_9 (Or.inl rfl))
  have H := H0
  unfold F_X11_mean at H
  refine s_X11_mean_0 C hN  ?_
  refine ⟨?_, ?_⟩
  · intro q_14
    replace H := f_t q_14 H
    have b_15 : (gi σ0 1 1).toInt = 0 := congrArg Int32.toInt q_14
    exact h9ret (-9223372036854775808 : Int64) σ0 m0 f0 nn_1 (H0.trans H.symm)
  · intro q_14
    replace H := f_f q_14 H
    have b_16 : ¬ (gi σ0 1 1).toInt = 0 := fun h9 => q_14 (Int32.toInt_inj.mp h9)
    refine ⟨?_, ?_⟩
    · intro q_17
      replace H := f_t q_17 H
      have w_18 := Int32.toInt_lt a1
      have w_19 := Int32.le_toInt a1
      have b_20 : a1.toInt < 1 := Int32.lt_iff_toInt_lt.mp q_17
      exact h9ret (-9223372036854775808 : Int64) σ0 m0 f0 nn_1 (H0.trans H.symm)
    · intro q_17
      replace H := f_f q_17 H
      have w_21 := Int32.toInt_lt a1
      have w_22 := Int32.le_toInt a1
      have b_23 : ¬ a1.toInt < 1 := fun h9 => q_17 (Int32.lt_iff_toInt_lt.mpr h9)
      refine ⟨?_, ?_⟩
      · intro q_24
        replace H := f_t q_24 H
        have b_25 : (60 : Int) < a1.toInt := Int32.lt_iff_toInt_lt.mp q_24
        exact h9ret (-9223372036854775808 : Int64) σ0 m0 f0 nn_1 (H0.trans H.symm)
      · intro q_24
        replace H := f_f q_24 H
        have b_26 : ¬ (60 : Int) < a1.toInt := fun h9 => q_24 (Int32.lt_iff_toInt_lt.mpr h9)
        refine ⟨?_, ?_⟩
        · intro q_27
          replace H := f_t q_27 H
          have w_28 := Int32.toInt_lt a2
          have w_29 := Int32.le_toInt a2
          have b_30 : a2.toInt = 0 := congrArg Int32.toInt q_27
          exact U34 a1 a2 σ0 m0 f0 nn_1 (by omega) (by omega) H (by omega)
        · intro q_27
          replace H := f_f q_27 H
          have w_31 := Int32.toInt_lt a2
          have w_32 := Int32.le_toInt a2
          have b_33 : ¬ a2.toInt = 0 := fun h9 => q_27 (Int32.toInt_inj.mp h9)
          refine ⟨?_, ?_⟩
          · intro q_34
            replace H := f_t q_34 H
            have b_35 : a2.toInt = 1 := congrArg Int32.toInt q_34
            exact U34 a1 a2 σ0 m0 f0 nn_1 (by omega) (by omega) H (by omega)
          · intro q_34
            replace H := f_f q_34 H
            have b_36 : ¬ a2.toInt = 1 := fun h9 => q_34 (Int32.toInt_inj.mp h9)
            exact h9ret (-9223372036854775808 : Int64) σ0 m0 f0 nn_1 (H0.trans H.symm)
