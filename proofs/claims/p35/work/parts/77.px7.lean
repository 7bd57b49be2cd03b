theorem lim_C9 {c : Nat} (hc : isC c) {k : Nat} (hk : k % 3 = 0) : lim (c + 9) k = some (0, 5) := by rcases hc with rfl | rfl | rfl <;> simp [lim, limL, limC, hk]
set_option maxRecDepth 100000 in
set_option maxHeartbeats 4000000 in
theorem k_X11_stop {l : Launch} {V : Vx} {a1 : Int32} {a2 : Int32} {a3 : Int32} {a4 : Int32} {σ0 : Sg} {Qk : Int32 → Sg → Prop} (m0 : XI V σ0) (nn_1 : NN σ0 1) (pre0 : (gi σ0 1 9).toInt ≤ 9999) (h9ret : ∀ (r : Int32) (σ' : Sg), XI V σ' → FX (fun id => id = 34 ∨ id = 35 ∨ id = 36 ∨ id = 37 ∨ id = 38 ∨ id = 39 ∨ id = 40 ∨ id = 47 ∨ id = 48 ∨ id = 68) (fun id k => (id = 33 ∧ k = 1) ∨ (id = 33 ∧ k = 3) ∨ (id = 33 ∧ k = 9) ∨ (id = 33 ∧ k = 10) ∨ (id = 33 ∧ k = 11)) σ0 σ' → (NN σ' 1) → Qk r σ') : K_X11_stop l V a1 a2 a3 a4 σ0 Qk := by
  refine e_X11_stop (fun M hl hV hN C => ?_)
  subst hl
  subst hV
  have T : ∀ n : Nat, (∀ (x1 : Int32) (x2 : Int32) (x3 : Int32) (x4 : Int32) (σ : Sg), XI (mV M) σ → FX (fun id => id = 34 ∨ id = 35 ∨ id = 36 ∨ id = 37 ∨ id = 38 ∨ id = 39 ∨ id = 40 ∨ id = 47 ∨ id = 48 ∨ id = 68) (fun id k => (id = 33 ∧ k = 1) ∨ (id = 33 ∧ k = 3) ∨ (id = 33 ∧ k = 9) ∨ (id = 33 ∧ k = 10) ∨ (id = 33 ∧ k = 11)) σ0 σ → NN σ 1 → (0 ≤ x1.toInt) → (x1.toInt ≤ 5) → 1 < n → PS M 22 [(0, .ref 0), (1, .int x1), (2, .int x2), (3, .int x3), (4, .int x4)] [] σ (0, 0)) := by
    intro n
    induction n with
    | zero => exact fun _ _ _ _ _ _ _ _ _ _ h8 => absurd h8 (Nat.not_lt_zero _)
    | succ n ih =>
      have ih22 := ih
      · intro x1 x2 x3 x4 σ mσ fσ nσ_1 lx1 ux1 hmu
        have k_1 : (gi σ 1 1).toInt = (gi σ0 1 1).toInt := congrArg Int32.toInt (FX_i fσ (show ¬ (1 = 34 ∨ 1 = 35 ∨ 1 = 36 ∨ 1 = 37 ∨ 1 = 38 ∨ 1 = 39 ∨ 1 = 40 ∨ 1 = 47 ∨ 1 = 48 ∨ 1 = 68) from by omega) (show ¬ ((1 = 33 ∧ 1 = 1) ∨ (1 = 33 ∧ 1 = 3) ∨ (1 = 33 ∧ 1 = 9) ∨ (1 = 33 ∧ 1 = 10) ∨ (1 = 33 ∧ 1 = 11)) from by omega))
        have t_2 := XI_c1 mσ (id := 1) (k := 1) (lim_C0_1 (Or.inl rfl))
        have k_3 : (gi σ 1 9).toInt = (gi σ0 1 9).toInt := congrArg Int32.toInt (FX_i fσ (show ¬ (1 = 34 ∨ 1 = 35 ∨ 1 = 36 ∨ 1 = 37 ∨ 1 = 38 ∨ 1 = 39 ∨ 1 = 40 ∨ 1 = 47 ∨ 1 = 48 ∨ 1 = 68) from by omega) (show ¬ ((1 = 33 ∧ 9 = 1) ∨ (1 = 33 ∧ 9 = 3) ∨ (1 = 33 ∧ 9 = 9) ∨ (1 = 33 ∧ 9 = 10) ∨ (1 = 33 ∧ 9 = 11)) from by omega))
        have t_4 := XI_c1 mσ (id := 1) (k := 9) (lim_C0_9 (Or.inl rfl))
        have t_5 := XI_c1 mσ (id := 33) (k := 1) (lim_C0_1 (Or.inr (Or.inr rfl)))
        have t_6 := XI_c1 mσ (id := 33) (k := 9) (lim_C0_9 (Or.inr (Or.inr rfl)))
        refine s_X11_stop_22 C hN  ?_
        refine ⟨?_, ?_⟩
        · intro q_7
          have w_8 := Int32.toInt_lt x2
          have w_9 := Int32.le_toInt x2
          have b_10 : x2.toInt < 1 := Int32.lt_iff_toInt_lt.mp q_7
          have z_11 : (-100002 : Int32).toInt = -100002 := rfl
          exact h9ret (-100002 : Int32) σ mσ fσ nσ_1
        · intro q_7
          have w_12 := Int32.toInt_lt x2
          have w_13 := Int32.le_toInt x2
          have b_14 : ¬ x2.toInt < 1 := fun h9 => q_7 (Int32.lt_iff_toInt_lt.mpr h9)
          refine ⟨?_, ?_⟩
          · intro q_15
            have b_16 : (20 : Int) < x2.toInt := Int32.lt_iff_toInt_lt.mp q_15
            have z_17 : (-100002 : Int32).toInt = -100002 := rfl
            exact h9ret (-100002 : Int32) σ mσ fσ nσ_1
          · intro q_15
            have b_18 : ¬ (20 : Int) < x2.toInt := fun h9 => q_15 (Int32.lt_iff_toInt_lt.mpr h9)
            refine ⟨?_, ?_⟩
            · intro q_19
              have w_20 := Int32.toInt_lt x3
              have w_21 := Int32.le_toInt x3
              have b_22 : x3.toInt < 1 := Int32.lt_iff_toInt_lt.mp q_19
              have z_23 : (-100002 : Int32).toInt = -100002 := rfl
              exact h9ret (-100002 : Int32) σ mσ fσ nσ_1
            · intro q_19
              have w_24 := Int32.toInt_lt x3
              have w_25 := Int32.le_toInt x3
              have b_26 : ¬ x3.toInt < 1 := fun h9 => q_19 (Int32.lt_iff_toInt_lt.mpr h9)
              refine ⟨?_, ?_⟩
              · intro q_27
                have b_28 : x3.toInt ≤ 60 := Int32.le_iff_toInt_le.mp q_27
                have z_29 : (1 : Int32).toInt = 1 := rfl
                refine k_X1_becomes (Or.inr (Or.inr rfl)) (Or.inl rfl) mσ nσ_1 (by first | omega | assumption | rfl) (fun σ5 mσ5 cσ5 nσ5_1 nσ5_33 (pσ5_0 : (gi σ5 33 1).toInt = (gi σ 1 1).toInt) (pσ5_1 : (gi σ5 33 3).toInt = (gi σ 1 3).toInt) (pσ5_2 : (gi σ5 33 9).toInt = (gi σ 1 9).toInt) (pσ5_3 : CPY σ σ5 33 1) => ?_)
                have fσ5 : FX (fun id => id = 34 ∨ id = 35 ∨ id = 36 ∨ id = 37 ∨ id = 38 ∨ id = 39 ∨ id = 40 ∨ id = 47 ∨ id = 48 ∨ id = 68) (fun id k => (id = 33 ∧ k = 1) ∨ (id = 33 ∧ k = 3) ∨ (id = 33 ∧ k = 9) ∨ (id = 33 ∧ k = 10) ∨ (id = 33 ∧ k = 11)) σ0 σ5 := FX_tr fσ cσ5 (fun x (h9 : x = 34 ∨ x = 35 ∨ x = 36 ∨ x = 37 ∨ x = 38 ∨ x = 39 ∨ x = 40) => h9.elim (fun e9 => (show x = 34 ∨ x = 35 ∨ x = 36 ∨ x = 37 ∨ x = 38 ∨ x = 39 ∨ x = 40 ∨ x = 47 ∨ x = 48 ∨ x = 68 from Or.inl (e9))) (fun h9 => h9.elim (fun e9 => (show x = 34 ∨ x = 35 ∨ x = 36 ∨ x = 37 ∨ x = 38 ∨ x = 39 ∨ x = 40 ∨ x = 47 ∨ x = 48 ∨ x = 68 from Or.inr (Or.inl (e9)))) (fun h9 => h9.elim (fun e9 => (show x = 34 ∨ x = 35 ∨ x = 36 ∨ x = 37 ∨ x = 38 ∨ x = 39 ∨ x = 40 ∨ x = 47 ∨ x = 48 ∨ x = 68 from Or.inr (Or.inr (Or.inl (e9))))) (fun h9 => h9.elim (fun e9 => (show x = 34 ∨ x = 35 ∨ x = 36 ∨ x = 37 ∨ x = 38 ∨ x = 39 ∨ x = 40 ∨ x = 47 ∨ x = 48 ∨ x = 68 from Or.inr (Or.inr (Or.inr (Or.inl (e9)))))) (fun h9 => h9.elim (fun e9 => (show x = 34 ∨ x = 35 ∨ x = 36 ∨ x = 37 ∨ x = 38 ∨ x = 39 ∨ x = 40 ∨ x = 47 ∨ x = 48 ∨ x = 68 from Or.inr (Or.inr (Or.inr (Or.inr (Or.inl (e9))))))) (fun h9 => h9.elim (fun e9 => (show x = 34 ∨ x = 35 ∨ x = 36 ∨ x = 37 ∨ x = 38 ∨ x = 39 ∨ x = 40 ∨ x = 47 ∨ x = 48 ∨ x = 68 from Or.inr (Or.inr (Or.inr (Or.inr (Or.inr (Or.inl (e9)))))))) (fun h9 => (show x = 34 ∨ x = 35 ∨ x = 36 ∨ x = 37 ∨ x = 38 ∨ x = 39 ∨ x = 40 ∨ x = 47 ∨ x = 48 ∨ x = 68 from Or.inr (Or.inr (Or.inr (Or.inr (Or.inr (Or.inr (Or.inl (h9))))))))))))))) (fun x k (h9 : (x = 33 ∧ k = 1) ∨ (x = 33 ∧ k = 3) ∨ (x = 33 ∧ k = 9) ∨ (x = 33 ∧ k = 10) ∨ (x = 33 ∧ k = 11)) => (show (x = 34 ∨ x = 35 ∨ x = 36 ∨ x = 37 ∨ x = 38 ∨ x = 39 ∨ x = 40 ∨ x = 47 ∨ x = 48 ∨ x = 68) ∨ ((x = 33 ∧ k = 1) ∨ (x = 33 ∧ k = 3) ∨ (x = 33 ∧ k = 9) ∨ (x = 33 ∧ k = 10) ∨ (x = 33 ∧ k = 11)) from h9.elim (fun e9 => Or.inr (show (x = 33 ∧ k = 1) ∨ (x = 33 ∧ k = 3) ∨ (x = 33 ∧ k = 9) ∨ (x = 33 ∧ k = 10) ∨ (x = 33 ∧ k = 11) from Or.inl (e9))) (fun h9 => h9.elim (fun e9 => Or.inr (show (x = 33 ∧ k = 1) ∨ (x = 33 ∧ k = 3) ∨ (x = 33 ∧ k = 9) ∨ (x = 33 ∧ k = 10) ∨ (x = 33 ∧ k = 11) from Or.inr (Or.inl (e9)))) (fun h9 => h9.elim (fun e9 => Or.inr (show (x = 33 ∧ k = 1) ∨ (x = 33 ∧ k = 3) ∨ (x = 33 ∧ k = 9) ∨ (x = 33 ∧ k = 10) ∨ (x = 33 ∧ k = 11) from Or.inr (Or.inr (Or.inl (e9))))) (fun h9 => h9.elim (fun e9 => Or.inr (show (x = 33 ∧ k = 1) ∨ (x = 33 ∧ k = 3) ∨ (x = 33 ∧ k = 9) ∨ (x = 33 ∧ k = 10) ∨ (x = 33 ∧ k = 11) from Or.inr (Or.inr (Or.inr (Or.inl (e9)))))) (fun h9 => Or.inr (show (x = 33 ∧ k = 1) ∨ (x = 33 ∧ k = 3) ∨ (x = 33 ∧ k = 9) ∨ (x = 33 ∧ k = 10) ∨ (x = 33 ∧ k = 11) from Or.inr (Or.inr (Or.inr (Or.inr (h9)))))))))))
                have k_30 : (gi σ5 1 1).toInt = (gi σ 1 1).toInt := congrArg Int32.toInt (FX_i cσ5 (show ¬ (1 = 34 ∨ 1 = 35 ∨ 1 = 36 ∨ 1 = 37 ∨ 1 = 38 ∨ 1 = 39 ∨ 1 = 40) from by omega) (show ¬ ((1 = 33 ∧ 1 = 1) ∨ (1 = 33 ∧ 1 = 3) ∨ (1 = 33 ∧ 1 = 9) ∨ (1 = 33 ∧ 1 = 10) ∨ (1 = 33 ∧ 1 = 11)) from by omega))
                have k_31 : (gi σ5 1 9).toInt = (gi σ 1 9).toInt := congrArg Int32.toInt (FX_i cσ5 (show ¬ (1 = 34 ∨ 1 = 35 ∨ 1 = 36 ∨ 1 = 37 ∨ 1 = 38 ∨ 1 = 39 ∨ 1 = 40) from by omega) (show ¬ ((1 = 33 ∧ 9 = 1) ∨ (1 = 33 ∧ 9 = 3) ∨ (1 = 33 ∧ 9 = 9) ∨ (1 = 33 ∧ 9 = 10) ∨ (1 = 33 ∧ 9 = 11)) from by omega))
                have t_32 := XI_c1 mσ5 (id := 33) (k := 1) (lim_C0_1 (Or.inr (Or.inr rfl)))
                have t_33 := XI_c1 mσ5 (id := 33) (k := 9) (lim_C0_9 (Or.inr (Or.inr rfl)))
                refine k_X1_goes (Or.inr (Or.inr rfl)) mσ5 nσ5_33 (by omega) (by omega) (by first | omega | assumption | rfl) (fun σ6 mσ6 cσ6 nσ6_33 (pσ6_0 : (gi σ6 33 9).toInt = (gi σ5 33 9).toInt + x3.toInt) => ?_)
                have fσ6 : FX (fun id => id = 34 ∨ id = 35 ∨ id = 36 ∨ id = 37 ∨ id = 38 ∨ id = 39 ∨ id = 40 ∨ id = 47 ∨ id = 48 ∨ id = 68) (fun id k => (id = 33 ∧ k = 1) ∨ (id = 33 ∧ k = 3) ∨ (id = 33 ∧ k = 9) ∨ (id = 33 ∧ k = 10) ∨ (id = 33 ∧ k = 11)) σ0 σ6 := FX_tr fσ5 cσ6 (fun x (h9 : x = 47 ∨ x = 48 ∨ x = 36 ∨ x = 37 ∨ x = 38 ∨ x = 39) => h9.elim (fun e9 => (show x = 34 ∨ x = 35 ∨ x = 36 ∨ x = 37 ∨ x = 38 ∨ x = 39 ∨ x = 40 ∨ x = 47 ∨ x = 48 ∨ x = 68 from Or.inr (Or.inr (Or.inr (Or.inr (Or.inr (Or.inr (Or.inr (Or.inl (e9)))))))))) (fun h9 => h9.elim (fun e9 => (show x = 34 ∨ x = 35 ∨ x = 36 ∨ x = 37 ∨ x = 38 ∨ x = 39 ∨ x = 40 ∨ x = 47 ∨ x = 48 ∨ x = 68 from Or.inr (Or.inr (Or.inr (Or.inr (Or.inr (Or.inr (Or.inr (Or.inr (Or.inl (e9))))))))))) (fun h9 => h9.elim (fun e9 => (show x = 34 ∨ x = 35 ∨ x = 36 ∨ x = 37 ∨ x = 38 ∨ x = 39 ∨ x = 40 ∨ x = 47 ∨ x = 48 ∨ x = 68 from Or.inr (Or.inr (Or.inl (e9))))) (fun h9 => h9.elim (fun e9 => (show x = 34 ∨ x = 35 ∨ x = 36 ∨ x = 37 ∨ x = 38 ∨ x = 39 ∨ x = 40 ∨ x = 47 ∨ x = 48 ∨ x = 68 from Or.inr (Or.inr (Or.inr (Or.inl (e9)))))) (fun h9 => h9.elim (fun e9 => (show x = 34 ∨ x = 35 ∨ x = 36 ∨ x = 37 ∨ x = 38 ∨ x = 39 ∨ x = 40 ∨ x = 47 ∨ x = 48 ∨ x = 68 from Or.inr (Or.inr (Or.inr (Or.inr (Or.inl (e9))))))) (fun h9 => (show x = 34 ∨ x = 35 ∨ x = 36 ∨ x = 37 ∨ x = 38 ∨ x = 39 ∨ x = 40 ∨ x = 47 ∨ x = 48 ∨ x = 68 from Or.inr (Or.inr (Or.inr (Or.inr (Or.inr (Or.inl (h9))))))))))))) (fun x k (h9 : (x = 33 ∧ k = 9)) => (show (x = 34 ∨ x = 35 ∨ x = 36 ∨ x = 37 ∨ x = 38 ∨ x = 39 ∨ x = 40 ∨ x = 47 ∨ x = 48 ∨ x = 68) ∨ ((x = 33 ∧ k = 1) ∨ (x = 33 ∧ k = 3) ∨ (x = 33 ∧ k = 9) ∨ (x = 33 ∧ k = 10) ∨ (x = 33 ∧ k = 11)) from Or.inr (show (x = 33 ∧ k = 1) ∨ (x = 33 ∧ k = 3) ∨ (x = 33 ∧ k = 9) ∨ (x = 33 ∧ k = 10) ∨ (x = 33 ∧ k = 11) from Or.inr (Or.inr (Or.inl (h9))))))
                have k_34 : (gi σ6 1 1).toInt = (gi σ5 1 1).toInt := congrArg Int32.toInt (FX_i cσ6 (show ¬ (1 = 47 ∨ 1 = 48 ∨ 1 = 36 ∨ 1 = 37 ∨ 1 = 38 ∨ 1 = 39) from by omega) (show ¬ ((1 = 33 ∧ 1 = 9)) from by omega))
                have k_35 : (gi σ6 1 9).toInt = (gi σ5 1 9).toInt := congrArg Int32.toInt (FX_i cσ6 (show ¬ (1 = 47 ∨ 1 = 48 ∨ 1 = 36 ∨ 1 = 37 ∨ 1 = 38 ∨ 1 = 39) from by omega) (show ¬ ((1 = 33 ∧ 9 = 9)) from by omega))
                have k_36 : (gi σ6 33 1).toInt = (gi σ5 33 1).toInt := congrArg Int32.toInt (FX_i cσ6 (show ¬ (33 = 47 ∨ 33 = 48 ∨ 33 = 36 ∨ 33 = 37 ∨ 33 = 38 ∨ 33 = 39) from by omega) (show ¬ ((33 = 33 ∧ 1 = 9)) from by omega))
                have t_37 := XI_c1 mσ6 (id := 33) (k := 9) (lim_C0_9 (Or.inr (Or.inr rfl)))
                have nσ6_1 : NN σ6 1 := NN_fx nσ5_1 cσ6 (show ¬ (1 = 47 ∨ 1 = 48 ∨ 1 = 36 ∨ 1 = 37 ∨ 1 = 38 ∨ 1 = 39) from by omega) (show ¬ (2 = 47 ∨ 2 = 48 ∨ 2 = 36 ∨ 2 = 37 ∨ 2 = 38 ∨ 2 = 39) from by omega) (show ¬ (3 = 47 ∨ 3 = 48 ∨ 3 = 36 ∨ 3 = 37 ∨ 3 = 38 ∨ 3 = 39) from by omega) (show ¬ ((1 = 33 ∧ 1 = 9)) from by omega) (show ¬ ((1 = 33 ∧ 3 = 9)) from by omega) (fun k (h9 : (2 = 33 ∧ k = 9)) => by omega) (fun k (h9 : (3 = 33 ∧ k = 9)) => by omega)
                refine k_X1_allAt (Or.inr (Or.inr rfl)) mσ6   (fun r8 σ7 mσ7 cσ7 => ?_)
                obtain rfl := FX_nil cσ7
                have t_38 := XI_c1 mσ6 (id := 1) (k := 1) (lim_C0_1 (Or.inl rfl))
                have t_39 := XI_c1 mσ6 (id := 1) (k := 9) (lim_C0_9 (Or.inl rfl))
                have t_40 := XI_c1 mσ6 (id := 33) (k := 1) (lim_C0_1 (Or.inr (Or.inr rfl)))
                have z_41 : (0 : Int32).toInt = 0 := rfl
                have z_42 : (6 : Int32).toInt = 6 := rfl
                have z_43 := cl_eq (x := (0 : Int32)) (by first | decide | omega)
                have z_44 := cl_eq (x := (0 : Int32)) (by first | decide | omega)
                have z_45 := cl_eq (x := (6 : Int32)) (by first | decide | omega)
                refine ⟨⟨(fun h9 => by have h8 := Int32.lt_iff_toInt_lt.mp h9; have h7 : (0 : Int32).toInt = 0 := rfl; omega), (fun h9 => by have h8 := Int32.lt_iff_toInt_lt.mp h9; have h7 : (0 : Int32).toInt = 0 := rfl; omega), (fun h9 => by have h8 := Int32.lt_iff_toInt_lt.mp h9; have h7 : (0 : Int32).toInt = 0 := rfl; omega), by omega, by omega⟩, ?_⟩
                intro σ9 eσ9
                have mσ9 : XI (mV M) σ9 := by rw [eσ9]; exact XIs_sia mσ6 (fun k lo hi q => by have q : (none : Option (Int × Int)) = some (lo, hi) := q; cases q)
                have fσ9 : FX (fun id => id = 34 ∨ id = 35 ∨ id = 36 ∨ id = 37 ∨ id = 38 ∨ id = 39 ∨ id = 40 ∨ id = 47 ∨ id = 48 ∨ id = 68) (fun id k => (id = 33 ∧ k = 1) ∨ (id = 33 ∧ k = 3) ∨ (id = 33 ∧ k = 9) ∨ (id = 33 ∧ k = 10) ∨ (id = 33 ∧ k = 11)) σ0 σ9 := by rw [eσ9]; exact FX_sia fσ6 ((show 68 = 34 ∨ 68 = 35 ∨ 68 = 36 ∨ 68 = 37 ∨ 68 = 38 ∨ 68 = 39 ∨ 68 = 40 ∨ 68 = 47 ∨ 68 = 48 ∨ 68 = 68 from Or.inr (Or.inr (Or.inr (Or.inr (Or.inr (Or.inr (Or.inr (Or.inr (Or.inr (rfl)))))))))))
                have k_46 : (gi σ9 1 1).toInt = (gi σ6 1 1).toInt := by rw [eσ9, gi_sia, if_neg (by omega)]
                have k_47 : (gi σ9 1 9).toInt = (gi σ6 1 9).toInt := by rw [eσ9, gi_sia, if_neg (by omega)]
                have k_48 : (gi σ9 33 1).toInt = (gi σ6 33 1).toInt := by rw [eσ9, gi_sia, if_neg (by omega)]
                have k_49 : (gi σ9 33 9).toInt = (gi σ6 33 9).toInt := by rw [eσ9, gi_sia, if_neg (by omega)]
                have nσ9_33 : NN σ9 33 := NN_fx nσ6_33 (show FX (fun id => id = 68) (fun _ _ => False) σ6 σ9 from by rw [eσ9]; exact FX_sia FX_rf rfl) (by omega) (by omega) (by omega) id id (fun _ => id) (fun _ => id)
                have nσ9_1 : NN σ9 1 := NN_fx nσ6_1 (show FX (fun id => id = 68) (fun _ _ => False) σ6 σ9 from by rw [eσ9]; exact FX_sia FX_rf rfl) (by omega) (by omega) (by omega) id id (fun _ => id) (fun _ => id)
                refine k_X1_becomes (Or.inr (Or.inr rfl)) (Or.inl rfl) mσ9 nσ9_1 (by first | omega | assumption | rfl) (fun σ10 mσ10 cσ10 nσ10_1 nσ10_33 (pσ10_0 : (gi σ10 33 1).toInt = (gi σ9 1 1).toInt) (pσ10_1 : (gi σ10 33 3).toInt = (gi σ9 1 3).toInt) (pσ10_2 : (gi σ10 33 9).toInt = (gi σ9 1 9).toInt) (pσ10_3 : CPY σ9 σ10 33 1) => ?_)
                have fσ10 : FX (fun id => id = 34 ∨ id = 35 ∨ id = 36 ∨ id = 37 ∨ id = 38 ∨ id = 39 ∨ id = 40 ∨ id = 47 ∨ id = 48 ∨ id = 68) (fun id k => (id = 33 ∧ k = 1) ∨ (id = 33 ∧ k = 3) ∨ (id = 33 ∧ k = 9) ∨ (id = 33 ∧ k = 10) ∨ (id = 33 ∧ k = 11)) σ0 σ10 := FX_tr fσ9 cσ10 (fun x (h9 : x = 34 ∨ x = 35 ∨ x = 36 ∨ x = 37 ∨ x = 38 ∨ x = 39 ∨ x = 40) => h9.elim (fun e9 => (show x = 34 ∨ x = 35 ∨ x = 36 ∨ x = 37 ∨ x = 38 ∨ x = 39 ∨ x = 40 ∨ x = 47 ∨ x = 48 ∨ x = 68 from Or.inl (e9))) (fun h9 => h9.elim (fun e9 => (show x = 34 ∨ x = 35 ∨ x = 36 ∨ x = 37 ∨ x = 38 ∨ x = 39 ∨ x = 40 ∨ x = 47 ∨ x = 48 ∨ x = 68 from Or.inr (Or.inl (e9)))) (fun h9 => h9.elim (fun e9 => (show x = 34 ∨ x = 35 ∨ x = 36 ∨ x = 37 ∨ x = 38 ∨ x = 39 ∨ x = 40 ∨ x = 47 ∨ x = 48 ∨ x = 68 from Or.inr (Or.inr (Or.inl (e9))))) (fun h9 => h9.elim (fun e9 => (show x = 34 ∨ x = 35 ∨ x = 36 ∨ x = 37 ∨ x = 38 ∨ x = 39 ∨ x = 40 ∨ x = 47 ∨ x = 48 ∨ x = 68 from Or.inr (Or.inr (Or.inr (Or.inl (e9)))))) (fun h9 => h9.elim (fun e9 => (show x = 34 ∨ x = 35 ∨ x = 36 ∨ x = 37 ∨ x = 38 ∨ x = 39 ∨ x = 40 ∨ x = 47 ∨ x = 48 ∨ x = 68 from Or.inr (Or.inr (Or.inr (Or.inr (Or.inl (e9))))))) (fun h9 => h9.elim (fun e9 => (show x = 34 ∨ x = 35 ∨ x = 36 ∨ x = 37 ∨ x = 38 ∨ x = 39 ∨ x = 40 ∨ x = 47 ∨ x = 48 ∨ x = 68 from Or.inr (Or.inr (Or.inr (Or.inr (Or.inr (Or.inl (e9)))))))) (fun h9 => (show x = 34 ∨ x = 35 ∨ x = 36 ∨ x = 37 ∨ x = 38 ∨ x = 39 ∨ x = 40 ∨ x = 47 ∨ x = 48 ∨ x = 68 from Or.inr (Or.inr (Or.inr (Or.inr (Or.inr (Or.inr (Or.inl (h9))))))))))))))) (fun x k (h9 : (x = 33 ∧ k = 1) ∨ (x = 33 ∧ k = 3) ∨ (x = 33 ∧ k = 9) ∨ (x = 33 ∧ k = 10) ∨ (x = 33 ∧ k = 11)) => (show (x = 34 ∨ x = 35 ∨ x = 36 ∨ x = 37 ∨ x = 38 ∨ x = 39 ∨ x = 40 ∨ x = 47 ∨ x = 48 ∨ x = 68) ∨ ((x = 33 ∧ k = 1) ∨ (x = 33 ∧ k = 3) ∨ (x = 33 ∧ k = 9) ∨ (x = 33 ∧ k = 10) ∨ (x = 33 ∧ k = 11)) from h9.elim (fun e9 => Or.inr (show (x = 33 ∧ k = 1) ∨ (x = 33 ∧ k = 3) ∨ (x = 33 ∧ k = 9) ∨ (x = 33 ∧ k = 10) ∨ (x = 33 ∧ k = 11) from Or.inl (e9))) (fun h9 => h9.elim (fun e9 => Or.inr (show (x = 33 ∧ k = 1) ∨ (x = 33 ∧ k = 3) ∨ (x = 33 ∧ k = 9) ∨ (x = 33 ∧ k = 10) ∨ (x = 33 ∧ k = 11) from Or.inr (Or.inl (e9)))) (fun h9 => h9.elim (fun e9 => Or.inr (show (x = 33 ∧ k = 1) ∨ (x = 33 ∧ k = 3) ∨ (x = 33 ∧ k = 9) ∨ (x = 33 ∧ k = 10) ∨ (x = 33 ∧ k = 11) from Or.inr (Or.inr (Or.inl (e9))))) (fun h9 => h9.elim (fun e9 => Or.inr (show (x = 33 ∧ k = 1) ∨ (x = 33 ∧ k = 3) ∨ (x = 33 ∧ k = 9) ∨ (x = 33 ∧ k = 10) ∨ (x = 33 ∧ k = 11) from Or.inr (Or.inr (Or.inr (Or.inl (e9)))))) (fun h9 => Or.inr (show (x = 33 ∧ k = 1) ∨ (x = 33 ∧ k = 3) ∨ (x = 33 ∧ k = 9) ∨ (x = 33 ∧ k = 10) ∨ (x = 33 ∧ k = 11) from Or.inr (Or.inr (Or.inr (Or.inr (h9)))))))))))
                have k_50 : (gi σ10 1 1).toInt = (gi σ9 1 1).toInt := congrArg Int32.toInt (FX_i cσ10 (show ¬ (1 = 34 ∨ 1 = 35 ∨ 1 = 36 ∨ 1 = 37 ∨ 1 = 38 ∨ 1 = 39 ∨ 1 = 40) from by omega) (show ¬ ((1 = 33 ∧ 1 = 1) ∨ (1 = 33 ∧ 1 = 3) ∨ (1 = 33 ∧ 1 = 9) ∨ (1 = 33 ∧ 1 = 10) ∨ (1 = 33 ∧ 1 = 11)) from by omega))
                have k_51 : (gi σ10 1 9).toInt = (gi σ9 1 9).toInt := congrArg Int32.toInt (FX_i cσ10 (show ¬ (1 = 34 ∨ 1 = 35 ∨ 1 = 36 ∨ 1 = 37 ∨ 1 = 38 ∨ 1 = 39 ∨ 1 = 40) from by omega) (show ¬ ((1 = 33 ∧ 9 = 1) ∨ (1 = 33 ∧ 9 = 3) ∨ (1 = 33 ∧ 9 = 9) ∨ (1 = 33 ∧ 9 = 10) ∨ (1 = 33 ∧ 9 = 11)) from by omega))
                have t_52 := XI_c1 mσ10 (id := 33) (k := 1) (lim_C0_1 (Or.inr (Or.inr rfl)))
                have t_53 := XI_c1 mσ10 (id := 33) (k := 9) (lim_C0_9 (Or.inr (Or.inr rfl)))
                have hv_54 : vp_in x1 6 := vp_in_iff.mpr ⟨by omega, by omega⟩
                refine ⟨hv_54, ?_⟩
                refine ⟨hv_54, ?_⟩
                intro σ13 eσ13
                have mσ13 : XI (mV M) σ13 := by rw [eσ13]; exact XIs_n mσ10 (lim_C6 (Or.inr (Or.inr rfl)) _)
                have fσ13 : FX (fun id => id = 34 ∨ id = 35 ∨ id = 36 ∨ id = 37 ∨ id = 38 ∨ id = 39 ∨ id = 40 ∨ id = 47 ∨ id = 48 ∨ id = 68) (fun id k => (id = 33 ∧ k = 1) ∨ (id = 33 ∧ k = 3) ∨ (id = 33 ∧ k = 9) ∨ (id = 33 ∧ k = 10) ∨ (id = 33 ∧ k = 11)) σ0 σ13 := by rw [eσ13]; exact FX_si fσ10 (Or.inl (show 39 = 34 ∨ 39 = 35 ∨ 39 = 36 ∨ 39 = 37 ∨ 39 = 38 ∨ 39 = 39 ∨ 39 = 40 ∨ 39 = 47 ∨ 39 = 48 ∨ 39 = 68 from Or.inr (Or.inr (Or.inr (Or.inr (Or.inr (Or.inl (rfl))))))))
                have k_55 : (gi σ13 1 1).toInt = (gi σ10 1 1).toInt := by rw [eσ13]; exact congrArg Int32.toInt (gi_si_ne (Or.inl (by omega)))
                have k_56 : (gi σ13 1 9).toInt = (gi σ10 1 9).toInt := by rw [eσ13]; exact congrArg Int32.toInt (gi_si_ne (Or.inl (by omega)))
                have k_57 : (gi σ13 33 1).toInt = (gi σ10 33 1).toInt := by rw [eσ13]; exact congrArg Int32.toInt (gi_si_ne (Or.inl (by omega)))
                have k_58 : (gi σ13 33 9).toInt = (gi σ10 33 9).toInt := by rw [eσ13]; exact congrArg Int32.toInt (gi_si_ne (Or.inl (by omega)))
                have nσ13_1 : NN σ13 1 := by rw [eσ13]; exact NN_si nσ10_1 (by omega) (fun h9 => absurd h9 (by omega))
                have nσ13_33 : NN σ13 33 := by rw [eσ13]; exact NN_si nσ10_33 (by omega) (fun h9 => absurd h9 (by omega))
                refine k_X1_goes (Or.inr (Or.inr rfl)) mσ13 nσ13_33 (by omega) (by omega) (by first | omega | assumption | rfl) (fun σ14 mσ14 cσ14 nσ14_33 (pσ14_0 : (gi σ14 33 9).toInt = (gi σ13 33 9).toInt + x3.toInt) => ?_)
                have fσ14 : FX (fun id => id = 34 ∨ id = 35 ∨ id = 36 ∨ id = 37 ∨ id = 38 ∨ id = 39 ∨ id = 40 ∨ id = 47 ∨ id = 48 ∨ id = 68) (fun id k => (id = 33 ∧ k = 1) ∨ (id = 33 ∧ k = 3) ∨ (id = 33 ∧ k = 9) ∨ (id = 33 ∧ k = 10) ∨ (id = 33 ∧ k = 11)) σ0 σ14 := FX_tr fσ13 cσ14 (fun x (h9 : x = 47 ∨ x = 48 ∨ x = 36 ∨ x = 37 ∨ x = 38 ∨ x = 39) => h9.elim (fun e9 => (show x = 34 ∨ x = 35 ∨ x = 36 ∨ x = 37 ∨ x = 38 ∨ x = 39 ∨ x = 40 ∨ x = 47 ∨ x = 48 ∨ x = 68 from Or.inr (Or.inr (Or.inr (Or.inr (Or.inr (Or.inr (Or.inr (Or.inl (e9)))))))))) (fun h9 => h9.elim (fun e9 => (show x = 34 ∨ x = 35 ∨ x = 36 ∨ x = 37 ∨ x = 38 ∨ x = 39 ∨ x = 40 ∨ x = 47 ∨ x = 48 ∨ x = 68 from Or.inr (Or.inr (Or.inr (Or.inr (Or.inr (Or.inr (Or.inr (Or.inr (Or.inl (e9))))))))))) (fun h9 => h9.elim (fun e9 => (show x = 34 ∨ x = 35 ∨ x = 36 ∨ x = 37 ∨ x = 38 ∨ x = 39 ∨ x = 40 ∨ x = 47 ∨ x = 48 ∨ x = 68 from Or.inr (Or.inr (Or.inl (e9))))) (fun h9 => h9.elim (fun e9 => (show x = 34 ∨ x = 35 ∨ x = 36 ∨ x = 37 ∨ x = 38 ∨ x = 39 ∨ x = 40 ∨ x = 47 ∨ x = 48 ∨ x = 68 from Or.inr (Or.inr (Or.inr (Or.inl (e9)))))) (fun h9 => h9.elim (fun e9 => (show x = 34 ∨ x = 35 ∨ x = 36 ∨ x = 37 ∨ x = 38 ∨ x = 39 ∨ x = 40 ∨ x = 47 ∨ x = 48 ∨ x = 68 from Or.inr (Or.inr (Or.inr (Or.inr (Or.inl (e9))))))) (fun h9 => (show x = 34 ∨ x = 35 ∨ x = 36 ∨ x = 37 ∨ x = 38 ∨ x = 39 ∨ x = 40 ∨ x = 47 ∨ x = 48 ∨ x = 68 from Or.inr (Or.inr (Or.inr (Or.inr (Or.inr (Or.inl (h9))))))))))))) (fun x k (h9 : (x = 33 ∧ k = 9)) => (show (x = 34 ∨ x = 35 ∨ x = 36 ∨ x = 37 ∨ x = 38 ∨ x = 39 ∨ x = 40 ∨ x = 47 ∨ x = 48 ∨ x = 68) ∨ ((x = 33 ∧ k = 1) ∨ (x = 33 ∧ k = 3) ∨ (x = 33 ∧ k = 9) ∨ (x = 33 ∧ k = 10) ∨ (x = 33 ∧ k = 11)) from Or.inr (show (x = 33 ∧ k = 1) ∨ (x = 33 ∧ k = 3) ∨ (x = 33 ∧ k = 9) ∨ (x = 33 ∧ k = 10) ∨ (x = 33 ∧ k = 11) from Or.inr (Or.inr (Or.inl (h9))))))
                have k_59 : (gi σ14 1 1).toInt = (gi σ13 1 1).toInt := congrArg Int32.toInt (FX_i cσ14 (show ¬ (1 = 47 ∨ 1 = 48 ∨ 1 = 36 ∨ 1 = 37 ∨ 1 = 38 ∨ 1 = 39) from by omega) (show ¬ ((1 = 33 ∧ 1 = 9)) from by omega))
                have k_60 : (gi σ14 1 9).toInt = (gi σ13 1 9).toInt := congrArg Int32.toInt (FX_i cσ14 (show ¬ (1 = 47 ∨ 1 = 48 ∨ 1 = 36 ∨ 1 = 37 ∨ 1 = 38 ∨ 1 = 39) from by omega) (show ¬ ((1 = 33 ∧ 9 = 9)) from by omega))
                have k_61 : (gi σ14 33 1).toInt = (gi σ13 33 1).toInt := congrArg Int32.toInt (FX_i cσ14 (show ¬ (33 = 47 ∨ 33 = 48 ∨ 33 = 36 ∨ 33 = 37 ∨ 33 = 38 ∨ 33 = 39) from by omega) (show ¬ ((33 = 33 ∧ 1 = 9)) from by omega))
                have t_62 := XI_c1 mσ14 (id := 33) (k := 9) (lim_C0_9 (Or.inr (Or.inr rfl)))
                have nσ14_1 : NN σ14 1 := NN_fx nσ13_1 cσ14 (show ¬ (1 = 47 ∨ 1 = 48 ∨ 1 = 36 ∨ 1 = 37 ∨ 1 = 38 ∨ 1 = 39) from by omega) (show ¬ (2 = 47 ∨ 2 = 48 ∨ 2 = 36 ∨ 2 = 37 ∨ 2 = 38 ∨ 2 = 39) from by omega) (show ¬ (3 = 47 ∨ 3 = 48 ∨ 3 = 36 ∨ 3 = 37 ∨ 3 = 38 ∨ 3 = 39) from by omega) (show ¬ ((1 = 33 ∧ 1 = 9)) from by omega) (show ¬ ((1 = 33 ∧ 3 = 9)) from by omega) (fun k (h9 : (2 = 33 ∧ k = 9)) => by omega) (fun k (h9 : (3 = 33 ∧ k = 9)) => by omega)
                refine ⟨?_, ?_⟩
                · intro q_63
                  have w_64 := Int32.toInt_lt x4
                  have w_65 := Int32.le_toInt x4
                  have b_66 : ¬ x4.toInt = 0 := fun h9 => q_63 (Int32.toInt_inj.mp h9)
                  refine k_X11_hits  mσ14   (fun r17 σ16 mσ16 cσ16 => ?_)
                  obtain rfl := FX_nil cσ16
                  have t_67 := XI_c1 mσ14 (id := 1) (k := 1) (lim_C0_1 (Or.inl rfl))
                  have t_68 := XI_c1 mσ14 (id := 1) (k := 9) (lim_C0_9 (Or.inl rfl))
                  have t_69 := XI_c1 mσ14 (id := 33) (k := 1) (lim_C0_1 (Or.inr (Or.inr rfl)))
                  exact h9ret r17 σ14 mσ14 fσ14 nσ14_1
                · intro q_63
                  have w_70 := Int32.toInt_lt x4
                  have w_71 := Int32.le_toInt x4
                  have b_72 : x4.toInt = 0 := congrArg Int32.toInt q_63
                  refine k_X1_allAt (Or.inr (Or.inr rfl)) mσ14   (fun r19 σ18 mσ18 cσ18 => ?_)
                  obtain rfl := FX_nil cσ18
                  have t_73 := XI_c1 mσ14 (id := 1) (k := 1) (lim_C0_1 (Or.inl rfl))
                  have t_74 := XI_c1 mσ14 (id := 1) (k := 9) (lim_C0_9 (Or.inl rfl))
                  have t_75 := XI_c1 mσ14 (id := 33) (k := 1) (lim_C0_1 (Or.inr (Or.inr rfl)))
                  exact h9ret (r8 - r19) σ14 mσ14 fσ14 nσ14_1
              · intro q_27
                have b_76 : ¬ x3.toInt ≤ 60 := fun h9 => q_27 (Int32.le_iff_toInt_le.mpr h9)
                have z_77 : (-100002 : Int32).toInt = -100002 := rfl
                exact h9ret (-100002 : Int32) σ mσ fσ nσ_1
  have U22 := T 9
  have f0 : FX (fun id => id = 34 ∨ id = 35 ∨ id = 36 ∨ id = 37 ∨ id = 38 ∨ id = 39 ∨ id = 40 ∨ id = 47 ∨ id = 48 ∨ id = 68) (fun id k => (id = 33 ∧ k = 1) ∨ (id = 33 ∧ k = 3) ∨ (id = 33 ∧ k = 9) ∨ (id = 33 ∧ k = 10) ∨ (id = 33 ∧ k = 11)) σ0 σ0 := FX_rf
  have t_78 := XI_c1 m0 (id := 1) (k := 1) (lim_C0_1 (Or.inl rfl))
  have t_79 := XI_c1 m0 (id := 1) (k := 9) (lim_C0_9 (Or.inl rfl))
  have t_80 := XI_c1 m0 (id := 33) (k := 1) (lim_C0_1 (Or.inr (Or.inr rfl)))
  have t_81 := XI_c1 m0 (id := 33) (k := 9) (lim_C0_9 (Or.inr (Or.inr rfl)))
  refine s_X11_stop_0 C hN  ?_
  refine k_X11_isMower  m0   (fun r2 σ1 mσ1 cσ1 plσ1 phσ1 (pσ1_0 : (r2.toInt = 1 ∧ 0 ≤ a1.toInt ∧ a1.toInt < (gi σ0 1 1).toInt) ∨ (r2.toInt = 0 ∧ (a1.toInt < 0 ∨ (gi σ0 1 1).toInt ≤ a1.toInt))) => ?_)
  obtain rfl := FX_nil cσ1
  refine ⟨?_, ?_⟩
  · intro q_82
    have b_83 : r2.toInt = 0 := congrArg Int32.toInt q_82
    have z_84 : (-100001 : Int32).toInt = -100001 := rfl
    exact h9ret (-100001 : Int32) σ0 m0 f0 nn_1
  · intro q_82
    have b_85 : ¬ r2.toInt = 0 := fun h9 => q_82 (Int32.toInt_inj.mp h9)
    refine ⟨?_, ?_⟩
    · intro q_86
      have w_87 := Int32.toInt_lt a4
      have w_88 := Int32.le_toInt a4
      have b_89 : a4.toInt = 0 := congrArg Int32.toInt q_86
      have w_90 := Int32.toInt_lt a1
      have w_91 := Int32.le_toInt a1
      have w_92 := Int32.toInt_lt a2
      have w_93 := Int32.le_toInt a2
      have w_94 := Int32.toInt_lt a3
      have w_95 := Int32.le_toInt a3
      exact U22 a1 a2 a3 a4 σ0 m0 f0 nn_1 (by omega) (by omega) (by omega)
    · intro q_86
      have w_96 := Int32.toInt_lt a4
      have w_97 := Int32.le_toInt a4
      have b_98 : ¬ a4.toInt = 0 := fun h9 => q_86 (Int32.toInt_inj.mp h9)
      refine ⟨?_, ?_⟩
      · intro q_99
        have b_100 : a4.toInt = 1 := congrArg Int32.toInt q_99
        have w_101 := Int32.toInt_lt a1
        have w_102 := Int32.le_toInt a1
        have w_103 := Int32.toInt_lt a2
        have w_104 := Int32.le_toInt a2
        have w_105 := Int32.toInt_lt a3
        have w_106 := Int32.le_toInt a3
        exact U22 a1 a2 a3 a4 σ0 m0 f0 nn_1 (by omega) (by omega) (by omega)
      · intro q_99
        have b_107 : ¬ a4.toInt = 1 := fun h9 => q_99 (Int32.toInt_inj.mp h9)
        have z_108 : (-100001 : Int32).toInt = -100001 := rfl
        exact h9ret (-100001 : Int32) σ0 m0 f0 nn_1
set_option maxRecDepth 100000 in
set_option maxHeartbeats 4000000 in
theorem k_X11_alone {l : Launch} {V : Vx} {a1 : Int32} {σ0 : Sg} {Qk : Int32 → Sg → Prop} (m0 : XI V σ0) (nn_1 : NN σ0 1) (pre0 : (gi σ0 1 9).toInt ≤ 9999) (h9ret : ∀ (r : Int32) (σ' : Sg), XI V σ' → FX (fun id => id = 34 ∨ id = 35 ∨ id = 36 ∨ id = 37 ∨ id = 38 ∨ id = 39 ∨ id = 40 ∨ id = 47 ∨ id = 48) (fun id k => (id = 33 ∧ k = 1) ∨ (id = 33 ∧ k = 3) ∨ (id = 33 ∧ k = 9) ∨ (id = 33 ∧ k = 10) ∨ (id = 33 ∧ k = 11)) σ0 σ' → (NN σ' 1) → Qk r σ') : K_X11_alone l V a1 σ0 Qk := by
  refine e_X11_alone (fun M hl hV hN C => ?_)
  subst hl
  subst hV
  have T : ∀ n : Nat, (∀ (x1 : Int32) (x2 : Int32) (x3 : Int32) (σ : Sg), XI (mV M) σ → FX (fun id => id = 34 ∨ id = 35 ∨ id = 36 ∨ id = 37 ∨ id = 38 ∨ id = 39 ∨ id = 40 ∨ id = 47 ∨ id = 48) (fun id k => (id = 33 ∧ k = 1) ∨ (id = 33 ∧ k = 3) ∨ (id = 33 ∧ k = 9) ∨ (id = 33 ∧ k = 10) ∨ (id = 33 ∧ k = 11)) σ0 σ → NN σ 1 → (1 ≤ x1.toInt) → (x1.toInt ≤ 60) → (0 ≤ x3.toInt) → (x3.toInt ≤ 6) → (7 - x3.toInt).toNat < n → PS M 43 [(0, .ref 0), (1, .int x1), (2, .int x2), (3, .int x3)] [] σ (0, 0)) := by
    intro n
    induction n with
    | zero => exact fun _ _ _ _ _ _ _ _ _ _ _ h8 => absurd h8 (Nat.not_lt_zero _)
    | succ n ih =>
      have ih43 := ih
      · intro x1 x2 x3 σ mσ fσ nσ_1 lx1 ux1 lx3 ux3 hmu
        have k_1 : (gi σ 1 1).toInt = (gi σ0 1 1).toInt := congrArg Int32.toInt (FX_i fσ (show ¬ (1 = 34 ∨ 1 = 35 ∨ 1 = 36 ∨ 1 = 37 ∨ 1 = 38 ∨ 1 = 39 ∨ 1 = 40 ∨ 1 = 47 ∨ 1 = 48) from by omega) (show ¬ ((1 = 33 ∧ 1 = 1) ∨ (1 = 33 ∧ 1 = 3) ∨ (1 = 33 ∧ 1 = 9) ∨ (1 = 33 ∧ 1 = 10) ∨ (1 = 33 ∧ 1 = 11)) from by omega))
        have t_2 := XI_c1 mσ (id := 1) (k := 1) (lim_C0_1 (Or.inl rfl))
        have k_3 : (gi σ 1 9).toInt = (gi σ0 1 9).toInt := congrArg Int32.toInt (FX_i fσ (show ¬ (1 = 34 ∨ 1 = 35 ∨ 1 = 36 ∨ 1 = 37 ∨ 1 = 38 ∨ 1 = 39 ∨ 1 = 40 ∨ 1 = 47 ∨ 1 = 48) from by omega) (show ¬ ((1 = 33 ∧ 9 = 1) ∨ (1 = 33 ∧ 9 = 3) ∨ (1 = 33 ∧ 9 = 9) ∨ (1 = 33 ∧ 9 = 10) ∨ (1 = 33 ∧ 9 = 11)) from by omega))
        have t_4 := XI_c1 mσ (id := 1) (k := 9) (lim_C0_9 (Or.inl rfl))
        have t_5 := XI_c1 mσ (id := 33) (k := 1) (lim_C0_1 (Or.inr (Or.inr rfl)))
        have t_6 := XI_c1 mσ (id := 33) (k := 9) (lim_C0_9 (Or.inr (Or.inr rfl)))
        refine s_X11_alone_43 C hN  ?_
        refine ⟨?_, ?_⟩
        · intro q_7
          have b_8 : (gi σ 1 1).toInt ≤ x3.toInt := Int32.le_iff_toInt_le.mp q_7
          exact h9ret x2 σ mσ fσ nσ_1
        · intro q_7
          have b_9 : ¬ (gi σ 1 1).toInt ≤ x3.toInt := fun h9 => q_7 (Int32.le_iff_toInt_le.mpr h9)
          have z_10 : (1 : Int32).toInt = 1 := rfl
          refine k_X1_becomes (Or.inr (Or.inr rfl)) (Or.inl rfl) mσ nσ_1 (by first | omega | assumption | rfl) (fun σ2 mσ2 cσ2 nσ2_1 nσ2_33 (pσ2_0 : (gi σ2 33 1).toInt = (gi σ 1 1).toInt) (pσ2_1 : (gi σ2 33 3).toInt = (gi σ 1 3).toInt) (pσ2_2 : (gi σ2 33 9).toInt = (gi σ 1 9).toInt) (pσ2_3 : CPY σ σ2 33 1) => ?_)
          have fσ2 : FX (fun id => id = 34 ∨ id = 35 ∨ id = 36 ∨ id = 37 ∨ id = 38 ∨ id = 39 ∨ id = 40 ∨ id = 47 ∨ id = 48) (fun id k => (id = 33 ∧ k = 1) ∨ (id = 33 ∧ k = 3) ∨ (id = 33 ∧ k = 9) ∨ (id = 33 ∧ k = 10) ∨ (id = 33 ∧ k = 11)) σ0 σ2 := FX_tr fσ cσ2 (fun x (h9 : x = 34 ∨ x = 35 ∨ x = 36 ∨ x = 37 ∨ x = 38 ∨ x = 39 ∨ x = 40) => h9.elim (fun e9 => (show x = 34 ∨ x = 35 ∨ x = 36 ∨ x = 37 ∨ x = 38 ∨ x = 39 ∨ x = 40 ∨ x = 47 ∨ x = 48 from Or.inl (e9))) (fun h9 => h9.elim (fun e9 => (show x = 34 ∨ x = 35 ∨ x = 36 ∨ x = 37 ∨ x = 38 ∨ x = 39 ∨ x = 40 ∨ x = 47 ∨ x = 48 from Or.inr (Or.inl (e9)))) (fun h9 => h9.elim (fun e9 => (show x = 34 ∨ x = 35 ∨ x = 36 ∨ x = 37 ∨ x = 38 ∨ x = 39 ∨ x = 40 ∨ x = 47 ∨ x = 48 from Or.inr (Or.inr (Or.inl (e9))))) (fun h9 => h9.elim (fun e9 => (show x = 34 ∨ x = 35 ∨ x = 36 ∨ x = 37 ∨ x = 38 ∨ x = 39 ∨ x = 40 ∨ x = 47 ∨ x = 48 from Or.inr (Or.inr (Or.inr (Or.inl (e9)))))) (fun h9 => h9.elim (fun e9 => (show x = 34 ∨ x = 35 ∨ x = 36 ∨ x = 37 ∨ x = 38 ∨ x = 39 ∨ x = 40 ∨ x = 47 ∨ x = 48 from Or.inr (Or.inr (Or.inr (Or.inr (Or.inl (e9))))))) (fun h9 => h9.elim (fun e9 => (show x = 34 ∨ x = 35 ∨ x = 36 ∨ x = 37 ∨ x = 38 ∨ x = 39 ∨ x = 40 ∨ x = 47 ∨ x = 48 from Or.inr (Or.inr (Or.inr (Or.inr (Or.inr (Or.inl (e9)))))))) (fun h9 => (show x = 34 ∨ x = 35 ∨ x = 36 ∨ x = 37 ∨ x = 38 ∨ x = 39 ∨ x = 40 ∨ x = 47 ∨ x = 48 from Or.inr (Or.inr (Or.inr (Or.inr (Or.inr (Or.inr (Or.inl (h9))))))))))))))) (fun x k (h9 : (x = 33 ∧ k = 1) ∨ (x = 33 ∧ k = 3) ∨ (x = 33 ∧ k = 9) ∨ (x = 33 ∧ k = 10) ∨ (x = 33 ∧ k = 11)) => (show (x = 34 ∨ x = 35 ∨ x = 36 ∨ x = 37 ∨ x = 38 ∨ x = 39 ∨ x = 40 ∨ x = 47 ∨ x = 48) ∨ ((x = 33 ∧ k = 1) ∨ (x = 33 ∧ k = 3) ∨ (x = 33 ∧ k = 9) ∨ (x = 33 ∧ k = 10) ∨ (x = 33 ∧ k = 11)) from h9.elim (fun e9 => Or.inr (show (x = 33 ∧ k = 1) ∨ (x = 33 ∧ k = 3) ∨ (x = 33 ∧ k = 9) ∨ (x = 33 ∧ k = 10) ∨ (x = 33 ∧ k = 11) from Or.inl (e9))) (fun h9 => h9.elim (fun e9 => Or.inr (show (x = 33 ∧ k = 1) ∨ (x = 33 ∧ k = 3) ∨ (x = 33 ∧ k = 9) ∨ (x = 33 ∧ k = 10) ∨ (x = 33 ∧ k = 11) from Or.inr (Or.inl (e9)))) (fun h9 => h9.elim (fun e9 => Or.inr (show (x = 33 ∧ k = 1) ∨ (x = 33 ∧ k = 3) ∨ (x = 33 ∧ k = 9) ∨ (x = 33 ∧ k = 10) ∨ (x = 33 ∧ k = 11) from Or.inr (Or.inr (Or.inl (e9))))) (fun h9 => h9.elim (fun e9 => Or.inr (show (x = 33 ∧ k = 1) ∨ (x = 33 ∧ k = 3) ∨ (x = 33 ∧ k = 9) ∨ (x = 33 ∧ k = 10) ∨ (x = 33 ∧ k = 11) from Or.inr (Or.inr (Or.inr (Or.inl (e9)))))) (fun h9 => Or.inr (show (x = 33 ∧ k = 1) ∨ (x = 33 ∧ k = 3) ∨ (x = 33 ∧ k = 9) ∨ (x = 33 ∧ k = 10) ∨ (x = 33 ∧ k = 11) from Or.inr (Or.inr (Or.inr (Or.inr (h9)))))))))))
          have k_11 : (gi σ2 1 1).toInt = (gi σ 1 1).toInt := congrArg Int32.toInt (FX_i cσ2 (show ¬ (1 = 34 ∨ 1 = 35 ∨ 1 = 36 ∨ 1 = 37 ∨ 1 = 38 ∨ 1 = 39 ∨ 1 = 40) from by omega) (show ¬ ((1 = 33 ∧ 1 = 1) ∨ (1 = 33 ∧ 1 = 3) ∨ (1 = 33 ∧ 1 = 9) ∨ (1 = 33 ∧ 1 = 10) ∨ (1 = 33 ∧ 1 = 11)) from by omega))
          have k_12 : (gi σ2 1 9).toInt = (gi σ 1 9).toInt := congrArg Int32.toInt (FX_i cσ2 (show ¬ (1 = 34 ∨ 1 = 35 ∨ 1 = 36 ∨ 1 = 37 ∨ 1 = 38 ∨ 1 = 39 ∨ 1 = 40) from by omega) (show ¬ ((1 = 33 ∧ 9 = 1) ∨ (1 = 33 ∧ 9 = 3) ∨ (1 = 33 ∧ 9 = 9) ∨ (1 = 33 ∧ 9 = 10) ∨ (1 = 33 ∧ 9 = 11)) from by omega))
          have t_13 := XI_c1 mσ2 (id := 33) (k := 1) (lim_C0_1 (Or.inr (Or.inr rfl)))
          have t_14 := XI_c1 mσ2 (id := 33) (k := 9) (lim_C0_9 (Or.inr (Or.inr rfl)))
          have z_15 : (0 : Int32).toInt = 0 := rfl
          have hv_16 : vp_in (0 : Int32) 6 := vp_in_iff.mpr ⟨by omega, by omega⟩
          refine ⟨hv_16, ?_⟩
          intro σ4 eσ4
          have mσ4 : XI (mV M) σ4 := by rw [eσ4]; exact XIs_b mσ2 (lim_C2 (Or.inr (Or.inr rfl)) _) (by omega) (by omega)
          have fσ4 : FX (fun id => id = 34 ∨ id = 35 ∨ id = 36 ∨ id = 37 ∨ id = 38 ∨ id = 39 ∨ id = 40 ∨ id = 47 ∨ id = 48) (fun id k => (id = 33 ∧ k = 1) ∨ (id = 33 ∧ k = 3) ∨ (id = 33 ∧ k = 9) ∨ (id = 33 ∧ k = 10) ∨ (id = 33 ∧ k = 11)) σ0 σ4 := by rw [eσ4]; exact FX_si fσ2 (Or.inl (show 35 = 34 ∨ 35 = 35 ∨ 35 = 36 ∨ 35 = 37 ∨ 35 = 38 ∨ 35 = 39 ∨ 35 = 40 ∨ 35 = 47 ∨ 35 = 48 from Or.inr (Or.inl (rfl))))
          have k_17 : (gi σ4 1 1).toInt = (gi σ2 1 1).toInt := by rw [eσ4]; exact congrArg Int32.toInt (gi_si_ne (Or.inl (by omega)))
          have k_18 : (gi σ4 1 9).toInt = (gi σ2 1 9).toInt := by rw [eσ4]; exact congrArg Int32.toInt (gi_si_ne (Or.inl (by omega)))
          have k_19 : (gi σ4 33 1).toInt = (gi σ2 33 1).toInt := by rw [eσ4]; exact congrArg Int32.toInt (gi_si_ne (Or.inl (by omega)))
          have k_20 : (gi σ4 33 9).toInt = (gi σ2 33 9).toInt := by rw [eσ4]; exact congrArg Int32.toInt (gi_si_ne (Or.inl (by omega)))
          have nσ4_1 : NN σ4 1 := by rw [eσ4]; exact NN_si nσ2_1 (by omega) (fun h9 => absurd h9 (by omega))
          have nσ4_33 : NN σ4 33 := by rw [eσ4]; exact NN_line nσ2_33 (by omega)
          intro σ5 eσ5
          have mσ5 : XI (mV M) σ5 := by rw [eσ5]; exact XIs_b mσ4 (lim_C0_3 (Or.inr (Or.inr rfl))) (by omega) (by omega)
          have fσ5 : FX (fun id => id = 34 ∨ id = 35 ∨ id = 36 ∨ id = 37 ∨ id = 38 ∨ id = 39 ∨ id = 40 ∨ id = 47 ∨ id = 48) (fun id k => (id = 33 ∧ k = 1) ∨ (id = 33 ∧ k = 3) ∨ (id = 33 ∧ k = 9) ∨ (id = 33 ∧ k = 10) ∨ (id = 33 ∧ k = 11)) σ0 σ5 := by rw [eσ5]; exact FX_si fσ4 (Or.inr (show (33 = 33 ∧ 3 = 1) ∨ (33 = 33 ∧ 3 = 3) ∨ (33 = 33 ∧ 3 = 9) ∨ (33 = 33 ∧ 3 = 10) ∨ (33 = 33 ∧ 3 = 11) from Or.inr (Or.inl (⟨rfl, rfl⟩))))
          have k_21 : (gi σ5 1 1).toInt = (gi σ4 1 1).toInt := by rw [eσ5]; exact congrArg Int32.toInt (gi_si_ne (Or.inl (by omega)))
          have k_22 : (gi σ5 1 9).toInt = (gi σ4 1 9).toInt := by rw [eσ5]; exact congrArg Int32.toInt (gi_si_ne (Or.inl (by omega)))
          have k_23 : (gi σ5 33 1).toInt = (gi σ4 33 1).toInt := by rw [eσ5]; exact congrArg Int32.toInt (gi_si_ne (Or.inr (by decide)))
          have k_24 : (gi σ5 33 9).toInt = (gi σ4 33 9).toInt := by rw [eσ5]; exact congrArg Int32.toInt (gi_si_ne (Or.inr (by decide)))
          have nσ5_1 : NN σ5 1 := by rw [eσ5]; exact NN_si nσ4_1 (by omega) (fun h9 => absurd h9 (by omega))
          have nσ5_33 : NN σ5 33 := by rw [eσ5]; exact NN_one nσ4_33 (by rw [show (gi σ4 (33 + 2) 0).toInt = x3.toInt from by rw [eσ4]; exact congrArg Int32.toInt gi_si_eq]; omega) rfl
          refine k_X1_goes (Or.inr (Or.inr rfl)) mσ5 nσ5_33 (by omega) (by omega) (by first | omega | assumption | rfl) (fun σ6 mσ6 cσ6 nσ6_33 (pσ6_0 : (gi σ6 33 9).toInt = (gi σ5 33 9).toInt + x1.toInt) => ?_)
          have fσ6 : FX (fun id => id = 34 ∨ id = 35 ∨ id = 36 ∨ id = 37 ∨ id = 38 ∨ id = 39 ∨ id = 40 ∨ id = 47 ∨ id = 48) (fun id k => (id = 33 ∧ k = 1) ∨ (id = 33 ∧ k = 3) ∨ (id = 33 ∧ k = 9) ∨ (id = 33 ∧ k = 10) ∨ (id = 33 ∧ k = 11)) σ0 σ6 := FX_tr fσ5 cσ6 (fun x (h9 : x = 47 ∨ x = 48 ∨ x = 36 ∨ x = 37 ∨ x = 38 ∨ x = 39) => h9.elim (fun e9 => (show x = 34 ∨ x = 35 ∨ x = 36 ∨ x = 37 ∨ x = 38 ∨ x = 39 ∨ x = 40 ∨ x = 47 ∨ x = 48 from Or.inr (Or.inr (Or.inr (Or.inr (Or.inr (Or.inr (Or.inr (Or.inl (e9)))))))))) (fun h9 => h9.elim (fun e9 => (show x = 34 ∨ x = 35 ∨ x = 36 ∨ x = 37 ∨ x = 38 ∨ x = 39 ∨ x = 40 ∨ x = 47 ∨ x = 48 from Or.inr (Or.inr (Or.inr (Or.inr (Or.inr (Or.inr (Or.inr (Or.inr (e9)))))))))) (fun h9 => h9.elim (fun e9 => (show x = 34 ∨ x = 35 ∨ x = 36 ∨ x = 37 ∨ x = 38 ∨ x = 39 ∨ x = 40 ∨ x = 47 ∨ x = 48 from Or.inr (Or.inr (Or.inl (e9))))) (fun h9 => h9.elim (fun e9 => (show x = 34 ∨ x = 35 ∨ x = 36 ∨ x = 37 ∨ x = 38 ∨ x = 39 ∨ x = 40 ∨ x = 47 ∨ x = 48 from Or.inr (Or.inr (Or.inr (Or.inl (e9)))))) (fun h9 => h9.elim (fun e9 => (show x = 34 ∨ x = 35 ∨ x = 36 ∨ x = 37 ∨ x = 38 ∨ x = 39 ∨ x = 40 ∨ x = 47 ∨ x = 48 from Or.inr (Or.inr (Or.inr (Or.inr (Or.inl (e9))))))) (fun h9 => (show x = 34 ∨ x = 35 ∨ x = 36 ∨ x = 37 ∨ x = 38 ∨ x = 39 ∨ x = 40 ∨ x = 47 ∨ x = 48 from Or.inr (Or.inr (Or.inr (Or.inr (Or.inr (Or.inl (h9))))))))))))) (fun x k (h9 : (x = 33 ∧ k = 9)) => (show (x = 34 ∨ x = 35 ∨ x = 36 ∨ x = 37 ∨ x = 38 ∨ x = 39 ∨ x = 40 ∨ x = 47 ∨ x = 48) ∨ ((x = 33 ∧ k = 1) ∨ (x = 33 ∧ k = 3) ∨ (x = 33 ∧ k = 9) ∨ (x = 33 ∧ k = 10) ∨ (x = 33 ∧ k = 11)) from Or.inr (show (x = 33 ∧ k = 1) ∨ (x = 33 ∧ k = 3) ∨ (x = 33 ∧ k = 9) ∨ (x = 33 ∧ k = 10) ∨ (x = 33 ∧ k = 11) from Or.inr (Or.inr (Or.inl (h9))))))
          have k_25 : (gi σ6 1 1).toInt = (gi σ5 1 1).toInt := congrArg Int32.toInt (FX_i cσ6 (show ¬ (1 = 47 ∨ 1 = 48 ∨ 1 = 36 ∨ 1 = 37 ∨ 1 = 38 ∨ 1 = 39) from by omega) (show ¬ ((1 = 33 ∧ 1 = 9)) from by omega))
          have k_26 : (gi σ6 1 9).toInt = (gi σ5 1 9).toInt := congrArg Int32.toInt (FX_i cσ6 (show ¬ (1 = 47 ∨ 1 = 48 ∨ 1 = 36 ∨ 1 = 37 ∨ 1 = 38 ∨ 1 = 39) from by omega) (show ¬ ((1 = 33 ∧ 9 = 9)) from by omega))
          have k_27 : (gi σ6 33 1).toInt = (gi σ5 33 1).toInt := congrArg Int32.toInt (FX_i cσ6 (show ¬ (33 = 47 ∨ 33 = 48 ∨ 33 = 36 ∨ 33 = 37 ∨ 33 = 38 ∨ 33 = 39) from by omega) (show ¬ ((33 = 33 ∧ 1 = 9)) from by omega))
          have t_28 := XI_c1 mσ6 (id := 33) (k := 9) (lim_C0_9 (Or.inr (Or.inr rfl)))
          have nσ6_1 : NN σ6 1 := NN_fx nσ5_1 cσ6 (show ¬ (1 = 47 ∨ 1 = 48 ∨ 1 = 36 ∨ 1 = 37 ∨ 1 = 38 ∨ 1 = 39) from by omega) (show ¬ (2 = 47 ∨ 2 = 48 ∨ 2 = 36 ∨ 2 = 37 ∨ 2 = 38 ∨ 2 = 39) from by omega) (show ¬ (3 = 47 ∨ 3 = 48 ∨ 3 = 36 ∨ 3 = 37 ∨ 3 = 38 ∨ 3 = 39) from by omega) (show ¬ ((1 = 33 ∧ 1 = 9)) from by omega) (show ¬ ((1 = 33 ∧ 3 = 9)) from by omega) (fun k (h9 : (2 = 33 ∧ k = 9)) => by omega) (fun k (h9 : (3 = 33 ∧ k = 9)) => by omega)
          have hv_29 : vp_in x3 6 := vp_in_iff.mpr ⟨by omega, by omega⟩
          refine ⟨hv_29, ?_⟩
          intro v8 ev8
          intro v9 ev9
          have t_30 : (x3 + (1 : Int32)).toInt = x3.toInt + 1 := i_add (x := x3) (y := (1 : Int32)) (by show (_ : Int) ≤ x3.toInt + 1; omega) (by show x3.toInt + 1 ≤ (_ : Int); omega)
          have t_31 : v9.toInt = (x3 + (1 : Int32)).toInt := congrArg Int32.toInt ev9
          have w_32 := Int32.toInt_lt v8
          have w_33 := Int32.le_toInt v8
          exact ih43 x1 v8 v9 σ6 mσ6 fσ6 nσ6_1 (by omega) (by omega) (by omega) (by omega) (by omega)
  have U43 := T 9
  have f0 : FX (fun id => id = 34 ∨ id = 35 ∨ id = 36 ∨ id = 37 ∨ id = 38 ∨ id = 39 ∨ id = 40 ∨ id = 47 ∨ id = 48) (fun id k => (id = 33 ∧ k = 1) ∨ (id = 33 ∧ k = 3) ∨ (id = 33 ∧ k = 9) ∨ (id = 33 ∧ k = 10) ∨ (id = 33 ∧ k = 11)) σ0 σ0 := FX_rf
  have t_34 := XI_c1 m0 (id := 1) (k := 1) (lim_C0_1 (Or.inl rfl))
  have t_35 := XI_c1 m0 (id := 1) (k := 9) (lim_C0_9 (Or.inl rfl))
  have t_36 := XI_c1 m0 (id := 33) (k := 1) (lim_C0_1 (Or.inr (Or.inr rfl)))
  have t_37 := XI_c1 m0 (id := 33) (k := 9) (lim_C0_9 (Or.inr (Or.inr rfl)))
  refine s_X11_alone_0 C hN  ?_
  refine ⟨?_, ?_⟩
  · intro q_38
    have w_39 := Int32.toInt_lt a1
    have w_40 := Int32.le_toInt a1
    have b_41 : a1.toInt < 1 := Int32.lt_iff_toInt_lt.mp q_38
    have z_42 : (-100002 : Int32).toInt = -100002 := rfl
    exact h9ret (-100002 : Int32) σ0 m0 f0 nn_1
  · intro q_38
    have w_43 := Int32.toInt_lt a1
    have w_44 := Int32.le_toInt a1
    have b_45 : ¬ a1.toInt < 1 := fun h9 => q_38 (Int32.lt_iff_toInt_lt.mpr h9)
    refine ⟨?_, ?_⟩
    · intro q_46
      have b_47 : a1.toInt ≤ 60 := Int32.le_iff_toInt_le.mp q_46
      have z_48 : (1 : Int32).toInt = 1 := rfl
      refine k_X1_becomes (Or.inr (Or.inr rfl)) (Or.inl rfl) m0 nn_1 (by first | omega | assumption | rfl) (fun σ3 mσ3 cσ3 nσ3_1 nσ3_33 (pσ3_0 : (gi σ3 33 1).toInt = (gi σ0 1 1).toInt) (pσ3_1 : (gi σ3 33 3).toInt = (gi σ0 1 3).toInt) (pσ3_2 : (gi σ3 33 9).toInt = (gi σ0 1 9).toInt) (pσ3_3 : CPY σ0 σ3 33 1) => ?_)
      have fσ3 : FX (fun id => id = 34 ∨ id = 35 ∨ id = 36 ∨ id = 37 ∨ id = 38 ∨ id = 39 ∨ id = 40 ∨ id = 47 ∨ id = 48) (fun id k => (id = 33 ∧ k = 1) ∨ (id = 33 ∧ k = 3) ∨ (id = 33 ∧ k = 9) ∨ (id = 33 ∧ k = 10) ∨ (id = 33 ∧ k = 11)) σ0 σ3 := FX_tr f0 cσ3 (fun x (h9 : x = 34 ∨ x = 35 ∨ x = 36 ∨ x = 37 ∨ x = 38 ∨ x = 39 ∨ x = 40) => h9.elim (fun e9 => (show x = 34 ∨ x = 35 ∨ x = 36 ∨ x = 37 ∨ x = 38 ∨ x = 39 ∨ x = 40 ∨ x = 47 ∨ x = 48 from Or.inl (e9))) (fun h9 => h9.elim (fun e9 => (show x = 34 ∨ x = 35 ∨ x = 36 ∨ x = 37 ∨ x = 38 ∨ x = 39 ∨ x = 40 ∨ x = 47 ∨ x = 48 from Or.inr (Or.inl (e9)))) (fun h9 => h9.elim (fun e9 => (show x = 34 ∨ x = 35 ∨ x = 36 ∨ x = 37 ∨ x = 38 ∨ x = 39 ∨ x = 40 ∨ x = 47 ∨ x = 48 from Or.inr (Or.inr (Or.inl (e9))))) (fun h9 => h9.elim (fun e9 => (show x = 34 ∨ x = 35 ∨ x = 36 ∨ x = 37 ∨ x = 38 ∨ x = 39 ∨ x = 40 ∨ x = 47 ∨ x = 48 from Or.inr (Or.inr (Or.inr (Or.inl (e9)))))) (fun h9 => h9.elim (fun e9 => (show x = 34 ∨ x = 35 ∨ x = 36 ∨ x = 37 ∨ x = 38 ∨ x = 39 ∨ x = 40 ∨ x = 47 ∨ x = 48 from Or.inr (Or.inr (Or.inr (Or.inr (Or.inl (e9))))))) (fun h9 => h9.elim (fun e9 => (show x = 34 ∨ x = 35 ∨ x = 36 ∨ x = 37 ∨ x = 38 ∨ x = 39 ∨ x = 40 ∨ x = 47 ∨ x = 48 from Or.inr (Or.inr (Or.inr (Or.inr (Or.inr (Or.inl (e9)))))))) (fun h9 => (show x = 34 ∨ x = 35 ∨ x = 36 ∨ x = 37 ∨ x = 38 ∨ x = 39 ∨ x = 40 ∨ x = 47 ∨ x = 48 from Or.inr (Or.inr (Or.inr (Or.inr (Or.inr (Or.inr (Or.inl (h9))))))))))))))) (fun x k (h9 : (x = 33 ∧ k = 1) ∨ (x = 33 ∧ k = 3) ∨ (x = 33 ∧ k = 9) ∨ (x = 33 ∧ k = 10) ∨ (x = 33 ∧ k = 11)) => (show (x = 34 ∨ x = 35 ∨ x = 36 ∨ x = 37 ∨ x = 38 ∨ x = 39 ∨ x = 40 ∨ x = 47 ∨ x = 48) ∨ ((x = 33 ∧ k = 1) ∨ (x = 33 ∧ k = 3) ∨ (x = 33 ∧ k = 9) ∨ (x = 33 ∧ k = 10) ∨ (x = 33 ∧ k = 11)) from h9.elim (fun e9 => Or.inr (show (x = 33 ∧ k = 1) ∨ (x = 33 ∧ k = 3) ∨ (x = 33 ∧ k = 9) ∨ (x = 33 ∧ k = 10) ∨ (x = 33 ∧ k = 11) from Or.inl (e9))) (fun h9 => h9.elim (fun e9 => Or.inr (show (x = 33 ∧ k = 1) ∨ (x = 33 ∧ k = 3) ∨ (x = 33 ∧ k = 9) ∨ (x = 33 ∧ k = 10) ∨ (x = 33 ∧ k = 11) from Or.inr (Or.inl (e9)))) (fun h9 => h9.elim (fun e9 => Or.inr (show (x = 33 ∧ k = 1) ∨ (x = 33 ∧ k = 3) ∨ (x = 33 ∧ k = 9) ∨ (x = 33 ∧ k = 10) ∨ (x = 33 ∧ k = 11) from Or.inr (Or.inr (Or.inl (e9))))) (fun h9 => h9.elim (fun e9 => Or.inr (show (x = 33 ∧ k = 1) ∨ (x = 33 ∧ k = 3) ∨ (x = 33 ∧ k = 9) ∨ (x = 33 ∧ k = 10) ∨ (x = 33 ∧ k = 11) from Or.inr (Or.inr (Or.inr (Or.inl (e9)))))) (fun h9 => Or.inr (show (x = 33 ∧ k = 1) ∨ (x = 33 ∧ k = 3) ∨ (x = 33 ∧ k = 9) ∨ (x = 33 ∧ k = 10) ∨ (x = 33 ∧ k = 11) from Or.inr (Or.inr (Or.inr (Or.inr (h9)))))))))))
      have k_49 : (gi σ3 1 1).toInt = (gi σ0 1 1).toInt := congrArg Int32.toInt (FX_i cσ3 (show ¬ (1 = 34 ∨ 1 = 35 ∨ 1 = 36 ∨ 1 = 37 ∨ 1 = 38 ∨ 1 = 39 ∨ 1 = 40) from by omega) (show ¬ ((1 = 33 ∧ 1 = 1) ∨ (1 = 33 ∧ 1 = 3) ∨ (1 = 33 ∧ 1 = 9) ∨ (1 = 33 ∧ 1 = 10) ∨ (1 = 33 ∧ 1 = 11)) from by omega))
      have k_50 : (gi σ3 1 9).toInt = (gi σ0 1 9).toInt := congrArg Int32.toInt (FX_i cσ3 (show ¬ (1 = 34 ∨ 1 = 35 ∨ 1 = 36 ∨ 1 = 37 ∨ 1 = 38 ∨ 1 = 39 ∨ 1 = 40) from by omega) (show ¬ ((1 = 33 ∧ 9 = 1) ∨ (1 = 33 ∧ 9 = 3) ∨ (1 = 33 ∧ 9 = 9) ∨ (1 = 33 ∧ 9 = 10) ∨ (1 = 33 ∧ 9 = 11)) from by omega))
      have t_51 := XI_c1 mσ3 (id := 33) (k := 1) (lim_C0_1 (Or.inr (Or.inr rfl)))
      have t_52 := XI_c1 mσ3 (id := 33) (k := 9) (lim_C0_9 (Or.inr (Or.inr rfl)))
      refine k_X1_goes (Or.inr (Or.inr rfl)) mσ3 nσ3_33 (by omega) (by omega) (by first | omega | assumption | rfl) (fun σ4 mσ4 cσ4 nσ4_33 (pσ4_0 : (gi σ4 33 9).toInt = (gi σ3 33 9).toInt + a1.toInt) => ?_)
      have fσ4 : FX (fun id => id = 34 ∨ id = 35 ∨ id = 36 ∨ id = 37 ∨ id = 38 ∨ id = 39 ∨ id = 40 ∨ id = 47 ∨ id = 48) (fun id k => (id = 33 ∧ k = 1) ∨ (id = 33 ∧ k = 3) ∨ (id = 33 ∧ k = 9) ∨ (id = 33 ∧ k = 10) ∨ (id = 33 ∧ k = 11)) σ0 σ4 := FX_tr fσ3 cσ4 (fun x (h9 : x = 47 ∨ x = 48 ∨ x = 36 ∨ x = 37 ∨ x = 38 ∨ x = 39) => h9.elim (fun e9 => (show x = 34 ∨ x = 35 ∨ x = 36 ∨ x = 37 ∨ x = 38 ∨ x = 39 ∨ x = 40 ∨ x = 47 ∨ x = 48 from Or.inr (Or.inr (Or.inr (Or.inr (Or.inr (Or.inr (Or.inr (Or.inl (e9)))))))))) (fun h9 => h9.elim (fun e9 => (show x = 34 ∨ x = 35 ∨ x = 36 ∨ x = 37 ∨ x = 38 ∨ x = 39 ∨ x = 40 ∨ x = 47 ∨ x = 48 from Or.inr (Or.inr (Or.inr (Or.inr (Or.inr (Or.inr (Or.inr (Or.inr (e9)))))))))) (fun h9 => h9.elim (fun e9 => (show x = 34 ∨ x = 35 ∨ x = 36 ∨ x = 37 ∨ x = 38 ∨ x = 39 ∨ x = 40 ∨ x = 47 ∨ x = 48 from Or.inr (Or.inr (Or.inl (e9))))) (fun h9 => h9.elim (fun e9 => (show x = 34 ∨ x = 35 ∨ x = 36 ∨ x = 37 ∨ x = 38 ∨ x = 39 ∨ x = 40 ∨ x = 47 ∨ x = 48 from Or.inr (Or.inr (Or.inr (Or.inl (e9)))))) (fun h9 => h9.elim (fun e9 => (show x = 34 ∨ x = 35 ∨ x = 36 ∨ x = 37 ∨ x = 38 ∨ x = 39 ∨ x = 40 ∨ x = 47 ∨ x = 48 from Or.inr (Or.inr (Or.inr (Or.inr (Or.inl (e9))))))) (fun h9 => (show x = 34 ∨ x = 35 ∨ x = 36 ∨ x = 37 ∨ x = 38 ∨ x = 39 ∨ x = 40 ∨ x = 47 ∨ x = 48 from Or.inr (Or.inr (Or.inr (Or.inr (Or.inr (Or.inl (h9))))))))))))) (fun x k (h9 : (x = 33 ∧ k = 9)) => (show (x = 34 ∨ x = 35 ∨ x = 36 ∨ x = 37 ∨ x = 38 ∨ x = 39 ∨ x = 40 ∨ x = 47 ∨ x = 48) ∨ ((x = 33 ∧ k = 1) ∨ (x = 33 ∧ k = 3) ∨ (x = 33 ∧ k = 9) ∨ (x = 33 ∧ k = 10) ∨ (x = 33 ∧ k = 11)) from Or.inr (show (x = 33 ∧ k = 1) ∨ (x = 33 ∧ k = 3) ∨ (x = 33 ∧ k = 9) ∨ (x = 33 ∧ k = 10) ∨ (x = 33 ∧ k = 11) from Or.inr (Or.inr (Or.inl (h9))))))
      have k_53 : (gi σ4 1 1).toInt = (gi σ3 1 1).toInt := congrArg Int32.toInt (FX_i cσ4 (show ¬ (1 = 47 ∨ 1 = 48 ∨ 1 = 36 ∨ 1 = 37 ∨ 1 = 38 ∨ 1 = 39) from by omega) (show ¬ ((1 = 33 ∧ 1 = 9)) from by omega))
      have k_54 : (gi σ4 1 9).toInt = (gi σ3 1 9).toInt := congrArg Int32.toInt (FX_i cσ4 (show ¬ (1 = 47 ∨ 1 = 48 ∨ 1 = 36 ∨ 1 = 37 ∨ 1 = 38 ∨ 1 = 39) from by omega) (show ¬ ((1 = 33 ∧ 9 = 9)) from by omega))
      have k_55 : (gi σ4 33 1).toInt = (gi σ3 33 1).toInt := congrArg Int32.toInt (FX_i cσ4 (show ¬ (33 = 47 ∨ 33 = 48 ∨ 33 = 36 ∨ 33 = 37 ∨ 33 = 38 ∨ 33 = 39) from by omega) (show ¬ ((33 = 33 ∧ 1 = 9)) from by omega))
      have t_56 := XI_c1 mσ4 (id := 33) (k := 9) (lim_C0_9 (Or.inr (Or.inr rfl)))
      have nσ4_1 : NN σ4 1 := NN_fx nσ3_1 cσ4 (show ¬ (1 = 47 ∨ 1 = 48 ∨ 1 = 36 ∨ 1 = 37 ∨ 1 = 38 ∨ 1 = 39) from by omega) (show ¬ (2 = 47 ∨ 2 = 48 ∨ 2 = 36 ∨ 2 = 37 ∨ 2 = 38 ∨ 2 = 39) from by omega) (show ¬ (3 = 47 ∨ 3 = 48 ∨ 3 = 36 ∨ 3 = 37 ∨ 3 = 38 ∨ 3 = 39) from by omega) (show ¬ ((1 = 33 ∧ 1 = 9)) from by omega) (show ¬ ((1 = 33 ∧ 3 = 9)) from by omega) (fun k (h9 : (2 = 33 ∧ k = 9)) => by omega) (fun k (h9 : (3 = 33 ∧ k = 9)) => by omega)
      refine k_X1_allAt (Or.inr (Or.inr rfl)) mσ4   (fun r6 σ5 mσ5 cσ5 => ?_)
      obtain rfl := FX_nil cσ5
      have t_57 := XI_c1 mσ4 (id := 1) (k := 1) (lim_C0_1 (Or.inl rfl))
      have t_58 := XI_c1 mσ4 (id := 1) (k := 9) (lim_C0_9 (Or.inl rfl))
      have t_59 := XI_c1 mσ4 (id := 33) (k := 1) (lim_C0_1 (Or.inr (Or.inr rfl)))
      have w_60 := Int32.toInt_lt r6
      have w_61 := Int32.le_toInt r6
      have z_62 : (0 : Int32).toInt = 0 := rfl
      exact U43 a1 r6 (0 : Int32) σ4 mσ4 fσ4 nσ4_1 (by omega) (by omega) (by omega) (by omega) (by omega)
    · intro q_46
      have b_63 : ¬ a1.toInt ≤ 60 := fun h9 => q_46 (Int32.le_iff_toInt_le.mpr h9)
      have z_64 : (-100002 : Int32).toInt = -100002 := rfl
      exact h9ret (-100002 : Int32) σ0 m0 f0 nn_1
set_option maxRecDepth 100000 in
set_option maxHeartbeats 4000000 in
theorem k_X11_see {l : Launch} {V : Vx} {a1 : Int32} {a2 : Int32} {a3 : Int32} {σ0 : Sg} {Qk : Int32 → Sg → Prop} (m0 : XI V σ0) (pre0 : (gi σ0 9 1).toInt % 3 = 0) (h9ret : ∀ (r : Int32) (σ' : Sg), XI V σ' → FX (fun id => id = 10) (fun id k => (id = 9 ∧ k = 1)) σ0 σ' → ((gi σ' 9 1).toInt % 3 = 0) → Qk r σ') : K_X11_see l V a1 a2 a3 σ0 Qk := by
  refine e_X11_see (fun M hl hV hN C => ?_)
  subst hl
  subst hV
  have c9 : capI 9 = 18 := rfl
  have n9 : (nl 9 : Int) = 18 := by decide +kernel
  have f0 : FX (fun id => id = 10) (fun id k => (id = 9 ∧ k = 1)) σ0 σ0 := FX_rf
  have t_1 := XI_c1 m0 (id := 1) (k := 1) (lim_C0_1 (Or.inl rfl))
  have t_2 := XI_c1 m0 (id := 9) (k := 1) (lim_C8_1 (Or.inl rfl))
  refine s_X11_see_0 C hN  ?_
  refine ⟨?_, ?_⟩
  · intro q_3
    have w_4 := Int32.toInt_lt a1
    have w_5 := Int32.le_toInt a1
    have b_6 : ¬ a1.toInt = (-1) := fun h9 => q_3 (Int32.toInt_inj.mp h9)
    refine k_X11_isMower  m0   (fun r3 σ2 mσ2 cσ2 plσ2 phσ2 (pσ2_0 : (r3.toInt = 1 ∧ 0 ≤ a1.toInt ∧ a1.toInt < (gi σ0 1 1).toInt) ∨ (r3.toInt = 0 ∧ (a1.toInt < 0 ∨ (gi σ0 1 1).toInt ≤ a1.toInt))) => ?_)
    obtain rfl := FX_nil cσ2
    refine ⟨?_, ?_⟩
    · intro q_7
      have b_8 : ¬ r3.toInt = 0 := fun h9 => q_7 (Int32.toInt_inj.mp h9)
      refine ⟨?_, ?_⟩
      · intro q_9
        have w_10 := Int32.toInt_lt a2
        have w_11 := Int32.le_toInt a2
        have b_12 : a2.toInt < 0 := Int32.lt_iff_toInt_lt.mp q_9
        have z_13 : (-2 : Int32).toInt = -2 := rfl
        exact h9ret (-2 : Int32) σ0 m0 f0 (by first | omega | assumption | rfl)
      · intro q_9
        have w_14 := Int32.toInt_lt a2
        have w_15 := Int32.le_toInt a2
        have b_16 : ¬ a2.toInt < 0 := fun h9 => q_9 (Int32.lt_iff_toInt_lt.mpr h9)
        refine ⟨?_, ?_⟩
        · intro q_17
          have b_18 : (30 : Int) < a2.toInt := Int32.lt_iff_toInt_lt.mp q_17
          have z_19 : (-2 : Int32).toInt = -2 := rfl
          exact h9ret (-2 : Int32) σ0 m0 f0 (by first | omega | assumption | rfl)
        · intro q_17
          have b_20 : ¬ (30 : Int) < a2.toInt := fun h9 => q_17 (Int32.lt_iff_toInt_lt.mpr h9)
          refine ⟨?_, ?_⟩
          · intro q_21
            have w_22 := Int32.toInt_lt a3
            have w_23 := Int32.le_toInt a3
            have b_24 : a3.toInt < 0 := Int32.lt_iff_toInt_lt.mp q_21
            have z_25 : (-2 : Int32).toInt = -2 := rfl
            exact h9ret (-2 : Int32) σ0 m0 f0 (by first | omega | assumption | rfl)
          · intro q_21
            have w_26 := Int32.toInt_lt a3
            have w_27 := Int32.le_toInt a3
            have b_28 : ¬ a3.toInt < 0 := fun h9 => q_21 (Int32.lt_iff_toInt_lt.mpr h9)
            refine ⟨?_, ?_⟩
            · intro q_29
              have b_30 : a3.toInt ≤ 9999 := Int32.le_iff_toInt_le.mp q_29
              refine k_X5_isFull (isN_C8 (Or.inl rfl)) m0   (fun r10 σ9 mσ9 cσ9 plσ9 phσ9 (pσ9_0 : (r10.toInt = 1 ∧ (nl 9 : Int) ≤ (gi σ0 9 1).toInt) ∨ (r10.toInt = 0 ∧ (gi σ0 9 1).toInt < (nl 9 : Int))) => ?_)
              obtain rfl := FX_nil cσ9
              refine ⟨?_, ?_⟩
              · intro q_31
                have b_32 : r10.toInt = 0 := congrArg Int32.toInt q_31
                refine k_X5_comes (isN_C8 (Or.inl rfl)) m0  (by omega) (by first | exact okNum_b (by omega) (by omega) | exact okNum_9 (by omega)) (fun σ12 mσ12 cσ12 (pσ12_0 : (gi σ12 9 1).toInt = (gi σ0 9 1).toInt + 1) => ?_)
                have fσ12 : FX (fun id => id = 10) (fun id k => (id = 9 ∧ k = 1)) σ0 σ12 := FX_tr f0 cσ12 (fun x (h9 : x = 10) => (show x = 10 from h9)) (fun x k (h9 : (x = 9 ∧ k = 1)) => (show (x = 10) ∨ ((x = 9 ∧ k = 1)) from Or.inr (show (x = 9 ∧ k = 1) from h9)))
                have k_33 : (gi σ12 1 1).toInt = (gi σ0 1 1).toInt := congrArg Int32.toInt (FX_i cσ12 (show ¬ (1 = 10) from by omega) (show ¬ ((1 = 9 ∧ 1 = 1)) from by omega))
                have t_34 := XI_c1 mσ12 (id := 9) (k := 1) (lim_C8_1 (Or.inl rfl))
                refine k_X5_comes (isN_C8 (Or.inl rfl)) mσ12  (by omega) (by first | exact okNum_b (by omega) (by omega) | exact okNum_9 (by omega)) (fun σ13 mσ13 cσ13 (pσ13_0 : (gi σ13 9 1).toInt = (gi σ12 9 1).toInt + 1) => ?_)
                have fσ13 : FX (fun id => id = 10) (fun id k => (id = 9 ∧ k = 1)) σ0 σ13 := FX_tr fσ12 cσ13 (fun x (h9 : x = 10) => (show x = 10 from h9)) (fun x k (h9 : (x = 9 ∧ k = 1)) => (show (x = 10) ∨ ((x = 9 ∧ k = 1)) from Or.inr (show (x = 9 ∧ k = 1) from h9)))
                have k_35 : (gi σ13 1 1).toInt = (gi σ12 1 1).toInt := congrArg Int32.toInt (FX_i cσ13 (show ¬ (1 = 10) from by omega) (show ¬ ((1 = 9 ∧ 1 = 1)) from by omega))
                have t_36 := XI_c1 mσ13 (id := 9) (k := 1) (lim_C8_1 (Or.inl rfl))
                refine k_X5_comes (isN_C8 (Or.inl rfl)) mσ13  (by omega) (by first | exact okNum_b (by omega) (by omega) | exact okNum_9 (by omega)) (fun σ14 mσ14 cσ14 (pσ14_0 : (gi σ14 9 1).toInt = (gi σ13 9 1).toInt + 1) => ?_)
                have fσ14 : FX (fun id => id = 10) (fun id k => (id = 9 ∧ k = 1)) σ0 σ14 := FX_tr fσ13 cσ14 (fun x (h9 : x = 10) => (show x = 10 from h9)) (fun x k (h9 : (x = 9 ∧ k = 1)) => (show (x = 10) ∨ ((x = 9 ∧ k = 1)) from Or.inr (show (x = 9 ∧ k = 1) from h9)))
                have k_37 : (gi σ14 1 1).toInt = (gi σ13 1 1).toInt := congrArg Int32.toInt (FX_i cσ14 (show ¬ (1 = 10) from by omega) (show ¬ ((1 = 9 ∧ 1 = 1)) from by omega))
                have t_38 := XI_c1 mσ14 (id := 9) (k := 1) (lim_C8_1 (Or.inl rfl))
                have t_39 : ((gi σ14 9 1) / (3 : Int32)).toInt = (gi σ14 9 1).toInt / 3 := i_div (by omega) (by decide) rfl
                exact h9ret ((gi σ14 9 1) / (3 : Int32)) σ14 mσ14 fσ14 (by first | omega | assumption | rfl)
              · intro q_31
                have b_40 : ¬ r10.toInt = 0 := fun h9 => q_31 (Int32.toInt_inj.mp h9)
                have z_41 : (-4 : Int32).toInt = -4 := rfl
                exact h9ret (-4 : Int32) σ0 m0 f0 (by first | omega | assumption | rfl)
            · intro q_29
              have b_42 : ¬ a3.toInt ≤ 9999 := fun h9 => q_29 (Int32.le_iff_toInt_le.mpr h9)
              have z_43 : (-2 : Int32).toInt = -2 := rfl
              exact h9ret (-2 : Int32) σ0 m0 f0 (by first | omega | assumption | rfl)
    · intro q_7
      have b_44 : r3.toInt = 0 := congrArg Int32.toInt q_7
      have z_45 : (-1 : Int32).toInt = -1 := rfl
      exact h9ret (-1 : Int32) σ0 m0 f0 (by first | omega | assumption | rfl)
  · intro q_3
    have w_46 := Int32.toInt_lt a1
    have w_47 := Int32.le_toInt a1
    have b_48 : a1.toInt = (-1) := congrArg Int32.toInt q_3
    intro σ15 eσ15
    have z_49 : (0 : Int32).toInt = 0 := rfl
    have mσ15 : XI (mV M) σ15 := by rw [eσ15]; exact XIs_b m0 (lim_C8_1 (Or.inl rfl)) (by omega) (by omega)
    have fσ15 : FX (fun id => id = 10) (fun id k => (id = 9 ∧ k = 1)) σ0 σ15 := by rw [eσ15]; exact FX_si f0 (Or.inr (show (9 = 9 ∧ 1 = 1) from ⟨rfl, rfl⟩))
    have k_50 : (gi σ15 1 1).toInt = (gi σ0 1 1).toInt := by rw [eσ15]; exact congrArg Int32.toInt (gi_si_ne (Or.inl (by omega)))
    have k_51 : (gi σ15 9 1).toInt = 0 := by rw [eσ15]; exact congrArg Int32.toInt gi_si_eq
    exact h9ret (0 : Int32) σ15 mσ15 fσ15 (by first | omega | assumption | rfl)
set_option maxRecDepth 100000 in
set_option maxHeartbeats 4000000 in
theorem k_X11_seenIsSo {l : Launch} {V : Vx} {a1 : Int32} {σ0 : Sg} {Qk : Int32 → Sg → Prop} (m0 : XI V σ0) (h9ret : ∀ (r : Int32) (σ' : Sg), XI V σ' → FX (fun id => False) (fun _ _ => False) σ0 σ' → Qk r σ') : K_X11_seenIsSo l V a1 σ0 Qk := by
  refine e_X11_seenIsSo (fun M hl hV hN C => ?_)
  subst hl
  subst hV
  have T : ∀ n : Nat, (∀ (x1 : Int32) (x3 : Int32) (σ : Sg), XI (mV M) σ → FX (fun id => False) (fun _ _ => False) σ0 σ → (0 ≤ x3.toInt) → (x3.toInt ≤ 18) → (x3.toInt % 3 = 0) → (20 - x3.toInt).toNat < n → PS M 13 [(0, .ref 0), (1, .int x1), (2, .ref 10), (3, .int x3)] [] σ (0, 0)) := by
    intro n
    induction n with
    | zero => exact fun _ _ _ _ _ _ _ _ h8 => absurd h8 (Nat.not_lt_zero _)
    | succ n ih =>
      have ih13 := ih
      · intro x1 x3 σ mσ fσ lx3 ux3 i0 hmu
        have k_1 : (gi σ 1 1).toInt = (gi σ0 1 1).toInt := congrArg Int32.toInt (FX_i fσ id id)
        have t_2 := XI_c1 mσ (id := 1) (k := 1) (lim_C0_1 (Or.inl rfl))
        have k_3 : (gi σ 9 1).toInt = (gi σ0 9 1).toInt := congrArg Int32.toInt (FX_i fσ id id)
        have t_4 := XI_c1 mσ (id := 9) (k := 1) (lim_C8_1 (Or.inl rfl))
        have ec9 := cl_eq (x := x3) (by omega)
        have sn9 : x3.toNatClampNeg % 3 = 0 → _ := fun q9 => XI_c1 mσ (id := 10) (k := x3.toNatClampNeg) (lim_C9 (c := 1) (Or.inl rfl) q9)
        have sn9 := sn9 (by omega)
        refine s_X11_seenIsSo_13 C hN  ?_
        refine ⟨?_, ?_⟩
        · intro q_5
          have t_6 : (x3 + (2 : Int32)).toInt = x3.toInt + 2 := i_add (x := x3) (y := (2 : Int32)) (by show (_ : Int) ≤ x3.toInt + 2; omega) (by show x3.toInt + 2 ≤ (_ : Int); omega)
          have b_7 : (gi σ 9 1).toInt ≤ (x3 + (2 : Int32)).toInt := Int32.le_iff_toInt_le.mp q_5
          have z_8 : (1 : Int32).toInt = 1 := rfl
          exact h9ret (1 : Int32) σ mσ fσ
        · intro q_5
          have t_9 : (x3 + (2 : Int32)).toInt = x3.toInt + 2 := i_add (x := x3) (y := (2 : Int32)) (by show (_ : Int) ≤ x3.toInt + 2; omega) (by show x3.toInt + 2 ≤ (_ : Int); omega)
          have b_10 : ¬ (gi σ 9 1).toInt ≤ (x3 + (2 : Int32)).toInt := fun h9 => q_5 (Int32.le_iff_toInt_le.mpr h9)
          have t_11 : (x3 + (1 : Int32)).toInt = x3.toInt + 1 := i_add (x := x3) (y := (1 : Int32)) (by show (_ : Int) ≤ x3.toInt + 1; omega) (by show x3.toInt + 1 ≤ (_ : Int); omega)
          have hv_12 : vp_in (x3 + (1 : Int32)) 18 := vp_in_iff.mpr ⟨by omega, by omega⟩
          refine ⟨hv_12, ?_⟩
          refine ⟨?_, ?_⟩
          · intro q_13
            have w_14 := Int32.toInt_lt (gi σ 10 (x3 + (1 : Int32)).toNatClampNeg)
            have w_15 := Int32.le_toInt (gi σ 10 (x3 + (1 : Int32)).toNatClampNeg)
            have w_16 := Int32.toInt_lt x1
            have w_17 := Int32.le_toInt x1
            have b_18 : ¬ (gi σ 10 (x3 + (1 : Int32)).toNatClampNeg).toInt = x1.toInt := fun h9 => q_13 (Int32.toInt_inj.mp h9)
            intro v4 ev4
            have t_19 : (x3 + (3 : Int32)).toInt = x3.toInt + 3 := i_add (x := x3) (y := (3 : Int32)) (by show (_ : Int) ≤ x3.toInt + 3; omega) (by show x3.toInt + 3 ≤ (_ : Int); omega)
            have t_20 : v4.toInt = (x3 + (3 : Int32)).toInt := congrArg Int32.toInt ev4
            exact ih13 x1 v4 σ mσ fσ (by omega) (by omega) (by first | omega | assumption | rfl) (by omega)
          · intro q_13
            have w_21 := Int32.toInt_lt (gi σ 10 (x3 + (1 : Int32)).toNatClampNeg)
            have w_22 := Int32.le_toInt (gi σ 10 (x3 + (1 : Int32)).toNatClampNeg)
            have w_23 := Int32.toInt_lt x1
            have w_24 := Int32.le_toInt x1
            have b_25 : (gi σ 10 (x3 + (1 : Int32)).toNatClampNeg).toInt = x1.toInt := congrArg Int32.toInt q_13
            have hv_26 : vp_in x3 18 := vp_in_iff.mpr ⟨by omega, by omega⟩
            refine ⟨hv_26, ?_⟩
            have w_27 := Int32.toInt_lt (gi σ 10 x3.toNatClampNeg)
            have w_28 := Int32.le_toInt (gi σ 10 x3.toNatClampNeg)
            have hv_29 : vp_in (gi σ 10 x3.toNatClampNeg) 6 := vp_in_iff.mpr ⟨by omega, by omega⟩
            refine ⟨hv_29, ?_⟩
            have hv_30 : vp_in (x3 + (2 : Int32)) 18 := vp_in_iff.mpr ⟨by omega, by omega⟩
            refine ⟨hv_30, ?_⟩
            refine ⟨?_, ?_⟩
            · intro q_31
              have w_32 := Int32.toInt_lt (gi σ 36 (gi σ 10 x3.toNatClampNeg).toNatClampNeg)
              have w_33 := Int32.le_toInt (gi σ 36 (gi σ 10 x3.toNatClampNeg).toNatClampNeg)
              have w_34 := Int32.toInt_lt (gi σ 10 (x3 + (2 : Int32)).toNatClampNeg)
              have w_35 := Int32.le_toInt (gi σ 10 (x3 + (2 : Int32)).toNatClampNeg)
              have b_36 : (gi σ 36 (gi σ 10 x3.toNatClampNeg).toNatClampNeg).toInt = (gi σ 10 (x3 + (2 : Int32)).toNatClampNeg).toInt := congrArg Int32.toInt q_31
              intro v9 ev9
              have t_37 : (x3 + (3 : Int32)).toInt = x3.toInt + 3 := i_add (x := x3) (y := (3 : Int32)) (by show (_ : Int) ≤ x3.toInt + 3; omega) (by show x3.toInt + 3 ≤ (_ : Int); omega)
              have t_38 : v9.toInt = (x3 + (3 : Int32)).toInt := congrArg Int32.toInt ev9
              exact ih13 x1 v9 σ mσ fσ (by omega) (by omega) (by first | omega | assumption | rfl) (by omega)
            · intro q_31
              have w_39 := Int32.toInt_lt (gi σ 36 (gi σ 10 x3.toNatClampNeg).toNatClampNeg)
              have w_40 := Int32.le_toInt (gi σ 36 (gi σ 10 x3.toNatClampNeg).toNatClampNeg)
              have w_41 := Int32.toInt_lt (gi σ 10 (x3 + (2 : Int32)).toNatClampNeg)
              have w_42 := Int32.le_toInt (gi σ 10 (x3 + (2 : Int32)).toNatClampNeg)
              have b_43 : ¬ (gi σ 36 (gi σ 10 x3.toNatClampNeg).toNatClampNeg).toInt = (gi σ 10 (x3 + (2 : Int32)).toNatClampNeg).toInt := fun h9 => q_31 (Int32.toInt_inj.mp h9)
              have z_44 : (0 : Int32).toInt = 0 := rfl
              exact h9ret (0 : Int32) σ mσ fσ
  have U13 := T 90
  have f0 : FX (fun id => False) (fun _ _ => False) σ0 σ0 := FX_rf
  have t_45 := XI_c1 m0 (id := 1) (k := 1) (lim_C0_1 (Or.inl rfl))
  have t_46 := XI_c1 m0 (id := 9) (k := 1) (lim_C8_1 (Or.inl rfl))
  refine s_X11_seenIsSo_0 C hN  ?_
  have w_47 := Int32.toInt_lt a1
  have w_48 := Int32.le_toInt a1
  have z_49 : (0 : Int32).toInt = 0 := rfl
  exact U13 a1 (0 : Int32) σ0 m0 f0 (by omega) (by omega) (by first | omega | assumption | rfl) (by omega)
set_option maxRecDepth 100000 in
set_option maxHeartbeats 4000000 in
theorem k_X11_allSeenIsSo {l : Launch} {V : Vx} {σ0 : Sg} {Qk : Int32 → Sg → Prop} (m0 : XI V σ0) (nn_33 : NN σ0 33) (pre0 : (gi σ0 33 9).toInt ≤ 10000) (h9ret : ∀ (r : Int32) (σ' : Sg), XI V σ' → FX (fun id => id = 36 ∨ id = 37 ∨ id = 38 ∨ id = 39 ∨ id = 47 ∨ id = 48) (fun id k => (id = 33 ∧ k = 9)) σ0 σ' → (NN σ' 33) → (0 ≤ r.toInt) → (r.toInt ≤ 1) → Qk r σ') : K_X11_allSeenIsSo l V σ0 Qk := by
  refine e_X11_allSeenIsSo (fun M hl hV hN C => ?_)
  subst hl
  subst hV
  have T : ∀ n : Nat, (∀ (x1 : Int32) (σ : Sg), XI (mV M) σ → FX (fun id => id = 36 ∨ id = 37 ∨ id = 38 ∨ id = 39 ∨ id = 47 ∨ id = 48) (fun id k => (id = 33 ∧ k = 9)) σ0 σ → NN σ 33 → (0 ≤ x1.toInt) → (x1.toInt ≤ 31) → ((gi σ 33 9).toInt ≤ 10000 + x1.toInt) → (32 - x1.toInt).toNat < n → PS M 2 [(0, .ref 0), (1, .int x1)] [] σ (0, 0)) := by
    intro n
    induction n with
    | zero => exact fun _ _ _ _ _ _ _ _ h8 => absurd h8 (Nat.not_lt_zero _)
    | succ n ih =>
      have ih2 := ih
      · intro x1 σ mσ fσ nσ_33 lx1 ux1 i0 hmu
        have k_1 : (gi σ 1 1).toInt = (gi σ0 1 1).toInt := congrArg Int32.toInt (FX_i fσ (show ¬ (1 = 36 ∨ 1 = 37 ∨ 1 = 38 ∨ 1 = 39 ∨ 1 = 47 ∨ 1 = 48) from by omega) (show ¬ ((1 = 33 ∧ 1 = 9)) from by omega))
        have t_2 := XI_c1 mσ (id := 1) (k := 1) (lim_C0_1 (Or.inl rfl))
        have t_3 := XI_c1 mσ (id := 33) (k := 9) (lim_C0_9 (Or.inr (Or.inr rfl)))
        refine s_X11_allSeenIsSo_2 C hN  ?_
        refine ⟨?_, ?_⟩
        · intro q_4
          have b_5 : (30 : Int) < x1.toInt := Int32.lt_iff_toInt_lt.mp q_4
          have z_6 : (1 : Int32).toInt = 1 := rfl
          exact h9ret (1 : Int32) σ mσ fσ nσ_33 (by omega) (by omega)
        · intro q_4
          have b_7 : ¬ (30 : Int) < x1.toInt := fun h9 => q_4 (Int32.lt_iff_toInt_lt.mpr h9)
          refine k_X11_seenIsSo  mσ   (fun r3 σ2 mσ2 cσ2 => ?_)
          obtain rfl := FX_nil cσ2
          refine ⟨?_, ?_⟩
          · intro q_8
            have w_9 := Int32.toInt_lt r3
            have w_10 := Int32.le_toInt r3
            have b_11 : ¬ r3.toInt = 0 := fun h9 => q_8 (Int32.toInt_inj.mp h9)
            refine k_X1_goesMinute (Or.inr (Or.inr rfl)) mσ nσ_33 (by first | omega | assumption | rfl) (fun r6 σ5 mσ5 cσ5 nσ5_33 (pσ5_0 : (gi σ5 33 9).toInt = (gi σ 33 9).toInt + 1) => ?_)
            have fσ5 : FX (fun id => id = 36 ∨ id = 37 ∨ id = 38 ∨ id = 39 ∨ id = 47 ∨ id = 48) (fun id k => (id = 33 ∧ k = 9)) σ0 σ5 := FX_tr fσ cσ5 (fun x (h9 : x = 47 ∨ x = 48 ∨ x = 36 ∨ x = 37 ∨ x = 38 ∨ x = 39) => h9.elim (fun e9 => (show x = 36 ∨ x = 37 ∨ x = 38 ∨ x = 39 ∨ x = 47 ∨ x = 48 from Or.inr (Or.inr (Or.inr (Or.inr (Or.inl (e9))))))) (fun h9 => h9.elim (fun e9 => (show x = 36 ∨ x = 37 ∨ x = 38 ∨ x = 39 ∨ x = 47 ∨ x = 48 from Or.inr (Or.inr (Or.inr (Or.inr (Or.inr (e9))))))) (fun h9 => h9.elim (fun e9 => (show x = 36 ∨ x = 37 ∨ x = 38 ∨ x = 39 ∨ x = 47 ∨ x = 48 from Or.inl (e9))) (fun h9 => h9.elim (fun e9 => (show x = 36 ∨ x = 37 ∨ x = 38 ∨ x = 39 ∨ x = 47 ∨ x = 48 from Or.inr (Or.inl (e9)))) (fun h9 => h9.elim (fun e9 => (show x = 36 ∨ x = 37 ∨ x = 38 ∨ x = 39 ∨ x = 47 ∨ x = 48 from Or.inr (Or.inr (Or.inl (e9))))) (fun h9 => (show x = 36 ∨ x = 37 ∨ x = 38 ∨ x = 39 ∨ x = 47 ∨ x = 48 from Or.inr (Or.inr (Or.inr (Or.inl (h9))))))))))) (fun x k (h9 : (x = 33 ∧ k = 9)) => (show (x = 36 ∨ x = 37 ∨ x = 38 ∨ x = 39 ∨ x = 47 ∨ x = 48) ∨ ((x = 33 ∧ k = 9)) from Or.inr (show (x = 33 ∧ k = 9) from h9)))
            have k_12 : (gi σ5 1 1).toInt = (gi σ 1 1).toInt := congrArg Int32.toInt (FX_i cσ5 (show ¬ (1 = 47 ∨ 1 = 48 ∨ 1 = 36 ∨ 1 = 37 ∨ 1 = 38 ∨ 1 = 39) from by omega) (show ¬ ((1 = 33 ∧ 1 = 9)) from by omega))
            have t_13 := XI_c1 mσ5 (id := 33) (k := 9) (lim_C0_9 (Or.inr (Or.inr rfl)))
            intro v7 ev7
            have t_14 : (x1 + (1 : Int32)).toInt = x1.toInt + 1 := i_add (x := x1) (y := (1 : Int32)) (by show (_ : Int) ≤ x1.toInt + 1; omega) (by show x1.toInt + 1 ≤ (_ : Int); omega)
            have t_15 : v7.toInt = (x1 + (1 : Int32)).toInt := congrArg Int32.toInt ev7
            exact ih2 v7 σ5 mσ5 fσ5 nσ5_33 (by omega) (by omega) (by first | omega | assumption | rfl) (by omega)
          · intro q_8
            have w_16 := Int32.toInt_lt r3
            have w_17 := Int32.le_toInt r3
            have b_18 : r3.toInt = 0 := congrArg Int32.toInt q_8
            have z_19 : (0 : Int32).toInt = 0 := rfl
            exact h9ret (0 : Int32) σ mσ fσ nσ_33 (by omega) (by omega)
  have U2 := T 90
  have f0 : FX (fun id => id = 36 ∨ id = 37 ∨ id = 38 ∨ id = 39 ∨ id = 47 ∨ id = 48) (fun id k => (id = 33 ∧ k = 9)) σ0 σ0 := FX_rf
  have t_20 := XI_c1 m0 (id := 1) (k := 1) (lim_C0_1 (Or.inl rfl))
  have t_21 := XI_c1 m0 (id := 33) (k := 9) (lim_C0_9 (Or.inr (Or.inr rfl)))
  refine s_X11_allSeenIsSo_0 C hN  ?_
  have z_22 : (0 : Int32).toInt = 0 := rfl
  exact U2 (0 : Int32) σ0 m0 f0 nn_33 (by omega) (by omega) (by first | omega | assumption | rfl) (by omega)
set_option maxRecDepth 100000 in
set_option maxHeartbeats 4000000 in
theorem k_X11_who {l : Launch} {V : Vx} {σ0 : Sg} {Qk : Int32 → Sg → Prop} (m0 : XI V σ0) (nn_1 : NN σ0 1) (pre0 : (gi σ0 1 9).toInt ≤ 9999) (h9ret : ∀ (r : Int32) (σ' : Sg), XI V σ' → FX (fun id => id = 34 ∨ id = 35 ∨ id = 36 ∨ id = 37 ∨ id = 38 ∨ id = 39 ∨ id = 40 ∨ id = 47 ∨ id = 48) (fun id k => (id = 33 ∧ k = 1) ∨ (id = 33 ∧ k = 3) ∨ (id = 33 ∧ k = 9) ∨ (id = 33 ∧ k = 10) ∨ (id = 33 ∧ k = 11)) σ0 σ' → (NN σ' 1) → Qk r σ') : K_X11_who l V σ0 Qk := by
  refine e_X11_who (fun M hl hV hN C => ?_)
  subst hl
  subst hV
  have T : ∀ n : Nat, (∀ (x1 : Int32) (x2 : Int32) (σ : Sg), XI (mV M) σ → FX (fun id => id = 34 ∨ id = 35 ∨ id = 36 ∨ id = 37 ∨ id = 38 ∨ id = 39 ∨ id = 40 ∨ id = 47 ∨ id = 48) (fun id k => (id = 33 ∧ k = 1) ∨ (id = 33 ∧ k = 3) ∨ (id = 33 ∧ k = 9) ∨ (id = 33 ∧ k = 10) ∨ (id = 33 ∧ k = 11)) σ0 σ → NN σ 1 → (0 ≤ x2.toInt) → (x2.toInt ≤ 6) → (7 - x2.toInt).toNat < n → PS M 4 [(0, .ref 0), (1, .int x1), (2, .int x2)] [] σ (0, 0)) := by
    intro n
    induction n with
    | zero => exact fun _ _ _ _ _ _ _ _ h8 => absurd h8 (Nat.not_lt_zero _)
    | succ n ih =>
      have ih4 := ih
      · intro x1 x2 σ mσ fσ nσ_1 lx2 ux2 hmu
        have k_1 : (gi σ 1 1).toInt = (gi σ0 1 1).toInt := congrArg Int32.toInt (FX_i fσ (show ¬ (1 = 34 ∨ 1 = 35 ∨ 1 = 36 ∨ 1 = 37 ∨ 1 = 38 ∨ 1 = 39 ∨ 1 = 40 ∨ 1 = 47 ∨ 1 = 48) from by omega) (show ¬ ((1 = 33 ∧ 1 = 1) ∨ (1 = 33 ∧ 1 = 3) ∨ (1 = 33 ∧ 1 = 9) ∨ (1 = 33 ∧ 1 = 10) ∨ (1 = 33 ∧ 1 = 11)) from by omega))
        have t_2 := XI_c1 mσ (id := 1) (k := 1) (lim_C0_1 (Or.inl rfl))
        have k_3 : (gi σ 1 9).toInt = (gi σ0 1 9).toInt := congrArg Int32.toInt (FX_i fσ (show ¬ (1 = 34 ∨ 1 = 35 ∨ 1 = 36 ∨ 1 = 37 ∨ 1 = 38 ∨ 1 = 39 ∨ 1 = 40 ∨ 1 = 47 ∨ 1 = 48) from by omega) (show ¬ ((1 = 33 ∧ 9 = 1) ∨ (1 = 33 ∧ 9 = 3) ∨ (1 = 33 ∧ 9 = 9) ∨ (1 = 33 ∧ 9 = 10) ∨ (1 = 33 ∧ 9 = 11)) from by omega))
        have t_4 := XI_c1 mσ (id := 1) (k := 9) (lim_C0_9 (Or.inl rfl))
        have t_5 := XI_c1 mσ (id := 33) (k := 1) (lim_C0_1 (Or.inr (Or.inr rfl)))
        have t_6 := XI_c1 mσ (id := 33) (k := 9) (lim_C0_9 (Or.inr (Or.inr rfl)))
        refine s_X11_who_4 C hN  ?_
        refine ⟨?_, ?_⟩
        · intro q_7
          have b_8 : (gi σ 1 1).toInt ≤ x2.toInt := Int32.le_iff_toInt_le.mp q_7
          exact h9ret x1 σ mσ fσ nσ_1
        · intro q_7
          have b_9 : ¬ (gi σ 1 1).toInt ≤ x2.toInt := fun h9 => q_7 (Int32.le_iff_toInt_le.mpr h9)
          have z_10 : (1 : Int32).toInt = 1 := rfl
          refine k_X1_becomes (Or.inr (Or.inr rfl)) (Or.inl rfl) mσ nσ_1 (by first | omega | assumption | rfl) (fun σ2 mσ2 cσ2 nσ2_1 nσ2_33 (pσ2_0 : (gi σ2 33 1).toInt = (gi σ 1 1).toInt) (pσ2_1 : (gi σ2 33 3).toInt = (gi σ 1 3).toInt) (pσ2_2 : (gi σ2 33 9).toInt = (gi σ 1 9).toInt) (pσ2_3 : CPY σ σ2 33 1) => ?_)
          have fσ2 : FX (fun id => id = 34 ∨ id = 35 ∨ id = 36 ∨ id = 37 ∨ id = 38 ∨ id = 39 ∨ id = 40 ∨ id = 47 ∨ id = 48) (fun id k => (id = 33 ∧ k = 1) ∨ (id = 33 ∧ k = 3) ∨ (id = 33 ∧ k = 9) ∨ (id = 33 ∧ k = 10) ∨ (id = 33 ∧ k = 11)) σ0 σ2 := FX_tr fσ cσ2 (fun x (h9 : x = 34 ∨ x = 35 ∨ x = 36 ∨ x = 37 ∨ x = 38 ∨ x = 39 ∨ x = 40) => h9.elim (fun e9 => (show x = 34 ∨ x = 35 ∨ x = 36 ∨ x = 37 ∨ x = 38 ∨ x = 39 ∨ x = 40 ∨ x = 47 ∨ x = 48 from Or.inl (e9))) (fun h9 => h9.elim (fun e9 => (show x = 34 ∨ x = 35 ∨ x = 36 ∨ x = 37 ∨ x = 38 ∨ x = 39 ∨ x = 40 ∨ x = 47 ∨ x = 48 from Or.inr (Or.inl (e9)))) (fun h9 => h9.elim (fun e9 => (show x = 34 ∨ x = 35 ∨ x = 36 ∨ x = 37 ∨ x = 38 ∨ x = 39 ∨ x = 40 ∨ x = 47 ∨ x = 48 from Or.inr (Or.inr (Or.inl (e9))))) (fun h9 => h9.elim (fun e9 => (show x = 34 ∨ x = 35 ∨ x = 36 ∨ x = 37 ∨ x = 38 ∨ x = 39 ∨ x = 40 ∨ x = 47 ∨ x = 48 from Or.inr (Or.inr (Or.inr (Or.inl (e9)))))) (fun h9 => h9.elim (fun e9 => (show x = 34 ∨ x = 35 ∨ x = 36 ∨ x = 37 ∨ x = 38 ∨ x = 39 ∨ x = 40 ∨ x = 47 ∨ x = 48 from Or.inr (Or.inr (Or.inr (Or.inr (Or.inl (e9))))))) (fun h9 => h9.elim (fun e9 => (show x = 34 ∨ x = 35 ∨ x = 36 ∨ x = 37 ∨ x = 38 ∨ x = 39 ∨ x = 40 ∨ x = 47 ∨ x = 48 from Or.inr (Or.inr (Or.inr (Or.inr (Or.inr (Or.inl (e9)))))))) (fun h9 => (show x = 34 ∨ x = 35 ∨ x = 36 ∨ x = 37 ∨ x = 38 ∨ x = 39 ∨ x = 40 ∨ x = 47 ∨ x = 48 from Or.inr (Or.inr (Or.inr (Or.inr (Or.inr (Or.inr (Or.inl (h9))))))))))))))) (fun x k (h9 : (x = 33 ∧ k = 1) ∨ (x = 33 ∧ k = 3) ∨ (x = 33 ∧ k = 9) ∨ (x = 33 ∧ k = 10) ∨ (x = 33 ∧ k = 11)) => (show (x = 34 ∨ x = 35 ∨ x = 36 ∨ x = 37 ∨ x = 38 ∨ x = 39 ∨ x = 40 ∨ x = 47 ∨ x = 48) ∨ ((x = 33 ∧ k = 1) ∨ (x = 33 ∧ k = 3) ∨ (x = 33 ∧ k = 9) ∨ (x = 33 ∧ k = 10) ∨ (x = 33 ∧ k = 11)) from h9.elim (fun e9 => Or.inr (show (x = 33 ∧ k = 1) ∨ (x = 33 ∧ k = 3) ∨ (x = 33 ∧ k = 9) ∨ (x = 33 ∧ k = 10) ∨ (x = 33 ∧ k = 11) from Or.inl (e9))) (fun h9 => h9.elim (fun e9 => Or.inr (show (x = 33 ∧ k = 1) ∨ (x = 33 ∧ k = 3) ∨ (x = 33 ∧ k = 9) ∨ (x = 33 ∧ k = 10) ∨ (x = 33 ∧ k = 11) from Or.inr (Or.inl (e9)))) (fun h9 => h9.elim (fun e9 => Or.inr (show (x = 33 ∧ k = 1) ∨ (x = 33 ∧ k = 3) ∨ (x = 33 ∧ k = 9) ∨ (x = 33 ∧ k = 10) ∨ (x = 33 ∧ k = 11) from Or.inr (Or.inr (Or.inl (e9))))) (fun h9 => h9.elim (fun e9 => Or.inr (show (x = 33 ∧ k = 1) ∨ (x = 33 ∧ k = 3) ∨ (x = 33 ∧ k = 9) ∨ (x = 33 ∧ k = 10) ∨ (x = 33 ∧ k = 11) from Or.inr (Or.inr (Or.inr (Or.inl (e9)))))) (fun h9 => Or.inr (show (x = 33 ∧ k = 1) ∨ (x = 33 ∧ k = 3) ∨ (x = 33 ∧ k = 9) ∨ (x = 33 ∧ k = 10) ∨ (x = 33 ∧ k = 11) from Or.inr (Or.inr (Or.inr (Or.inr (h9)))))))))))
          have k_11 : (gi σ2 1 1).toInt = (gi σ 1 1).toInt := congrArg Int32.toInt (FX_i cσ2 (show ¬ (1 = 34 ∨ 1 = 35 ∨ 1 = 36 ∨ 1 = 37 ∨ 1 = 38 ∨ 1 = 39 ∨ 1 = 40) from by omega) (show ¬ ((1 = 33 ∧ 1 = 1) ∨ (1 = 33 ∧ 1 = 3) ∨ (1 = 33 ∧ 1 = 9) ∨ (1 = 33 ∧ 1 = 10) ∨ (1 = 33 ∧ 1 = 11)) from by omega))
          have k_12 : (gi σ2 1 9).toInt = (gi σ 1 9).toInt := congrArg Int32.toInt (FX_i cσ2 (show ¬ (1 = 34 ∨ 1 = 35 ∨ 1 = 36 ∨ 1 = 37 ∨ 1 = 38 ∨ 1 = 39 ∨ 1 = 40) from by omega) (show ¬ ((1 = 33 ∧ 9 = 1) ∨ (1 = 33 ∧ 9 = 3) ∨ (1 = 33 ∧ 9 = 9) ∨ (1 = 33 ∧ 9 = 10) ∨ (1 = 33 ∧ 9 = 11)) from by omega))
          have t_13 := XI_c1 mσ2 (id := 33) (k := 1) (lim_C0_1 (Or.inr (Or.inr rfl)))
          have t_14 := XI_c1 mσ2 (id := 33) (k := 9) (lim_C0_9 (Or.inr (Or.inr rfl)))
          have hv_15 : vp_in x2 6 := vp_in_iff.mpr ⟨by omega, by omega⟩
          refine ⟨hv_15, ?_⟩
          refine ⟨hv_15, ?_⟩
          intro σ5 eσ5
          have mσ5 : XI (mV M) σ5 := by rw [eσ5]; exact XIs_n mσ2 (lim_C6 (Or.inr (Or.inr rfl)) _)
          have fσ5 : FX (fun id => id = 34 ∨ id = 35 ∨ id = 36 ∨ id = 37 ∨ id = 38 ∨ id = 39 ∨ id = 40 ∨ id = 47 ∨ id = 48) (fun id k => (id = 33 ∧ k = 1) ∨ (id = 33 ∧ k = 3) ∨ (id = 33 ∧ k = 9) ∨ (id = 33 ∧ k = 10) ∨ (id = 33 ∧ k = 11)) σ0 σ5 := by rw [eσ5]; exact FX_si fσ2 (Or.inl (show 39 = 34 ∨ 39 = 35 ∨ 39 = 36 ∨ 39 = 37 ∨ 39 = 38 ∨ 39 = 39 ∨ 39 = 40 ∨ 39 = 47 ∨ 39 = 48 from Or.inr (Or.inr (Or.inr (Or.inr (Or.inr (Or.inl (rfl))))))))
          have k_16 : (gi σ5 1 1).toInt = (gi σ2 1 1).toInt := by rw [eσ5]; exact congrArg Int32.toInt (gi_si_ne (Or.inl (by omega)))
          have k_17 : (gi σ5 1 9).toInt = (gi σ2 1 9).toInt := by rw [eσ5]; exact congrArg Int32.toInt (gi_si_ne (Or.inl (by omega)))
          have k_18 : (gi σ5 33 1).toInt = (gi σ2 33 1).toInt := by rw [eσ5]; exact congrArg Int32.toInt (gi_si_ne (Or.inl (by omega)))
          have k_19 : (gi σ5 33 9).toInt = (gi σ2 33 9).toInt := by rw [eσ5]; exact congrArg Int32.toInt (gi_si_ne (Or.inl (by omega)))
          have nσ5_1 : NN σ5 1 := by rw [eσ5]; exact NN_si nσ2_1 (by omega) (fun h9 => absurd h9 (by omega))
          have nσ5_33 : NN σ5 33 := by rw [eσ5]; exact NN_si nσ2_33 (by omega) (fun h9 => absurd h9 (by omega))
          refine k_X11_allSeenIsSo  mσ5 nσ5_33 (by first | omega | assumption | rfl) (fun r7 σ6 mσ6 cσ6 nσ6_33 plσ6 phσ6 => ?_)
          have fσ6 : FX (fun id => id = 34 ∨ id = 35 ∨ id = 36 ∨ id = 37 ∨ id = 38 ∨ id = 39 ∨ id = 40 ∨ id = 47 ∨ id = 48) (fun id k => (id = 33 ∧ k = 1) ∨ (id = 33 ∧ k = 3) ∨ (id = 33 ∧ k = 9) ∨ (id = 33 ∧ k = 10) ∨ (id = 33 ∧ k = 11)) σ0 σ6 := FX_tr fσ5 cσ6 (fun x (h9 : x = 36 ∨ x = 37 ∨ x = 38 ∨ x = 39 ∨ x = 47 ∨ x = 48) => h9.elim (fun e9 => (show x = 34 ∨ x = 35 ∨ x = 36 ∨ x = 37 ∨ x = 38 ∨ x = 39 ∨ x = 40 ∨ x = 47 ∨ x = 48 from Or.inr (Or.inr (Or.inl (e9))))) (fun h9 => h9.elim (fun e9 => (show x = 34 ∨ x = 35 ∨ x = 36 ∨ x = 37 ∨ x = 38 ∨ x = 39 ∨ x = 40 ∨ x = 47 ∨ x = 48 from Or.inr (Or.inr (Or.inr (Or.inl (e9)))))) (fun h9 => h9.elim (fun e9 => (show x = 34 ∨ x = 35 ∨ x = 36 ∨ x = 37 ∨ x = 38 ∨ x = 39 ∨ x = 40 ∨ x = 47 ∨ x = 48 from Or.inr (Or.inr (Or.inr (Or.inr (Or.inl (e9))))))) (fun h9 => h9.elim (fun e9 => (show x = 34 ∨ x = 35 ∨ x = 36 ∨ x = 37 ∨ x = 38 ∨ x = 39 ∨ x = 40 ∨ x = 47 ∨ x = 48 from Or.inr (Or.inr (Or.inr (Or.inr (Or.inr (Or.inl (e9)))))))) (fun h9 => h9.elim (fun e9 => (show x = 34 ∨ x = 35 ∨ x = 36 ∨ x = 37 ∨ x = 38 ∨ x = 39 ∨ x = 40 ∨ x = 47 ∨ x = 48 from Or.inr (Or.inr (Or.inr (Or.inr (Or.inr (Or.inr (Or.inr (Or.inl (e9)))))))))) (fun h9 => (show x = 34 ∨ x = 35 ∨ x = 36 ∨ x = 37 ∨ x = 38 ∨ x = 39 ∨ x = 40 ∨ x = 47 ∨ x = 48 from Or.inr (Or.inr (Or.inr (Or.inr (Or.inr (Or.inr (Or.inr (Or.inr (h9))))))))))))))) (fun x k (h9 : (x = 33 ∧ k = 9)) => (show (x = 34 ∨ x = 35 ∨ x = 36 ∨ x = 37 ∨ x = 38 ∨ x = 39 ∨ x = 40 ∨ x = 47 ∨ x = 48) ∨ ((x = 33 ∧ k = 1) ∨ (x = 33 ∧ k = 3) ∨ (x = 33 ∧ k = 9) ∨ (x = 33 ∧ k = 10) ∨ (x = 33 ∧ k = 11)) from Or.inr (show (x = 33 ∧ k = 1) ∨ (x = 33 ∧ k = 3) ∨ (x = 33 ∧ k = 9) ∨ (x = 33 ∧ k = 10) ∨ (x = 33 ∧ k = 11) from Or.inr (Or.inr (Or.inl (h9))))))
          have k_20 : (gi σ6 1 1).toInt = (gi σ5 1 1).toInt := congrArg Int32.toInt (FX_i cσ6 (show ¬ (1 = 36 ∨ 1 = 37 ∨ 1 = 38 ∨ 1 = 39 ∨ 1 = 47 ∨ 1 = 48) from by omega) (show ¬ ((1 = 33 ∧ 1 = 9)) from by omega))
          have k_21 : (gi σ6 1 9).toInt = (gi σ5 1 9).toInt := congrArg Int32.toInt (FX_i cσ6 (show ¬ (1 = 36 ∨ 1 = 37 ∨ 1 = 38 ∨ 1 = 39 ∨ 1 = 47 ∨ 1 = 48) from by omega) (show ¬ ((1 = 33 ∧ 9 = 9)) from by omega))
          have k_22 : (gi σ6 33 1).toInt = (gi σ5 33 1).toInt := congrArg Int32.toInt (FX_i cσ6 (show ¬ (33 = 36 ∨ 33 = 37 ∨ 33 = 38 ∨ 33 = 39 ∨ 33 = 47 ∨ 33 = 48) from by omega) (show ¬ ((33 = 33 ∧ 1 = 9)) from by omega))
          have t_23 := XI_c1 mσ6 (id := 33) (k := 9) (lim_C0_9 (Or.inr (Or.inr rfl)))
          have nσ6_1 : NN σ6 1 := NN_fx nσ5_1 cσ6 (show ¬ (1 = 36 ∨ 1 = 37 ∨ 1 = 38 ∨ 1 = 39 ∨ 1 = 47 ∨ 1 = 48) from by omega) (show ¬ (2 = 36 ∨ 2 = 37 ∨ 2 = 38 ∨ 2 = 39 ∨ 2 = 47 ∨ 2 = 48) from by omega) (show ¬ (3 = 36 ∨ 3 = 37 ∨ 3 = 38 ∨ 3 = 39 ∨ 3 = 47 ∨ 3 = 48) from by omega) (show ¬ ((1 = 33 ∧ 1 = 9)) from by omega) (show ¬ ((1 = 33 ∧ 3 = 9)) from by omega) (fun k (h9 : (2 = 33 ∧ k = 9)) => by omega) (fun k (h9 : (3 = 33 ∧ k = 9)) => by omega)
          refine ⟨?_, ?_⟩
          · intro q_24
            have b_25 : r7.toInt = 0 := congrArg Int32.toInt q_24
            intro v9 ev9
            have t_26 : (x2 + (1 : Int32)).toInt = x2.toInt + 1 := i_add (x := x2) (y := (1 : Int32)) (by show (_ : Int) ≤ x2.toInt + 1; omega) (by show x2.toInt + 1 ≤ (_ : Int); omega)
            have t_27 : v9.toInt = (x2 + (1 : Int32)).toInt := congrArg Int32.toInt ev9
            have w_28 := Int32.toInt_lt x1
            have w_29 := Int32.le_toInt x1
            exact ih4 x1 v9 σ6 mσ6 fσ6 nσ6_1 (by omega) (by omega) (by omega)
          · intro q_24
            have b_30 : ¬ r7.toInt = 0 := fun h9 => q_24 (Int32.toInt_inj.mp h9)
            intro v10 ev10
            intro v11 ev11
            have t_31 : (x2 + (1 : Int32)).toInt = x2.toInt + 1 := i_add (x := x2) (y := (1 : Int32)) (by show (_ : Int) ≤ x2.toInt + 1; omega) (by show x2.toInt + 1 ≤ (_ : Int); omega)
            have t_32 : v11.toInt = (x2 + (1 : Int32)).toInt := congrArg Int32.toInt ev11
            have w_33 := Int32.toInt_lt v10
            have w_34 := Int32.le_toInt v10
            exact ih4 v10 v11 σ6 mσ6 fσ6 nσ6_1 (by omega) (by omega) (by omega)
  have U4 := T 9
  have f0 : FX (fun id => id = 34 ∨ id = 35 ∨ id = 36 ∨ id = 37 ∨ id = 38 ∨ id = 39 ∨ id = 40 ∨ id = 47 ∨ id = 48) (fun id k => (id = 33 ∧ k = 1) ∨ (id = 33 ∧ k = 3) ∨ (id = 33 ∧ k = 9) ∨ (id = 33 ∧ k = 10) ∨ (id = 33 ∧ k = 11)) σ0 σ0 := FX_rf
  have t_35 := XI_c1 m0 (id := 1) (k := 1) (lim_C0_1 (Or.inl rfl))
  have t_36 := XI_c1 m0 (id := 1) (k := 9) (lim_C0_9 (Or.inl rfl))
  have t_37 := XI_c1 m0 (id := 33) (k := 1) (lim_C0_1 (Or.inr (Or.inr rfl)))
  have t_38 := XI_c1 m0 (id := 33) (k := 9) (lim_C0_9 (Or.inr (Or.inr rfl)))
  refine s_X11_who_0 C hN  ?_
  have z_39 : (0 : Int32).toInt = 0 := rfl
  exact U4 (0 : Int32) (0 : Int32) σ0 m0 f0 nn_1 (by omega) (by omega) (by omega)
set_option maxRecDepth 100000 in
set_option maxHeartbeats 4000000 in
theorem k_X11_lowest {l : Launch} {V : Vx} {a1 : Int32} {a2 : Int32} {a3 : Int32} {σ0 : Sg} {Qk : Int64 → Sg → Prop} (m0 : XI V σ0) (h9ret : ∀ (r : Int64) (σ' : Sg), XI V σ' → FX (fun id => False) (fun _ _ => False) σ0 σ' → Qk r σ') : K_X11_lowest l V a1 a2 a3 σ0 Qk := by
  refine e_X11_lowest (fun M hl hV hN C => ?_)
  subst hl
  subst hV
  have T : ∀ n : Nat, (∀ (x0 : Int32) (x1 : Int32) (x2 : Int32) (x3 : Int32) (x4 : Int32) (x5 : Int32) (σ : Sg), XI (mV M) σ → FX (fun id => False) (fun _ _ => False) σ0 σ → (0 ≤ x5.toInt) → (x5.toInt ≤ 100) → (101 - x5.toInt).toNat + 5 < n → PS M 8 [(0, .int x0), (1, .int x1), (2, .int x2), (3, .int x3), (4, .int x4), (5, .int x5)] [] σ (0, 0)) ∧ (∀ (x0 : Int32) (x1 : Int32) (x2 : Int32) (x3 : Int32) (σ : Sg), XI (mV M) σ → FX (fun id => False) (fun _ _ => False) σ0 σ → 1 < n → PS M 39 [(0, .int x0), (1, .int x1), (2, .int x2), (3, .int x3)] [] σ (0, 0)) := by
    intro n
    induction n with
    | zero => exact ⟨fun _ _ _ _ _ _ _ _ _ _ _ h8 => absurd h8 (Nat.not_lt_zero _), fun _ _ _ _ _ _ _ h8 => absurd h8 (Nat.not_lt_zero _)⟩
    | succ n ih =>
      obtain ⟨ih8, ih39⟩ := ih
      refine ⟨?_, ?_⟩
      · intro x0 x1 x2 x3 x4 x5 σ mσ fσ lx5 ux5 hmu
        refine s_X11_lowest_8 C hN  ?_
        refine ⟨?_, ?_⟩
        · intro q_1
          have b_2 : (100 : Int) ≤ x5.toInt := Int32.le_iff_toInt_le.mp q_1
          have w_3 := Int32.toInt_lt x0
          have w_4 := Int32.le_toInt x0
          have w_5 := Int32.toInt_lt x1
          have w_6 := Int32.le_toInt x1
          have w_7 := Int32.toInt_lt x2
          have w_8 := Int32.le_toInt x2
          have w_9 := Int32.toInt_lt x3
          have w_10 := Int32.le_toInt x3
          exact ih39 x0 x1 x2 x3 σ mσ fσ (by omega)
        · intro q_1
          have b_11 : ¬ (100 : Int) ≤ x5.toInt := fun h9 => q_1 (Int32.le_iff_toInt_le.mpr h9)
          refine ⟨?_, ?_⟩
          · intro q_12
            have w_13 := Int32.toInt_lt x4
            have w_14 := Int32.le_toInt x4
            have b_15 : x4.toInt ≤ 0 := Int32.le_iff_toInt_le.mp q_12
            have w_16 := Int32.toInt_lt x0
            have w_17 := Int32.le_toInt x0
            have w_18 := Int32.toInt_lt x1
            have w_19 := Int32.le_toInt x1
            have w_20 := Int32.toInt_lt x2
            have w_21 := Int32.le_toInt x2
            have w_22 := Int32.toInt_lt x3
            have w_23 := Int32.le_toInt x3
            exact ih39 x0 x1 x2 x3 σ mσ fσ (by omega)
          · intro q_12
            have w_24 := Int32.toInt_lt x4
            have w_25 := Int32.le_toInt x4
            have b_26 : ¬ x4.toInt ≤ 0 := fun h9 => q_12 (Int32.le_iff_toInt_le.mpr h9)
            refine ⟨fun h9 => ?_, ?_⟩
            · have h9 : x4.toInt = 0 := congrArg Int32.toInt h9
              omega
            intro v4 ev4
            intro v5 ev5
            have t_27 : (x5 + (1 : Int32)).toInt = x5.toInt + 1 := i_add (x := x5) (y := (1 : Int32)) (by show (_ : Int) ≤ x5.toInt + 1; omega) (by show x5.toInt + 1 ≤ (_ : Int); omega)
            have t_28 : v5.toInt = (x5 + (1 : Int32)).toInt := congrArg Int32.toInt ev5
            have w_29 := Int32.toInt_lt x0
            have w_30 := Int32.le_toInt x0
            have w_31 := Int32.toInt_lt x1
            have w_32 := Int32.le_toInt x1
            have w_33 := Int32.toInt_lt x2
            have w_34 := Int32.le_toInt x2
            have w_35 := Int32.toInt_lt v4
            have w_36 := Int32.le_toInt v4
            exact ih8 x0 x1 x2 x4 v4 v5 σ mσ fσ (by omega) (by omega) (by omega)
      · intro x0 x1 x2 x3 σ mσ fσ hmu
        refine s_X11_lowest_39 C hN  ?_
        refine ⟨?_, ?_⟩
        · intro q_37
          have w_38 := Int32.toInt_lt x3
          have w_39 := Int32.le_toInt x3
          have b_40 : (1 : Int) ≤ x3.toInt := Int32.le_iff_toInt_le.mp q_37
          refine ⟨?_, ?_⟩
          · intro q_41
            have w_42 := Int32.toInt_lt x2
            have w_43 := Int32.le_toInt x2
            have b_44 : ¬ x2.toInt = 0 := fun h9 => q_41 (Int32.toInt_inj.mp h9)
            refine ⟨fun h9 => ?_, ?_⟩
            · have h9 : x3.toInt = 0 := congrArg Int32.toInt h9
              omega
            exact h9ret ((x1 / x3).toInt64) σ mσ fσ
          · intro q_41
            have w_45 := Int32.toInt_lt x2
            have w_46 := Int32.le_toInt x2
            have b_47 : x2.toInt = 0 := congrArg Int32.toInt q_41
            refine ⟨fun h9 => ?_, ?_⟩
            · have h9 : x3.toInt = 0 := congrArg Int32.toInt h9
              omega
            exact h9ret ((x0 / x3).toInt64) σ mσ fσ
        · intro q_37
          have w_48 := Int32.toInt_lt x3
          have w_49 := Int32.le_toInt x3
          have b_50 : ¬ (1 : Int) ≤ x3.toInt := fun h9 => q_37 (Int32.le_iff_toInt_le.mpr h9)
          exact h9ret (-9223372036854775808 : Int64) σ mσ fσ
  obtain ⟨U8, U39⟩ := T 200
  have f0 : FX (fun id => False) (fun _ _ => False) σ0 σ0 := FX_rf
  refine s_X11_lowest_0 C hN  ?_
  have w_51 := Int32.toInt_lt a1
  have w_52 := Int32.le_toInt a1
  have w_53 := Int32.toInt_lt a2
  have w_54 := Int32.le_toInt a2
  have w_55 := Int32.toInt_lt a3
  have w_56 := Int32.le_toInt a3
  have z_57 : (0 : Int32).toInt = 0 := rfl
  exact U8 a1 a2 a3 a2 a1 (0 : Int32) σ0 m0 f0 (by omega) (by omega) (by omega)
set_option maxRecDepth 100000 in
set_option maxHeartbeats 4000000 in
theorem k_X11_odds {l : Launch} {V : Vx} {a1 : Int32} {a2 : Int32} {a3 : Int32} {σ0 : Sg} {Qk : Int64 → Sg → Prop} (m0 : XI V σ0) (nn_1 : NN σ0 1) (pre0 : (gi σ0 1 9).toInt ≤ 9999) (h9ret : ∀ (r : Int64) (σ' : Sg), XI V σ' → FX (fun id => id = 34 ∨ id = 35 ∨ id = 36 ∨ id = 37 ∨ id = 38 ∨ id = 39 ∨ id = 40 ∨ id = 47 ∨ id = 48) (fun id k => (id = 33 ∧ k = 1) ∨ (id = 33 ∧ k = 3) ∨ (id = 33 ∧ k = 9) ∨ (id = 33 ∧ k = 10) ∨ (id = 33 ∧ k = 11)) σ0 σ' → (NN σ' 1) → Qk r σ') : K_X11_odds l V a1 a2 a3 σ0 Qk := by
  refine e_X11_odds (fun M hl hV hN C => ?_)
  subst hl
  subst hV
  have T : ∀ n : Nat, (∀ (x1 : Int32) (x2 : Int32) (x3 : Int32) (x4 : Int32) (x5 : Int32) (σ : Sg), XI (mV M) σ → FX (fun id => id = 34 ∨ id = 35 ∨ id = 36 ∨ id = 37 ∨ id = 38 ∨ id = 39 ∨ id = 40 ∨ id = 47 ∨ id = 48) (fun id k => (id = 33 ∧ k = 1) ∨ (id = 33 ∧ k = 3) ∨ (id = 33 ∧ k = 9) ∨ (id = 33 ∧ k = 10) ∨ (id = 33 ∧ k = 11)) σ0 σ → NN σ 1 → (1 ≤ x2.toInt) → (x2.toInt ≤ 60) → (0 ≤ x5.toInt) → (x5.toInt ≤ 6) → (7 - x5.toInt).toNat < n → PS M 38 [(0, .ref 0), (1, .int x1), (2, .int x2), (3, .int x3), (4, .int x4), (5, .int x5)] [] σ (0, 0)) := by
    intro n
    induction n with
    | zero => exact fun _ _ _ _ _ _ _ _ _ _ _ _ _ h8 => absurd h8 (Nat.not_lt_zero _)
    | succ n ih =>
      have ih38 := ih
      · intro x1 x2 x3 x4 x5 σ mσ fσ nσ_1 lx2 ux2 lx5 ux5 hmu
        have k_1 : (gi σ 1 1).toInt = (gi σ0 1 1).toInt := congrArg Int32.toInt (FX_i fσ (show ¬ (1 = 34 ∨ 1 = 35 ∨ 1 = 36 ∨ 1 = 37 ∨ 1 = 38 ∨ 1 = 39 ∨ 1 = 40 ∨ 1 = 47 ∨ 1 = 48) from by omega) (show ¬ ((1 = 33 ∧ 1 = 1) ∨ (1 = 33 ∧ 1 = 3) ∨ (1 = 33 ∧ 1 = 9) ∨ (1 = 33 ∧ 1 = 10) ∨ (1 = 33 ∧ 1 = 11)) from by omega))
        have t_2 := XI_c1 mσ (id := 1) (k := 1) (lim_C0_1 (Or.inl rfl))
        have k_3 : (gi σ 1 9).toInt = (gi σ0 1 9).toInt := congrArg Int32.toInt (FX_i fσ (show ¬ (1 = 34 ∨ 1 = 35 ∨ 1 = 36 ∨ 1 = 37 ∨ 1 = 38 ∨ 1 = 39 ∨ 1 = 40 ∨ 1 = 47 ∨ 1 = 48) from by omega) (show ¬ ((1 = 33 ∧ 9 = 1) ∨ (1 = 33 ∧ 9 = 3) ∨ (1 = 33 ∧ 9 = 9) ∨ (1 = 33 ∧ 9 = 10) ∨ (1 = 33 ∧ 9 = 11)) from by omega))
        have t_4 := XI_c1 mσ (id := 1) (k := 9) (lim_C0_9 (Or.inl rfl))
        have t_5 := XI_c1 mσ (id := 33) (k := 1) (lim_C0_1 (Or.inr (Or.inr rfl)))
        have t_6 := XI_c1 mσ (id := 33) (k := 9) (lim_C0_9 (Or.inr (Or.inr rfl)))
        refine s_X11_odds_38 C hN  ?_
        refine ⟨?_, ?_⟩
        · intro q_7
          have b_8 : (gi σ 1 1).toInt ≤ x5.toInt := Int32.le_iff_toInt_le.mp q_7
          refine k_X11_lowest  mσ   (fun r3 σ2 mσ2 cσ2 => ?_)
          obtain rfl := FX_nil cσ2
          exact h9ret r3 σ mσ fσ nσ_1
        · intro q_7
          have b_9 : ¬ (gi σ 1 1).toInt ≤ x5.toInt := fun h9 => q_7 (Int32.le_iff_toInt_le.mpr h9)
          have z_10 : (1 : Int32).toInt = 1 := rfl
          refine k_X1_becomes (Or.inr (Or.inr rfl)) (Or.inl rfl) mσ nσ_1 (by first | omega | assumption | rfl) (fun σ4 mσ4 cσ4 nσ4_1 nσ4_33 (pσ4_0 : (gi σ4 33 1).toInt = (gi σ 1 1).toInt) (pσ4_1 : (gi σ4 33 3).toInt = (gi σ 1 3).toInt) (pσ4_2 : (gi σ4 33 9).toInt = (gi σ 1 9).toInt) (pσ4_3 : CPY σ σ4 33 1) => ?_)
          have fσ4 : FX (fun id => id = 34 ∨ id = 35 ∨ id = 36 ∨ id = 37 ∨ id = 38 ∨ id = 39 ∨ id = 40 ∨ id = 47 ∨ id = 48) (fun id k => (id = 33 ∧ k = 1) ∨ (id = 33 ∧ k = 3) ∨ (id = 33 ∧ k = 9) ∨ (id = 33 ∧ k = 10) ∨ (id = 33 ∧ k = 11)) σ0 σ4 := FX_tr fσ cσ4 (fun x (h9 : x = 34 ∨ x = 35 ∨ x = 36 ∨ x = 37 ∨ x = 38 ∨ x = 39 ∨ x = 40) => h9.elim (fun e9 => (show x = 34 ∨ x = 35 ∨ x = 36 ∨ x = 37 ∨ x = 38 ∨ x = 39 ∨ x = 40 ∨ x = 47 ∨ x = 48 from Or.inl (e9))) (fun h9 => h9.elim (fun e9 => (show x = 34 ∨ x = 35 ∨ x = 36 ∨ x = 37 ∨ x = 38 ∨ x = 39 ∨ x = 40 ∨ x = 47 ∨ x = 48 from Or.inr (Or.inl (e9)))) (fun h9 => h9.elim (fun e9 => (show x = 34 ∨ x = 35 ∨ x = 36 ∨ x = 37 ∨ x = 38 ∨ x = 39 ∨ x = 40 ∨ x = 47 ∨ x = 48 from Or.inr (Or.inr (Or.inl (e9))))) (fun h9 => h9.elim (fun e9 => (show x = 34 ∨ x = 35 ∨ x = 36 ∨ x = 37 ∨ x = 38 ∨ x = 39 ∨ x = 40 ∨ x = 47 ∨ x = 48 from Or.inr (Or.inr (Or.inr (Or.inl (e9)))))) (fun h9 => h9.elim (fun e9 => (show x = 34 ∨ x = 35 ∨ x = 36 ∨ x = 37 ∨ x = 38 ∨ x = 39 ∨ x = 40 ∨ x = 47 ∨ x = 48 from Or.inr (Or.inr (Or.inr (Or.inr (Or.inl (e9))))))) (fun h9 => h9.elim (fun e9 => (show x = 34 ∨ x = 35 ∨ x = 36 ∨ x = 37 ∨ x = 38 ∨ x = 39 ∨ x = 40 ∨ x = 47 ∨ x = 48 from Or.inr (Or.inr (Or.inr (Or.inr (Or.inr (Or.inl (e9)))))))) (fun h9 => (show x = 34 ∨ x = 35 ∨ x = 36 ∨ x = 37 ∨ x = 38 ∨ x = 39 ∨ x = 40 ∨ x = 47 ∨ x = 48 from Or.inr (Or.inr (Or.inr (Or.inr (Or.inr (Or.inr (Or.inl (h9))))))))))))))) (fun x k (h9 : (x = 33 ∧ k = 1) ∨ (x = 33 ∧ k = 3) ∨ (x = 33 ∧ k = 9) ∨ (x = 33 ∧ k = 10) ∨ (x = 33 ∧ k = 11)) => (show (x = 34 ∨ x = 35 ∨ x = 36 ∨ x = 37 ∨ x = 38 ∨ x = 39 ∨ x = 40 ∨ x = 47 ∨ x = 48) ∨ ((x = 33 ∧ k = 1) ∨ (x = 33 ∧ k = 3) ∨ (x = 33 ∧ k = 9) ∨ (x = 33 ∧ k = 10) ∨ (x = 33 ∧ k = 11)) from h9.elim (fun e9 => Or.inr (show (x = 33 ∧ k = 1) ∨ (x = 33 ∧ k = 3) ∨ (x = 33 ∧ k = 9) ∨ (x = 33 ∧ k = 10) ∨ (x = 33 ∧ k = 11) from Or.inl (e9))) (fun h9 => h9.elim (fun e9 => Or.inr (show (x = 33 ∧ k = 1) ∨ (x = 33 ∧ k = 3) ∨ (x = 33 ∧ k = 9) ∨ (x = 33 ∧ k = 10) ∨ (x = 33 ∧ k = 11) from Or.inr (Or.inl (e9)))) (fun h9 => h9.elim (fun e9 => Or.inr (show (x = 33 ∧ k = 1) ∨ (x = 33 ∧ k = 3) ∨ (x = 33 ∧ k = 9) ∨ (x = 33 ∧ k = 10) ∨ (x = 33 ∧ k = 11) from Or.inr (Or.inr (Or.inl (e9))))) (fun h9 => h9.elim (fun e9 => Or.inr (show (x = 33 ∧ k = 1) ∨ (x = 33 ∧ k = 3) ∨ (x = 33 ∧ k = 9) ∨ (x = 33 ∧ k = 10) ∨ (x = 33 ∧ k = 11) from Or.inr (Or.inr (Or.inr (Or.inl (e9)))))) (fun h9 => Or.inr (show (x = 33 ∧ k = 1) ∨ (x = 33 ∧ k = 3) ∨ (x = 33 ∧ k = 9) ∨ (x = 33 ∧ k = 10) ∨ (x = 33 ∧ k = 11) from Or.inr (Or.inr (Or.inr (Or.inr (h9)))))))))))
          have k_11 : (gi σ4 1 1).toInt = (gi σ 1 1).toInt := congrArg Int32.toInt (FX_i cσ4 (show ¬ (1 = 34 ∨ 1 = 35 ∨ 1 = 36 ∨ 1 = 37 ∨ 1 = 38 ∨ 1 = 39 ∨ 1 = 40) from by omega) (show ¬ ((1 = 33 ∧ 1 = 1) ∨ (1 = 33 ∧ 1 = 3) ∨ (1 = 33 ∧ 1 = 9) ∨ (1 = 33 ∧ 1 = 10) ∨ (1 = 33 ∧ 1 = 11)) from by omega))
          have k_12 : (gi σ4 1 9).toInt = (gi σ 1 9).toInt := congrArg Int32.toInt (FX_i cσ4 (show ¬ (1 = 34 ∨ 1 = 35 ∨ 1 = 36 ∨ 1 = 37 ∨ 1 = 38 ∨ 1 = 39 ∨ 1 = 40) from by omega) (show ¬ ((1 = 33 ∧ 9 = 1) ∨ (1 = 33 ∧ 9 = 3) ∨ (1 = 33 ∧ 9 = 9) ∨ (1 = 33 ∧ 9 = 10) ∨ (1 = 33 ∧ 9 = 11)) from by omega))
          have t_13 := XI_c1 mσ4 (id := 33) (k := 1) (lim_C0_1 (Or.inr (Or.inr rfl)))
          have t_14 := XI_c1 mσ4 (id := 33) (k := 9) (lim_C0_9 (Or.inr (Or.inr rfl)))
          have hv_15 : vp_in x5 6 := vp_in_iff.mpr ⟨by omega, by omega⟩
          refine ⟨hv_15, ?_⟩
          refine ⟨hv_15, ?_⟩
          intro σ7 eσ7
          have mσ7 : XI (mV M) σ7 := by rw [eσ7]; exact XIs_n mσ4 (lim_C6 (Or.inr (Or.inr rfl)) _)
          have fσ7 : FX (fun id => id = 34 ∨ id = 35 ∨ id = 36 ∨ id = 37 ∨ id = 38 ∨ id = 39 ∨ id = 40 ∨ id = 47 ∨ id = 48) (fun id k => (id = 33 ∧ k = 1) ∨ (id = 33 ∧ k = 3) ∨ (id = 33 ∧ k = 9) ∨ (id = 33 ∧ k = 10) ∨ (id = 33 ∧ k = 11)) σ0 σ7 := by rw [eσ7]; exact FX_si fσ4 (Or.inl (show 39 = 34 ∨ 39 = 35 ∨ 39 = 36 ∨ 39 = 37 ∨ 39 = 38 ∨ 39 = 39 ∨ 39 = 40 ∨ 39 = 47 ∨ 39 = 48 from Or.inr (Or.inr (Or.inr (Or.inr (Or.inr (Or.inl (rfl))))))))
          have k_16 : (gi σ7 1 1).toInt = (gi σ4 1 1).toInt := by rw [eσ7]; exact congrArg Int32.toInt (gi_si_ne (Or.inl (by omega)))
          have k_17 : (gi σ7 1 9).toInt = (gi σ4 1 9).toInt := by rw [eσ7]; exact congrArg Int32.toInt (gi_si_ne (Or.inl (by omega)))
          have k_18 : (gi σ7 33 1).toInt = (gi σ4 33 1).toInt := by rw [eσ7]; exact congrArg Int32.toInt (gi_si_ne (Or.inl (by omega)))
          have k_19 : (gi σ7 33 9).toInt = (gi σ4 33 9).toInt := by rw [eσ7]; exact congrArg Int32.toInt (gi_si_ne (Or.inl (by omega)))
          have nσ7_1 : NN σ7 1 := by rw [eσ7]; exact NN_si nσ4_1 (by omega) (fun h9 => absurd h9 (by omega))
          have nσ7_33 : NN σ7 33 := by rw [eσ7]; exact NN_si nσ4_33 (by omega) (fun h9 => absurd h9 (by omega))
          refine k_X11_heldTimes  mσ7 nσ7_33 (by omega) (by omega) (by first | omega | assumption | rfl) (fun r9 σ8 mσ8 cσ8 nσ8_33 => ?_)
          have fσ8 : FX (fun id => id = 34 ∨ id = 35 ∨ id = 36 ∨ id = 37 ∨ id = 38 ∨ id = 39 ∨ id = 40 ∨ id = 47 ∨ id = 48) (fun id k => (id = 33 ∧ k = 1) ∨ (id = 33 ∧ k = 3) ∨ (id = 33 ∧ k = 9) ∨ (id = 33 ∧ k = 10) ∨ (id = 33 ∧ k = 11)) σ0 σ8 := FX_tr fσ7 cσ8 (fun x (h9 : x = 36 ∨ x = 37 ∨ x = 38 ∨ x = 39 ∨ x = 47 ∨ x = 48) => h9.elim (fun e9 => (show x = 34 ∨ x = 35 ∨ x = 36 ∨ x = 37 ∨ x = 38 ∨ x = 39 ∨ x = 40 ∨ x = 47 ∨ x = 48 from Or.inr (Or.inr (Or.inl (e9))))) (fun h9 => h9.elim (fun e9 => (show x = 34 ∨ x = 35 ∨ x = 36 ∨ x = 37 ∨ x = 38 ∨ x = 39 ∨ x = 40 ∨ x = 47 ∨ x = 48 from Or.inr (Or.inr (Or.inr (Or.inl (e9)))))) (fun h9 => h9.elim (fun e9 => (show x = 34 ∨ x = 35 ∨ x = 36 ∨ x = 37 ∨ x = 38 ∨ x = 39 ∨ x = 40 ∨ x = 47 ∨ x = 48 from Or.inr (Or.inr (Or.inr (Or.inr (Or.inl (e9))))))) (fun h9 => h9.elim (fun e9 => (show x = 34 ∨ x = 35 ∨ x = 36 ∨ x = 37 ∨ x = 38 ∨ x = 39 ∨ x = 40 ∨ x = 47 ∨ x = 48 from Or.inr (Or.inr (Or.inr (Or.inr (Or.inr (Or.inl (e9)))))))) (fun h9 => h9.elim (fun e9 => (show x = 34 ∨ x = 35 ∨ x = 36 ∨ x = 37 ∨ x = 38 ∨ x = 39 ∨ x = 40 ∨ x = 47 ∨ x = 48 from Or.inr (Or.inr (Or.inr (Or.inr (Or.inr (Or.inr (Or.inr (Or.inl (e9)))))))))) (fun h9 => (show x = 34 ∨ x = 35 ∨ x = 36 ∨ x = 37 ∨ x = 38 ∨ x = 39 ∨ x = 40 ∨ x = 47 ∨ x = 48 from Or.inr (Or.inr (Or.inr (Or.inr (Or.inr (Or.inr (Or.inr (Or.inr (h9))))))))))))))) (fun x k (h9 : (x = 33 ∧ k = 9)) => (show (x = 34 ∨ x = 35 ∨ x = 36 ∨ x = 37 ∨ x = 38 ∨ x = 39 ∨ x = 40 ∨ x = 47 ∨ x = 48) ∨ ((x = 33 ∧ k = 1) ∨ (x = 33 ∧ k = 3) ∨ (x = 33 ∧ k = 9) ∨ (x = 33 ∧ k = 10) ∨ (x = 33 ∧ k = 11)) from Or.inr (show (x = 33 ∧ k = 1) ∨ (x = 33 ∧ k = 3) ∨ (x = 33 ∧ k = 9) ∨ (x = 33 ∧ k = 10) ∨ (x = 33 ∧ k = 11) from Or.inr (Or.inr (Or.inl (h9))))))
          have k_20 : (gi σ8 1 1).toInt = (gi σ7 1 1).toInt := congrArg Int32.toInt (FX_i cσ8 (show ¬ (1 = 36 ∨ 1 = 37 ∨ 1 = 38 ∨ 1 = 39 ∨ 1 = 47 ∨ 1 = 48) from by omega) (show ¬ ((1 = 33 ∧ 1 = 9)) from by omega))
          have k_21 : (gi σ8 1 9).toInt = (gi σ7 1 9).toInt := congrArg Int32.toInt (FX_i cσ8 (show ¬ (1 = 36 ∨ 1 = 37 ∨ 1 = 38 ∨ 1 = 39 ∨ 1 = 47 ∨ 1 = 48) from by omega) (show ¬ ((1 = 33 ∧ 9 = 9)) from by omega))
          have k_22 : (gi σ8 33 1).toInt = (gi σ7 33 1).toInt := congrArg Int32.toInt (FX_i cσ8 (show ¬ (33 = 36 ∨ 33 = 37 ∨ 33 = 38 ∨ 33 = 39 ∨ 33 = 47 ∨ 33 = 48) from by omega) (show ¬ ((33 = 33 ∧ 1 = 9)) from by omega))
          have t_23 := XI_c1 mσ8 (id := 33) (k := 9) (lim_C0_9 (Or.inr (Or.inr rfl)))
          have nσ8_1 : NN σ8 1 := NN_fx nσ7_1 cσ8 (show ¬ (1 = 36 ∨ 1 = 37 ∨ 1 = 38 ∨ 1 = 39 ∨ 1 = 47 ∨ 1 = 48) from by omega) (show ¬ (2 = 36 ∨ 2 = 37 ∨ 2 = 38 ∨ 2 = 39 ∨ 2 = 47 ∨ 2 = 48) from by omega) (show ¬ (3 = 36 ∨ 3 = 37 ∨ 3 = 38 ∨ 3 = 39 ∨ 3 = 47 ∨ 3 = 48) from by omega) (show ¬ ((1 = 33 ∧ 1 = 9)) from by omega) (show ¬ ((1 = 33 ∧ 3 = 9)) from by omega) (fun k (h9 : (2 = 33 ∧ k = 9)) => by omega) (fun k (h9 : (3 = 33 ∧ k = 9)) => by omega)
          refine ⟨?_, ?_⟩
          · intro q_24
            have w_25 := Int32.toInt_lt r9
            have w_26 := Int32.le_toInt r9
            have b_27 : r9.toInt ≤ 0 := Int32.le_iff_toInt_le.mp q_24
            intro v11 ev11
            have t_28 : (x5 + (1 : Int32)).toInt = x5.toInt + 1 := i_add (x := x5) (y := (1 : Int32)) (by show (_ : Int) ≤ x5.toInt + 1; omega) (by show x5.toInt + 1 ≤ (_ : Int); omega)
            have t_29 : v11.toInt = (x5 + (1 : Int32)).toInt := congrArg Int32.toInt ev11
            have w_30 := Int32.toInt_lt x1
            have w_31 := Int32.le_toInt x1
            have w_32 := Int32.toInt_lt x3
            have w_33 := Int32.le_toInt x3
            have w_34 := Int32.toInt_lt x4
            have w_35 := Int32.le_toInt x4
            exact ih38 x1 x2 x3 x4 v11 σ8 mσ8 fσ8 nσ8_1 (by omega) (by omega) (by omega) (by omega) (by omega)
          · intro q_24
            have w_36 := Int32.toInt_lt r9
            have w_37 := Int32.le_toInt r9
            have b_38 : ¬ r9.toInt ≤ 0 := fun h9 => q_24 (Int32.le_iff_toInt_le.mpr h9)
            intro v12 ev12
            intro v13 ev13
            have t_39 : (x5 + (1 : Int32)).toInt = x5.toInt + 1 := i_add (x := x5) (y := (1 : Int32)) (by show (_ : Int) ≤ x5.toInt + 1; omega) (by show x5.toInt + 1 ≤ (_ : Int); omega)
            have t_40 : v13.toInt = (x5 + (1 : Int32)).toInt := congrArg Int32.toInt ev13
            have w_41 := Int32.toInt_lt x1
            have w_42 := Int32.le_toInt x1
            have w_43 := Int32.toInt_lt x3
            have w_44 := Int32.le_toInt x3
            have w_45 := Int32.toInt_lt v12
            have w_46 := Int32.le_toInt v12
            exact ih38 x1 x2 x3 v12 v13 σ8 mσ8 fσ8 nσ8_1 (by omega) (by omega) (by omega) (by omega) (by omega)
  have U38 := T 9
  have f0 : FX (fun id => id = 34 ∨ id = 35 ∨ id = 36 ∨ id = 37 ∨ id = 38 ∨ id = 39 ∨ id = 40 ∨ id = 47 ∨ id = 48) (fun id k => (id = 33 ∧ k = 1) ∨ (id = 33 ∧ k = 3) ∨ (id = 33 ∧ k = 9) ∨ (id = 33 ∧ k = 10) ∨ (id = 33 ∧ k = 11)) σ0 σ0 := FX_rf
  have t_47 := XI_c1 m0 (id := 1) (k := 1) (lim_C0_1 (Or.inl rfl))
  have t_48 := XI_c1 m0 (id := 1) (k := 9) (lim_C0_9 (Or.inl rfl))
  have t_49 := XI_c1 m0 (id := 33) (k := 1) (lim_C0_1 (Or.inr (Or.inr rfl)))
  have t_50 := XI_c1 m0 (id := 33) (k := 9) (lim_C0_9 (Or.inr (Or.inr rfl)))
  refine s_X11_odds_0 C hN  ?_
  refine k_X11_isMower  m0   (fun r2 σ1 mσ1 cσ1 plσ1 phσ1 (pσ1_0 : (r2.toInt = 1 ∧ 0 ≤ a1.toInt ∧ a1.toInt < (gi σ0 1 1).toInt) ∨ (r2.toInt = 0 ∧ (a1.toInt < 0 ∨ (gi σ0 1 1).toInt ≤ a1.toInt))) => ?_)
  obtain rfl := FX_nil cσ1
  refine ⟨?_, ?_⟩
  · intro q_51
    have b_52 : r2.toInt = 0 := congrArg Int32.toInt q_51
    exact h9ret (-9223372036854775808 : Int64) σ0 m0 f0 nn_1
  · intro q_51
    have b_53 : ¬ r2.toInt = 0 := fun h9 => q_51 (Int32.toInt_inj.mp h9)
    refine ⟨?_, ?_⟩
    · intro q_54
      have w_55 := Int32.toInt_lt a2
      have w_56 := Int32.le_toInt a2
      have b_57 : a2.toInt < 1 := Int32.lt_iff_toInt_lt.mp q_54
      exact h9ret (-9223372036854775808 : Int64) σ0 m0 f0 nn_1
    · intro q_54
      have w_58 := Int32.toInt_lt a2
      have w_59 := Int32.le_toInt a2
      have b_60 : ¬ a2.toInt < 1 := fun h9 => q_54 (Int32.lt_iff_toInt_lt.mpr h9)
      refine ⟨?_, ?_⟩
      · intro q_61
        have b_62 : (60 : Int) < a2.toInt := Int32.lt_iff_toInt_lt.mp q_61
        exact h9ret (-9223372036854775808 : Int64) σ0 m0 f0 nn_1
      · intro q_61
        have b_63 : ¬ (60 : Int) < a2.toInt := fun h9 => q_61 (Int32.lt_iff_toInt_lt.mpr h9)
        refine ⟨?_, ?_⟩
        · intro q_64
          have w_65 := Int32.toInt_lt a3
          have w_66 := Int32.le_toInt a3
          have b_67 : a3.toInt = 0 := congrArg Int32.toInt q_64
          have w_68 := Int32.toInt_lt a1
          have w_69 := Int32.le_toInt a1
          have z_70 : (0 : Int32).toInt = 0 := rfl
          exact U38 a1 a2 a3 (0 : Int32) (0 : Int32) σ0 m0 f0 nn_1 (by omega) (by omega) (by omega) (by omega) (by omega)
        · intro q_64
          have w_71 := Int32.toInt_lt a3
          have w_72 := Int32.le_toInt a3
          have b_73 : ¬ a3.toInt = 0 := fun h9 => q_64 (Int32.toInt_inj.mp h9)
          refine ⟨?_, ?_⟩
          · intro q_74
            have b_75 : a3.toInt = 1 := congrArg Int32.toInt q_74
            have w_76 := Int32.toInt_lt a1
            have w_77 := Int32.le_toInt a1
            have z_78 : (0 : Int32).toInt = 0 := rfl
            exact U38 a1 a2 a3 (0 : Int32) (0 : Int32) σ0 m0 f0 nn_1 (by omega) (by omega) (by omega) (by omega) (by omega)
          · intro q_74
            have b_79 : ¬ a3.toInt = 1 := fun h9 => q_74 (Int32.toInt_inj.mp h9)
            exact h9ret (-9223372036854775808 : Int64) σ0 m0 f0 nn_1
set_option maxRecDepth 100000 in
set_option maxHeartbeats 4000000 in
theorem k_X11_mean {l : Launch} {V : Vx} {a1 : Int32} {a2 : Int32} {σ0 : Sg} {Qk : Int64 → Sg → Prop} (m0 : XI V σ0) (nn_1 : NN σ0 1) (pre0 : (gi σ0 1 9).toInt ≤ 9999) (h9ret : ∀ (r : Int64) (σ' : Sg), XI V σ' → FX (fun id => id = 34 ∨ id = 35 ∨ id = 36 ∨ id = 37 ∨ id = 38 ∨ id = 39 ∨ id = 40 ∨ id = 47 ∨ id = 48) (fun id k => (id = 33 ∧ k = 1) ∨ (id = 33 ∧ k = 3) ∨ (id = 33 ∧ k = 9) ∨ (id = 33 ∧ k = 10) ∨ (id = 33 ∧ k = 11)) σ0 σ' → (NN σ' 1) → Qk r σ') : K_X11_mean l V a1 a2 σ0 Qk := by
  refine e_X11_mean (fun M hl hV hN C => ?_)
  subst hl
  subst hV
  have T : ∀ n : Nat, (∀ (x1 : Int32) (x2 : Int32) (σ : Sg), XI (mV M) σ → FX (fun id => id = 34 ∨ id = 35 ∨ id = 36 ∨ id = 37 ∨ id = 38 ∨ id = 39 ∨ id = 40 ∨ id = 47 ∨ id = 48) (fun id k => (id = 33 ∧ k = 1) ∨ (id = 33 ∧ k = 3) ∨ (id = 33 ∧ k = 9) ∨ (id = 33 ∧ k = 10) ∨ (id = 33 ∧ k = 11)) σ0 σ → NN σ 1 → (1 ≤ x1.toInt) → (x1.toInt ≤ 60) → 1 < n → PS M 34 [(0, .ref 0), (1, .int x1), (2, .int x2)] [] σ (0, 0)) := by
    intro n
    induction n with
    | zero => exact fun _ _ _ _ _ _ _ _ h8 => absurd h8 (Nat.not_lt_zero _)
    | succ n ih =>
      have ih34 := ih
      · intro x1 x2 σ mσ fσ nσ_1 lx1 ux1 hmu
        have k_1 : (gi σ 1 1).toInt = (gi σ0 1 1).toInt := congrArg Int32.toInt (FX_i fσ (show ¬ (1 = 34 ∨ 1 = 35 ∨ 1 = 36 ∨ 1 = 37 ∨ 1 = 38 ∨ 1 = 39 ∨ 1 = 40 ∨ 1 = 47 ∨ 1 = 48) from by omega) (show ¬ ((1 = 33 ∧ 1 = 1) ∨ (1 = 33 ∧ 1 = 3) ∨ (1 = 33 ∧ 1 = 9) ∨ (1 = 33 ∧ 1 = 10) ∨ (1 = 33 ∧ 1 = 11)) from by omega))
        have t_2 := XI_c1 mσ (id := 1) (k := 1) (lim_C0_1 (Or.inl rfl))
        have k_3 : (gi σ 1 9).toInt = (gi σ0 1 9).toInt := congrArg Int32.toInt (FX_i fσ (show ¬ (1 = 34 ∨ 1 = 35 ∨ 1 = 36 ∨ 1 = 37 ∨ 1 = 38 ∨ 1 = 39 ∨ 1 = 40 ∨ 1 = 47 ∨ 1 = 48) from by omega) (show ¬ ((1 = 33 ∧ 9 = 1) ∨ (1 = 33 ∧ 9 = 3) ∨ (1 = 33 ∧ 9 = 9) ∨ (1 = 33 ∧ 9 = 10) ∨ (1 = 33 ∧ 9 = 11)) from by omega))
        have t_4 := XI_c1 mσ (id := 1) (k := 9) (lim_C0_9 (Or.inl rfl))
        refine s_X11_mean_34 C hN  ?_
        have z_5 : (1 : Int32).toInt = 1 := rfl
        refine k_X1_becomes (Or.inr (Or.inr rfl)) (Or.inl rfl) mσ nσ_1 (by first | omega | assumption | rfl) (fun σ1 mσ1 cσ1 nσ1_1 nσ1_33 (pσ1_0 : (gi σ1 33 1).toInt = (gi σ 1 1).toInt) (pσ1_1 : (gi σ1 33 3).toInt = (gi σ 1 3).toInt) (pσ1_2 : (gi σ1 33 9).toInt = (gi σ 1 9).toInt) (pσ1_3 : CPY σ σ1 33 1) => ?_)
        have fσ1 : FX (fun id => id = 34 ∨ id = 35 ∨ id = 36 ∨ id = 37 ∨ id = 38 ∨ id = 39 ∨ id = 40 ∨ id = 47 ∨ id = 48) (fun id k => (id = 33 ∧ k = 1) ∨ (id = 33 ∧ k = 3) ∨ (id = 33 ∧ k = 9) ∨ (id = 33 ∧ k = 10) ∨ (id = 33 ∧ k = 11)) σ0 σ1 := FX_tr fσ cσ1 (fun x (h9 : x = 34 ∨ x = 35 ∨ x = 36 ∨ x = 37 ∨ x = 38 ∨ x = 39 ∨ x = 40) => h9.elim (fun e9 => (show x = 34 ∨ x = 35 ∨ x = 36 ∨ x = 37 ∨ x = 38 ∨ x = 39 ∨ x = 40 ∨ x = 47 ∨ x = 48 from Or.inl (e9))) (fun h9 => h9.elim (fun e9 => (show x = 34 ∨ x = 35 ∨ x = 36 ∨ x = 37 ∨ x = 38 ∨ x = 39 ∨ x = 40 ∨ x = 47 ∨ x = 48 from Or.inr (Or.inl (e9)))) (fun h9 => h9.elim (fun e9 => (show x = 34 ∨ x = 35 ∨ x = 36 ∨ x = 37 ∨ x = 38 ∨ x = 39 ∨ x = 40 ∨ x = 47 ∨ x = 48 from Or.inr (Or.inr (Or.inl (e9))))) (fun h9 => h9.elim (fun e9 => (show x = 34 ∨ x = 35 ∨ x = 36 ∨ x = 37 ∨ x = 38 ∨ x = 39 ∨ x = 40 ∨ x = 47 ∨ x = 48 from Or.inr (Or.inr (Or.inr (Or.inl (e9)))))) (fun h9 => h9.elim (fun e9 => (show x = 34 ∨ x = 35 ∨ x = 36 ∨ x = 37 ∨ x = 38 ∨ x = 39 ∨ x = 40 ∨ x = 47 ∨ x = 48 from Or.inr (Or.inr (Or.inr (Or.inr (Or.inl (e9))))))) (fun h9 => h9.elim (fun e9 => (show x = 34 ∨ x = 35 ∨ x = 36 ∨ x = 37 ∨ x = 38 ∨ x = 39 ∨ x = 40 ∨ x = 47 ∨ x = 48 from Or.inr (Or.inr (Or.inr (Or.inr (Or.inr (Or.inl (e9)))))))) (fun h9 => (show x = 34 ∨ x = 35 ∨ x = 36 ∨ x = 37 ∨ x = 38 ∨ x = 39 ∨ x = 40 ∨ x = 47 ∨ x = 48 from Or.inr (Or.inr (Or.inr (Or.inr (Or.inr (Or.inr (Or.inl (h9))))))))))))))) (fun x k (h9 : (x = 33 ∧ k = 1) ∨ (x = 33 ∧ k = 3) ∨ (x = 33 ∧ k = 9) ∨ (x = 33 ∧ k = 10) ∨ (x = 33 ∧ k = 11)) => (show (x = 34 ∨ x = 35 ∨ x = 36 ∨ x = 37 ∨ x = 38 ∨ x = 39 ∨ x = 40 ∨ x = 47 ∨ x = 48) ∨ ((x = 33 ∧ k = 1) ∨ (x = 33 ∧ k = 3) ∨ (x = 33 ∧ k = 9) ∨ (x = 33 ∧ k = 10) ∨ (x = 33 ∧ k = 11)) from h9.elim (fun e9 => Or.inr (show (x = 33 ∧ k = 1) ∨ (x = 33 ∧ k = 3) ∨ (x = 33 ∧ k = 9) ∨ (x = 33 ∧ k = 10) ∨ (x = 33 ∧ k = 11) from Or.inl (e9))) (fun h9 => h9.elim (fun e9 => Or.inr (show (x = 33 ∧ k = 1) ∨ (x = 33 ∧ k = 3) ∨ (x = 33 ∧ k = 9) ∨ (x = 33 ∧ k = 10) ∨ (x = 33 ∧ k = 11) from Or.inr (Or.inl (e9)))) (fun h9 => h9.elim (fun e9 => Or.inr (show (x = 33 ∧ k = 1) ∨ (x = 33 ∧ k = 3) ∨ (x = 33 ∧ k = 9) ∨ (x = 33 ∧ k = 10) ∨ (x = 33 ∧ k = 11) from Or.inr (Or.inr (Or.inl (e9))))) (fun h9 => h9.elim (fun e9 => Or.inr (show (x = 33 ∧ k = 1) ∨ (x = 33 ∧ k = 3) ∨ (x = 33 ∧ k = 9) ∨ (x = 33 ∧ k = 10) ∨ (x = 33 ∧ k = 11) from Or.inr (Or.inr (Or.inr (Or.inl (e9)))))) (fun h9 => Or.inr (show (x = 33 ∧ k = 1) ∨ (x = 33 ∧ k = 3) ∨ (x = 33 ∧ k = 9) ∨ (x = 33 ∧ k = 10) ∨ (x = 33 ∧ k = 11) from Or.inr (Or.inr (Or.inr (Or.inr (h9)))))))))))
        have k_6 : (gi σ1 1 1).toInt = (gi σ 1 1).toInt := congrArg Int32.toInt (FX_i cσ1 (show ¬ (1 = 34 ∨ 1 = 35 ∨ 1 = 36 ∨ 1 = 37 ∨ 1 = 38 ∨ 1 = 39 ∨ 1 = 40) from by omega) (show ¬ ((1 = 33 ∧ 1 = 1) ∨ (1 = 33 ∧ 1 = 3) ∨ (1 = 33 ∧ 1 = 9) ∨ (1 = 33 ∧ 1 = 10) ∨ (1 = 33 ∧ 1 = 11)) from by omega))
        have k_7 : (gi σ1 1 9).toInt = (gi σ 1 9).toInt := congrArg Int32.toInt (FX_i cσ1 (show ¬ (1 = 34 ∨ 1 = 35 ∨ 1 = 36 ∨ 1 = 37 ∨ 1 = 38 ∨ 1 = 39 ∨ 1 = 40) from by omega) (show ¬ ((1 = 33 ∧ 9 = 1) ∨ (1 = 33 ∧ 9 = 3) ∨ (1 = 33 ∧ 9 = 9) ∨ (1 = 33 ∧ 9 = 10) ∨ (1 = 33 ∧ 9 = 11)) from by omega))
        refine k_X1_goes (Or.inr (Or.inr rfl)) mσ1 nσ1_33 (by omega) (by omega) (by first | omega | assumption | rfl) (fun σ2 mσ2 cσ2 nσ2_33 (pσ2_0 : (gi σ2 33 9).toInt = (gi σ1 33 9).toInt + x1.toInt) => ?_)
        have fσ2 : FX (fun id => id = 34 ∨ id = 35 ∨ id = 36 ∨ id = 37 ∨ id = 38 ∨ id = 39 ∨ id = 40 ∨ id = 47 ∨ id = 48) (fun id k => (id = 33 ∧ k = 1) ∨ (id = 33 ∧ k = 3) ∨ (id = 33 ∧ k = 9) ∨ (id = 33 ∧ k = 10) ∨ (id = 33 ∧ k = 11)) σ0 σ2 := FX_tr fσ1 cσ2 (fun x (h9 : x = 47 ∨ x = 48 ∨ x = 36 ∨ x = 37 ∨ x = 38 ∨ x = 39) => h9.elim (fun e9 => (show x = 34 ∨ x = 35 ∨ x = 36 ∨ x = 37 ∨ x = 38 ∨ x = 39 ∨ x = 40 ∨ x = 47 ∨ x = 48 from Or.inr (Or.inr (Or.inr (Or.inr (Or.inr (Or.inr (Or.inr (Or.inl (e9)))))))))) (fun h9 => h9.elim (fun e9 => (show x = 34 ∨ x = 35 ∨ x = 36 ∨ x = 37 ∨ x = 38 ∨ x = 39 ∨ x = 40 ∨ x = 47 ∨ x = 48 from Or.inr (Or.inr (Or.inr (Or.inr (Or.inr (Or.inr (Or.inr (Or.inr (e9)))))))))) (fun h9 => h9.elim (fun e9 => (show x = 34 ∨ x = 35 ∨ x = 36 ∨ x = 37 ∨ x = 38 ∨ x = 39 ∨ x = 40 ∨ x = 47 ∨ x = 48 from Or.inr (Or.inr (Or.inl (e9))))) (fun h9 => h9.elim (fun e9 => (show x = 34 ∨ x = 35 ∨ x = 36 ∨ x = 37 ∨ x = 38 ∨ x = 39 ∨ x = 40 ∨ x = 47 ∨ x = 48 from Or.inr (Or.inr (Or.inr (Or.inl (e9)))))) (fun h9 => h9.elim (fun e9 => (show x = 34 ∨ x = 35 ∨ x = 36 ∨ x = 37 ∨ x = 38 ∨ x = 39 ∨ x = 40 ∨ x = 47 ∨ x = 48 from Or.inr (Or.inr (Or.inr (Or.inr (Or.inl (e9))))))) (fun h9 => (show x = 34 ∨ x = 35 ∨ x = 36 ∨ x = 37 ∨ x = 38 ∨ x = 39 ∨ x = 40 ∨ x = 47 ∨ x = 48 from Or.inr (Or.inr (Or.inr (Or.inr (Or.inr (Or.inl (h9))))))))))))) (fun x k (h9 : (x = 33 ∧ k = 9)) => (show (x = 34 ∨ x = 35 ∨ x = 36 ∨ x = 37 ∨ x = 38 ∨ x = 39 ∨ x = 40 ∨ x = 47 ∨ x = 48) ∨ ((x = 33 ∧ k = 1) ∨ (x = 33 ∧ k = 3) ∨ (x = 33 ∧ k = 9) ∨ (x = 33 ∧ k = 10) ∨ (x = 33 ∧ k = 11)) from Or.inr (show (x = 33 ∧ k = 1) ∨ (x = 33 ∧ k = 3) ∨ (x = 33 ∧ k = 9) ∨ (x = 33 ∧ k = 10) ∨ (x = 33 ∧ k = 11) from Or.inr (Or.inr (Or.inl (h9))))))
        have k_8 : (gi σ2 1 1).toInt = (gi σ1 1 1).toInt := congrArg Int32.toInt (FX_i cσ2 (show ¬ (1 = 47 ∨ 1 = 48 ∨ 1 = 36 ∨ 1 = 37 ∨ 1 = 38 ∨ 1 = 39) from by omega) (show ¬ ((1 = 33 ∧ 1 = 9)) from by omega))
        have k_9 : (gi σ2 1 9).toInt = (gi σ1 1 9).toInt := congrArg Int32.toInt (FX_i cσ2 (show ¬ (1 = 47 ∨ 1 = 48 ∨ 1 = 36 ∨ 1 = 37 ∨ 1 = 38 ∨ 1 = 39) from by omega) (show ¬ ((1 = 33 ∧ 9 = 9)) from by omega))
        have nσ2_1 : NN σ2 1 := NN_fx nσ1_1 cσ2 (show ¬ (1 = 47 ∨ 1 = 48 ∨ 1 = 36 ∨ 1 = 37 ∨ 1 = 38 ∨ 1 = 39) from by omega) (show ¬ (2 = 47 ∨ 2 = 48 ∨ 2 = 36 ∨ 2 = 37 ∨ 2 = 38 ∨ 2 = 39) from by omega) (show ¬ (3 = 47 ∨ 3 = 48 ∨ 3 = 36 ∨ 3 = 37 ∨ 3 = 38 ∨ 3 = 39) from by omega) (show ¬ ((1 = 33 ∧ 1 = 9)) from by omega) (show ¬ ((1 = 33 ∧ 3 = 9)) from by omega) (fun k (h9 : (2 = 33 ∧ k = 9)) => by omega) (fun k (h9 : (3 = 33 ∧ k = 9)) => by omega)
        refine k_X1_allAt (Or.inr (Or.inr rfl)) mσ2   (fun r4 σ3 mσ3 cσ3 => ?_)
        obtain rfl := FX_nil cσ3
        have t_10 := XI_c1 mσ2 (id := 1) (k := 1) (lim_C0_1 (Or.inl rfl))
        have t_11 := XI_c1 mσ2 (id := 1) (k := 9) (lim_C0_9 (Or.inl rfl))
        refine k_X11_lowest  mσ2   (fun r6 σ5 mσ5 cσ5 => ?_)
        obtain rfl := FX_nil cσ5
        exact h9ret r6 σ2 mσ2 fσ2 nσ2_1
  have U34 := T 9
  have f0 : FX (fun id => id = 34 ∨ id = 35 ∨ id = 36 ∨ id = 37 ∨ id = 38 ∨ id = 39 ∨ id = 40 ∨ id = 47 ∨ id = 48) (fun id k => (id = 33 ∧ k = 1) ∨ (id = 33 ∧ k = 3) ∨ (id = 33 ∧ k = 9) ∨ (id = 33 ∧ k = 10) ∨ (id = 33 ∧ k = 11)) σ0 σ0 := FX_rf
  have t_12 := XI_c1 m0 (id := 1) (k := 1) (lim_C0_1 (Or.inl rfl))
  have t_13 := XI_c1 m0 (id := 1) (k := 9) (lim_C0_9 (Or.inl rfl))
  refine s_X11_mean_0 C hN  ?_
  refine ⟨?_, ?_⟩
  · intro q_14
    have b_15 : (gi σ0 1 1).toInt = 0 := congrArg Int32.toInt q_14
    exact h9ret (-9223372036854775808 : Int64) σ0 m0 f0 nn_1
  · intro q_14
    have b_16 : ¬ (gi σ0 1 1).toInt = 0 := fun h9 => q_14 (Int32.toInt_inj.mp h9)
    refine ⟨?_, ?_⟩
    · intro q_17
      have w_18 := Int32.toInt_lt a1
      have w_19 := Int32.le_toInt a1
      have b_20 : a1.toInt < 1 := Int32.lt_iff_toInt_lt.mp q_17
      exact h9ret (-9223372036854775808 : Int64) σ0 m0 f0 nn_1
    · intro q_17
      have w_21 := Int32.toInt_lt a1
      have w_22 := Int32.le_toInt a1
      have b_23 : ¬ a1.toInt < 1 := fun h9 => q_17 (Int32.lt_iff_toInt_lt.mpr h9)
      refine ⟨?_, ?_⟩
      · intro q_24
        have b_25 : (60 : Int) < a1.toInt := Int32.lt_iff_toInt_lt.mp q_24
        exact h9ret (-9223372036854775808 : Int64) σ0 m0 f0 nn_1
      · intro q_24
        have b_26 : ¬ (60 : Int) < a1.toInt := fun h9 => q_24 (Int32.lt_iff_toInt_lt.mpr h9)
        refine ⟨?_, ?_⟩
        · intro q_27
          have w_28 := Int32.toInt_lt a2
          have w_29 := Int32.le_toInt a2
          have b_30 : a2.toInt = 0 := congrArg Int32.toInt q_27
          exact U34 a1 a2 σ0 m0 f0 nn_1 (by omega) (by omega) (by omega)
        · intro q_27
          have w_31 := Int32.toInt_lt a2
          have w_32 := Int32.le_toInt a2
          have b_33 : ¬ a2.toInt = 0 := fun h9 => q_27 (Int32.toInt_inj.mp h9)
          refine ⟨?_, ?_⟩
          · intro q_34
            have b_35 : a2.toInt = 1 := congrArg Int32.toInt q_34
            exact U34 a1 a2 σ0 m0 f0 nn_1 (by omega) (by omega) (by omega)
          · intro q_34
            have b_36 : ¬ a2.toInt = 1 := fun h9 => q_34 (Int32.toInt_inj.mp h9)
            exact h9ret (-9223372036854775808 : Int64) σ0 m0 f0 nn_1
