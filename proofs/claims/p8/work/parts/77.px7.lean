theorem lim_C9 {c : Nat} (hc : isC c) {k : Nat} (hk : k % 3 = 0) : lim (c + 9) k = some (0, 5) := by rcases hc with rfl | rfl | rfl <;> simp [lim, limL, limC, hk]
set_option maxRecDepth 100000 in
set_option maxHeartbeats 4000000 in
theorem k_X11_stop {l : Launch} {V : Vx} {a1 : Int32} {a2 : Int32} {a3 : Int32} {a4 : Int32} {σ0 : Sg} {Qk : Int32 → Sg → Prop} (m0 : XI V σ0) (nn_1 : NN σ0 1) (pre0 : (gi σ0 1 9).toInt ≤ 9999) (h9ret : ∀ (r : Int32) (σ' : Sg), XI V σ' → FX (fun id => id = 34 ∨ id = 35 ∨ id = 36 ∨ id = 37 ∨ id = 38 ∨ id = 39 ∨ id = 40 ∨ id = 47 ∨ id = 48 ∨ id = 68) (fun id k => (id = 33 ∧ k = 1) ∨ (id = 33 ∧ k = 3) ∨ (id = 33 ∧ k = 9) ∨ (id = 33 ∧ k = 10) ∨ (id = 33 ∧ k = 11)) σ0 σ' → (NN σ' 1) → Qk r σ') : K_X11_stop l V a1 a2 a3 a4 σ0 Qk := by
  refine e_X11_stop (fun M hl hV hN C => ?_)
  subst hl
  subst hV
  have T : ∀ n : Nat, (∀ (x1 : Int32) (x2 : Int32) (x3 : Int32) (x4 : Int32) (σ : Sg), XI (mV M) σ → FX (fun id => id = 34 ∨ id = 35 ∨ id = 36 ∨ id = 37 ∨ id = 38 ∨ id = 39 ∨ id = 40 ∨ id = 47 ∨ id = 48 ∨ id = 68) (fun id k => (id = 33 ∧ k = 1) ∨ (id = 33 ∧ k = 3) ∨ (id = 33 ∧ k = 9) ∨ (id = 33 ∧ k = 10) ∨ (id = 33 ∧ k = 11)) σ0 σ → NN σ 1 → (0 ≤ x1.toInt) → (x1.toInt ≤ 5) → 1 < n → PS M 22 [(0, .ref 0), (1, .int x1), (2, .int x2), (3, .int x3), (4, .int x4)] [] σ (0, 0)) := by
    intro n
    induction n with
    | zero => exact fun _ _ _ _ _ _ _ _ _ _ h8 => absurd h8 (Nat.not_lt_zero _)
    | succ n ih =>
      have ih22 := ih
      · intro x1 x2 x3 x4 σ mσ fσ nσ_1 lx1 ux1 hmu
        have k_1 : (gi σ 1 1).toInt = (gi σ0 1 1).toInt := congrArg Int32.toInt (FX_i fσ (show ¬ (1 = 34 ∨ 1 = 35 ∨ 1 = 36 ∨ 1 = 37 ∨ 1 = 38 ∨ 1 = 39 ∨ 1 = 40 ∨ 1 = 47 ∨ 1 = 48 ∨ 1 = 68) from by omega) (show ¬ ((1 = 33 ∧ 1 = 1) ∨ (1 = 33 ∧ 1 = 3) ∨ (1 = 33 ∧ 1 = 9) ∨ (1 = 33 ∧ 1 = 10) ∨ (1 = 33 ∧ 1 = 11)) from by omega))
        have t_2 := XI_c1 mσ (id := 1) (k := 1) (lim_C0_1 (Or.inl rfl))
        have k_3 : (gi σ 1 9).toInt = (gi σ0 1 9).toInt := congrArg Int32.toInt (FX_i fσ (show ¬ (1 = 34 ∨ 1 = 35 ∨ 1 = 36 ∨ 1 = 37 ∨ 1 = 38 ∨ 1 = 39 ∨ 1 = 40 ∨ 1 = 47 ∨ 1 = 48 ∨ 1 = 68) from by omega) (show ¬ ((1 = 33 ∧ 9 = 1) ∨ (1 = 33 ∧ 9 = 3) ∨ (1 = 33 ∧ 9 = 9) ∨ (1 = 33 ∧ 9 = 10) ∨ (1 = 33 ∧ 9 = 11)) from by omega))
        have t_4 := XI_c1 mσ (id := 1) (k := 9) (lim_C0_9 (Or.inl rfl))
        have t_5 := XI_c1 mσ (id := 33) (k := 1) (lim_C0_1 (Or.inr (Or.inr rfl)))
        have t_6 := XI_c1 mσ (id := 33) (k := 9) (lim_C0_9 (Or.inr (Or.inr rfl)))
        refine s_X11_stop_22 C hN  ?_
        refine ⟨?_, ?_⟩
        · intro q_7
          have w_8 := Int32.toInt_lt x2
          have w_9 := Int32.le_toInt x2
          have b_10 : x2.toInt < 1 := Int32.lt_iff_toInt_lt.mp q_7
          have z_11 : (-100002 : Int32).toInt = -100002 := rfl
          exact h9ret (-100002 : Int32) σ mσ fσ nσ_1
        · intro q_7
          have w_12 := Int32.toInt_lt x2
          have w_13 := Int32.le_toInt x2
          have b_14 : ¬ x2.toInt < 1 := fun h9 => q_7 (Int32.lt_iff_toInt_lt.mpr h9)
          refine ⟨?_, ?_⟩
          · intro q_15
            have b_16 : (20 : Int) < x2.toInt := Int32.lt_iff_toInt_lt.mp q_15
            have z_17 : (-100002 : Int32).toInt = -100002 := rfl
            exact h9ret (-100002 : Int32) σ mσ fσ nσ_1
          · intro q_15
            have b_18 : ¬ (20 : Int) < x2.toInt := fun h9 => q_15 (Int32.lt_iff_toInt_lt.mpr h9)
            refine ⟨?_, ?_⟩
            · intro q_19
              have w_20 := Int32.toInt_lt x3
              have w_21 := Int32.le_toInt x3
              have b_22 : x3.toInt < 1 := Int32.lt_iff_toInt_lt.mp q_19
              have z_23 : (-100002 : Int32).toInt = -100002 := rfl
              exact h9ret (-100002 : Int32) σ mσ fσ nσ_1
            · intro q_19
              have w_24 := Int32.toInt_lt x3
              have w_25 := Int32.le_toInt x3
              have b_26 : ¬ x3.toInt < 1 := fun h9 => q_19 (Int32.lt_iff_toInt_lt.mpr h9)
              refine ⟨?_, ?_⟩
              · intro q_27
                have b_28 : x3.toInt ≤ 60 := Int32.le_iff_toInt_le.mp q_27
                have z_29 : (1 : Int32).toInt = 1 := rfl
                refine k_X1_becomes (Or.inr (Or.inr rfl)) (Or.inl rfl) mσ nσ_1 (by first | with_reducible assumption | with_reducible rfl | omega | assumption | rfl) (fun σ5 mσ5 cσ5 nσ5_1 nσ5_33 (pσ5_0 : (gi σ5 33 1).toInt = (gi σ 1 1).toInt) (pσ5_1 : (gi σ5 33 3).toInt = (gi σ 1 3).toInt) (pσ5_2 : (gi σ5 33 9).toInt = (gi σ 1 9).toInt) (pσ5_3 : CPY σ σ5 33 1) => ?_)
                have fσ5 : FX (fun id => id = 34 ∨ id = 35 ∨ id = 36 ∨ id = 37 ∨ id = 38 ∨ id = 39 ∨ id = 40 ∨ id = 47 ∨ id = 48 ∨ id = 68) (fun id k => (id = 33 ∧ k = 1) ∨ (id = 33 ∧ k = 3) ∨ (id = 33 ∧ k = 9) ∨ (id = 33 ∧ k = 10) ∨ (id = 33 ∧ k = 11)) σ0 σ5 := FX_tr fσ cσ5 (fun x (h9 : x = 34 ∨ x = 35 ∨ x = 36 ∨ x = 37 ∨ x = 38 ∨ x = 39 ∨ x = 40) => h9.elim (fun e9 => (show x = 34 ∨ x = 35 ∨ x = 36 ∨ x = 37 ∨ x = 38 ∨ x = 39 ∨ x = 40 ∨ x = 47 ∨ x = 48 ∨ x = 68 from Or.inl (e9))) (fun h9 => h9.elim (fun e9 => (show x = 34 ∨ x = 35 ∨ x = 36 ∨ x = 37 ∨ x = 38 ∨ x = 39 ∨ x = 40 ∨ x = 47 ∨ x = 48 ∨ x = 68 from Or.inr (Or.inl (e9)))) (fun h9 => h9.elim (fun e9 => (show x = 34 ∨ x = 35 ∨ x = 36 ∨ x = 37 ∨ x = 38 ∨ x = 39 ∨ x = 40 ∨ x = 47 ∨ x = 48 ∨ x = 68 from Or.inr (Or.inr (Or.inl (e9))))) (fun h9 => h9.elim (fun e9 => (show x = 34 ∨ x = 35 ∨ x = 36 ∨ x = 37 ∨ x = 38 ∨ x = 39 ∨ x = 40 ∨ x = 47 ∨ x = 48 ∨ x = 68 from Or.inr (Or.inr (Or.inr (Or.inl (e9)))))) (fun h9 => h9.elim (fun e9 => (show x = 34 ∨ x = 35 ∨ x = 36 ∨ x = 37 ∨ x = 38 ∨ x = 39 ∨ x = 40 ∨ x = 47 ∨ x = 48 ∨ x = 68 from Or.inr (Or.inr (Or.inr (Or.inr (Or.inl (e9))))))) (fun h9 => h9.elim (fun e9 => (show x = 34 ∨ x = 35 ∨ x = 36 ∨ x = 37 ∨ x = 38 ∨ x = 39 ∨ x = 40 ∨ x = 47 ∨ x = 48 ∨ x = 68 from Or.inr (Or.inr (Or.inr (Or.inr (Or.inr (Or.inl (e9)))))))) (fun h9 => (show x = 34 ∨ x = 35 ∨ x = 36 ∨ x = 37 ∨ x = 38 ∨ x = 39 ∨ x = 40 ∨ x = 47 ∨ x = 48 ∨ x = 68 from Or.inr (Or.inr (Or.inr (Or.inr (Or.inr (Or.inr (Or.inl (h9))))))))))))))) (fun x k (h9 : (x = 33 ∧ k = 1) ∨ (x = 33 ∧ k = 3) ∨ (x = 33 ∧ k = 9) ∨ (x = 33 ∧ k = 10) ∨ (x = 33 ∧ k = 11)) => (show (x = 34 ∨ x = 35 ∨ x = 36 ∨ x = 37 ∨ x = 38 ∨ x = 39 ∨ x = 40 ∨ x = 47 ∨ x = 48 ∨ x = 68) ∨ ((x = 33 ∧ k = 1) ∨ (x = 33 ∧ k = 3) ∨ (x = 33 ∧ k = 9) ∨ (x = 33 ∧ k = 10) ∨ (x = 33 ∧ k = 11)) from h9.elim (fun e9 => Or.inr (show (x = 33 ∧ k = 1) ∨ (x = 33 ∧ k = 3) ∨ (x = 33 ∧ k = 9) ∨ (x = 33 ∧ k = 10) ∨ (x = 33 ∧ k = 11) from Or.inl (e9))) (fun h9 => h9.elim (fun e9 => Or.inr (show (x = 33 ∧ k = 1) ∨ (x = 33 ∧ k = 3) ∨ (x = 33 ∧ k = 9) ∨ (x = 33 ∧ k = 10) ∨ (x = 33 ∧ k = 11) from Or.inr (Or.inl (e9)))) (fun h9 => h9.elim (fun e9 => Or.inr (show (x = 33 ∧ k = 1) ∨ (x = 33 ∧ k = 3) ∨ (x = 33 ∧ k = 9) ∨ (x = 33 ∧ k = 10) ∨ (x = 33 ∧ k = 11) from Or.inr (Or.inr (Or.inl (e9))))) (fun h9 => h9.elim (fun e9 => Or.inr (show (x = 33 ∧ k = 1) ∨ (x = 33 ∧ k = 3) ∨ (x = 33 ∧ k = 9) ∨ (x = 33 ∧ k = 10) ∨ (x = 33 ∧ k = 11) from Or.inr (Or.inr (Or.inr (Or.inl (e9)))))) (fun h9 => Or.inr (show (x = 33 ∧ k = 1) ∨ (x = 33 ∧ k = 3) ∨ (x = 33 ∧ k = 9) ∨ (x = 33 ∧ k = 10) ∨ (x = 33 ∧ k = 11) from Or.inr (Or.inr (Or.inr (Or.inr (h9)))))))))))
                have k_30 : (gi σ5 1 1).toInt = (gi σ 1 1).toInt := congrArg Int32.toInt (FX_i cσ5 (show ¬ (1 = 34 ∨ 1 = 35 ∨ 1 = 36 ∨ 1 = 37 ∨ 1 = 38 ∨ 1 = 39 ∨ 1 = 40) from by omega) (show ¬ ((1 = 33 ∧ 1 = 1) ∨ (1 = 33 ∧ 1 = 3) ∨ (1 = 33 ∧ 1 = 9) ∨ (1 = 33 ∧ 1 = 10) ∨ (1 = 33 ∧ 1 = 11)) from by omega))
                have k_31 : (gi σ5 1 9).toInt = (gi σ 1 9).toInt := congrArg Int32.toInt (FX_i cσ5 (show ¬ (1 = 34 ∨ 1 = 35 ∨ 1 = 36 ∨ 1 = 37 ∨ 1 = 38 ∨ 1 = 39 ∨ 1 = 40) from by omega) (show ¬ ((1 = 33 ∧ 9 = 1) ∨ (1 = 33 ∧ 9 = 3) ∨ (1 = 33 ∧ 9 = 9) ∨ (1 = 33 ∧ 9 = 10) ∨ (1 = 33 ∧ 9 = 11)) from by omega))
                have t_32 := XI_c1 mσ5 (id := 33) (k := 1) (lim_C0_1 (Or.inr (Or.inr rfl)))
                have t_33 := XI_c1 mσ5 (id := 33) (k := 9) (lim_C0_9 (Or.inr (Or.inr rfl)))
                refine k_X1_goes (Or.inr (Or.inr rfl)) mσ5 nσ5_33 (by omega) (by omega) (by first | with_reducible assumption | with_reducible rfl | omega | assumption | rfl) (fun σ6 mσ6 cσ6 nσ6_33 (pσ6_0 : (gi σ6 33 9).toInt = (gi σ5 33 9).toInt + x3.toInt) => ?_)
                have fσ6 : FX (fun id => id = 34 ∨ id = 35 ∨ id = 36 ∨ id = 37 ∨ id = 38 ∨ id = 39 ∨ id = 40 ∨ id = 47 ∨ id = 48 ∨ id = 68) (fun id k => (id = 33 ∧ k = 1) ∨ (id = 33 ∧ k = 3) ∨ (id = 33 ∧ k = 9) ∨ (id = 33 ∧ k = 10) ∨ (id = 33 ∧ k = 11)) σ0 σ6 := FX_tr fσ5 cσ6 (fun x (h9 : x = 47 ∨ x = 48 ∨ x = 36 ∨ x = 37 ∨ x = 38 ∨ x = 39) => h9.elim (fun e9 => (show x = 34 ∨ x = 35 ∨ x = 36 ∨ x = 37 ∨ x = 38 ∨ x = 39 ∨ x = 40 ∨ x = 47 ∨ x = 48 ∨ x = 68 from Or.inr (Or.inr (Or.inr (Or.inr (Or.inr (Or.inr (Or.inr (Or.inl (e9)))))))))) (fun h9 => h9.elim (fun e9 => (show x = 34 ∨ x = 35 ∨ x = 36 ∨ x = 37 ∨ x = 38 ∨ x = 39 ∨ x = 40 ∨ x = 47 ∨ x = 48 ∨ x = 68 from Or.inr (Or.inr (Or.inr (Or.inr (Or.inr (Or.inr (Or.inr (Or.inr (Or.inl (e9))))))))))) (fun h9 => h9.elim (fun e9 => (show x = 34 ∨ x = 35 ∨ x = 36 ∨ x = 37 ∨ x = 38 ∨ x = 39 ∨ x = 40 ∨ x = 47 ∨ x = 48 ∨ x = 68 from Or.inr (Or.inr (Or.inl (e9))))) (fun h9 => h9.elim (fun e9 => (show x = 34 ∨ x = 35 ∨ x = 36 ∨ x = 37 ∨ x = 38 ∨ x = 39 ∨ x = 40 ∨ x = 47 ∨ x = 48 ∨ x = 68 from Or.inr (Or.inr (Or.inr (Or.inl (e9)))))) (fun h9 => h9.elim (fun e9 => (show x = 34 ∨ x = 35 ∨ x = 36 ∨ x = 37 ∨ x = 38 ∨ x = 39 ∨ x = 40 ∨ x = 47 ∨ x = 48 ∨ x = 68 from Or.inr (Or.inr (Or.inr (Or.inr (Or.inl (e9))))))) (fun h9 => (show x = 34 ∨ x = 35 ∨ x = 36 ∨ x = 37 ∨ x = 38 ∨ x = 39 ∨ x = 40 ∨ x = 47 ∨ x = 48 ∨ x = 68 from Or.inr (Or.inr (Or.inr (Or.inr (Or.inr (Or.inl (h9))))))))))))) (fun x k (h9 : (x = 33 ∧ k = 9)) => (show (x = 34 ∨ x = 35 ∨ x = 36 ∨ x = 37 ∨ x = 38 ∨ x = 39 ∨ x = 40 ∨ x = 47 ∨ x = 48 ∨ x = 68) ∨ ((x = 33 ∧ k = 1) ∨ (x = 33 ∧ k = 3) ∨ (x = 33 ∧ k = 9) ∨ (x = 33 ∧ k = 10) ∨ (x = 33 ∧ k = 11)) from Or.inr (show (x = 33 ∧ k = 1) ∨ (x = 33 ∧ k = 3) ∨ (x = 33 ∧ k = 9) ∨ (x = 33 ∧ k = 10) ∨ (x = 33 ∧ k = 11) from Or.inr (Or.inr (Or.inl (h9))))))
                have k_34 : (gi σ6 1 1).toInt = (gi σ5 1 1).toInt := congrArg Int32.toInt (FX_i cσ6 (show ¬ (1 = 47 ∨ 1 = 48 ∨ 1 = 36 ∨ 1 = 37 ∨ 1 = 38 ∨ 1 = 39) from by omega) (show ¬ ((1 = 33 ∧ 1 = 9)) from by omega))
                have k_35 : (gi σ6 1 9).toInt = (gi σ5 1 9).toInt := congrArg Int32.toInt (FX_i cσ6 (show ¬ (1 = 47 ∨ 1 = 48 ∨ 1 = 36 ∨ 1 = 37 ∨ 1 = 38 ∨ 1 = 39) from by omega) (show ¬ ((1 = 33 ∧ 9 = 9)) from by omega))
                have k_36 : (gi σ6 33 1).toInt = (gi σ5 33 1).toInt := congrArg Int32.toInt (FX_i cσ6 (show ¬ (33 = 47 ∨ 33 = 48 ∨ 33 = 36 ∨ 33 = 37 ∨ 33 = 38 ∨ 33 = 39) from by omega) (show ¬ ((33 = 33 ∧ 1 = 9)) from by omega))
                have t_37 := XI_c1 mσ6 (id := 33) (k := 9) (lim_C0_9 (Or.inr (Or.inr rfl)))
                have nσ6_1 : NN σ6 1 := NN_fx nσ5_1 cσ6 (show ¬ (1 = 47 ∨ 1 = 48 ∨ 1 = 36 ∨ 1 = 37 ∨ 1 = 38 ∨ 1 = 39) from by omega) (show ¬ (2 = 47 ∨ 2 = 48 ∨ 2 = 36 ∨ 2 = 37 ∨ 2 = 38 ∨ 2 = 39) from by omega) (show ¬ (3 = 47 ∨ 3 = 48 ∨ 3 = 36 ∨ 3 = 37 ∨ 3 = 38 ∨ 3 = 39) from by omega) (show ¬ ((1 = 33 ∧ 1 = 9)) from by omega) (show ¬ ((1 = 33 ∧ 3 = 9)) from by omega) (fun k (h9 : (2 = 33 ∧ k = 9)) => by omega) (fun k (h9 : (3 = 33 ∧ k = 9)) => by omega)
                refine k_X1_allAt (Or.inr (Or.inr rfl)) mσ6   (fun r8 σ7 mσ7 cσ7 => ?_)
                obtain rfl := FX_nil cσ7
                have t_38 := XI_c1 mσ6 (id := 1) (k := 1) (lim_C0_1 (Or.inl rfl))
                have t_39 := XI_c1 mσ6 (id := 1) (k := 9) (lim_C0_9 (Or.inl rfl))
                have t_40 := XI_c1 mσ6 (id := 33) (k := 1) (lim_C0_1 (Or.inr (Or.inr rfl)))
                have z_41 : (0 : Int32).toInt = 0 := rfl
                have z_42 : (6 : Int32).toInt = 6 := rfl
                have z_43 := cl_eq (x := (0 : Int32)) (by first | decide | omega)
                have z_44 := cl_eq (x := (0 : Int32)) (by first | decide | omega)
                have z_45 := cl_eq (x := (6 : Int32)) (by first | decide | omega)
                refine ⟨⟨(fun h9 => by have h8 := Int32.lt_iff_toInt_lt.mp h9; have h7 : (0 : Int32).toInt = 0 := rfl; omega), (fun h9 => by have h8 := Int32.lt_iff_toInt_lt.mp h9; have h7 : (0 : Int32).toInt = 0 := rfl; omega), (fun h9 => by have h8 := Int32.lt_iff_toInt_lt.mp h9; have h7 : (0 : Int32).toInt = 0 := rfl; omega), by omega, by omega⟩, ?_⟩
                intro σ9 eσ9
                have mσ9 : XI (mV M) σ9 := by rw [eσ9]; exact XIs_sia mσ6 (fun k lo hi q => by have q : (none : Option (Int × Int)) = some (lo, hi) := q; cases q)
                have fσ9 : FX (fun id => id = 34 ∨ id = 35 ∨ id = 36 ∨ id = 37 ∨ id = 38 ∨ id = 39 ∨ id = 40 ∨ id = 47 ∨ id = 48 ∨ id = 68) (fun id k => (id = 33 ∧ k = 1) ∨ (id = 33 ∧ k = 3) ∨ (id = 33 ∧ k = 9) ∨ (id = 33 ∧ k = 10) ∨ (id = 33 ∧ k = 11)) σ0 σ9 := by rw [eσ9]; exact FX_sia fσ6 ((show 68 = 34 ∨ 68 = 35 ∨ 68 = 36 ∨ 68 = 37 ∨ 68 = 38 ∨ 68 = 39 ∨ 68 = 40 ∨ 68 = 47 ∨ 68 = 48 ∨ 68 = 68 from Or.inr (Or.inr (Or.inr (Or.inr (Or.inr (Or.inr (Or.inr (Or.inr (Or.inr (rfl)))))))))))
                have k_46 : (gi σ9 1 1).toInt = (gi σ6 1 1).toInt := by rw [eσ9, gi_sia, if_neg (by omega)]
                have k_47 : (gi σ9 1 9).toInt = (gi σ6 1 9).toInt := by rw [eσ9, gi_sia, if_neg (by omega)]
                have k_48 : (gi σ9 33 1).toInt = (gi σ6 33 1).toInt := by rw [eσ9, gi_sia, if_neg (by omega)]
                have k_49 : (gi σ9 33 9).toInt = (gi σ6 33 9).toInt := by rw [eσ9, gi_sia, if_neg (by omega)]
                have nσ9_33 : NN σ9 33 := NN_fx nσ6_33 (show FX (fun id => id = 68) (fun _ _ => False) σ6 σ9 from by rw [eσ9]; exact FX_sia FX_rf rfl) (by omega) (by omega) (by omega) id id (fun _ => id) (fun _ => id)
                have nσ9_1 : NN σ9 1 := NN_fx nσ6_1 (show FX (fun id => id = 68) (fun _ _ => False) σ6 σ9 from by rw [eσ9]; exact FX_sia FX_rf rfl) (by omega) (by omega) (by omega) id id (fun _ => id) (fun _ => id)
                refine k_X1_becomes (Or.inr (Or.inr rfl)) (Or.inl rfl) mσ9 nσ9_1 (by first | with_reducible assumption | with_reducible rfl | omega | assumption | rfl) (fun σ10 mσ10 cσ10 nσ10_1 nσ10_33 (pσ10_0 : (gi σ10 33 1).toInt = (gi σ9 1 1).toInt) (pσ10_1 : (gi σ10 33 3).toInt = (gi σ9 1 3).toInt) (pσ10_2 : (gi σ10 33 9).toInt = (gi σ9 1 9).toInt) (pσ10_3 : CPY σ9 σ10 33 1) => ?_)
                have fσ10 : FX (fun id => id = 34 ∨ id = 35 ∨ id = 36 ∨ id = 37 ∨ id = 38 ∨ id = 39 ∨ id = 40 ∨ id = 47 ∨ id = 48 ∨ id = 68) (fun id k => (id = 33 ∧ k = 1) ∨ (id = 33 ∧ k = 3) ∨ (id = 33 ∧ k = 9) ∨ (id = 33 ∧ k = 10) ∨ (id = 33 ∧ k = 11)) σ0 σ10 := FX_tr fσ9 cσ10 (fun x (h9 : x = 34 ∨ x = 35 ∨ x = 36 ∨ x = 37 ∨ x = 38 ∨ x = 39 ∨ x = 40) => h9.elim (fun e9 => (show x = 34 ∨ x = 35 ∨ x = 36 ∨ x = 37 ∨ x = 38 ∨ x = 39 ∨ x = 40 ∨ x = 47 ∨ x = 48 ∨ x = 68 from Or.inl (e9))) (fun h9 => h9.elim (fun e9 => (show x = 34 ∨ x = 35 ∨ x = 36 ∨ x = 37 ∨ x = 38 ∨ x = 39 ∨ x = 40 ∨ x = 47 ∨ x = 48 ∨ x = 68 from Or.inr (Or.inl (e9)))) (fun h9 => h9.elim (fun e9 => (show x = 34 ∨ x = 35 ∨ x = 36 ∨ x = 37 ∨ x = 38 ∨ x = 39 ∨ x = 40 ∨ x = 47 ∨ x = 48 ∨ x = 68 from Or.inr (Or.inr (Or.inl (e9))))) (fun h9 => h9.elim (fun e9 => (show x = 34 ∨ x = 35 ∨ x = 36 ∨ x = 37 ∨ x = 38 ∨ x = 39 ∨ x = 40 ∨ x = 47 ∨ x = 48 ∨ x = 68 from Or.inr (Or.inr (Or.inr (Or.inl (e9)))))) (fun h9 => h9.elim (fun e9 => (show x = 34 ∨ x = 35 ∨ x = 36 ∨ x = 37 ∨ x = 38 ∨ x = 39 ∨ x = 40 ∨ x = 47 ∨ x = 48 ∨ x = 68 from Or.inr (Or.inr (Or.inr (Or.inr (Or.inl (e9))))))) (fun h9 => h9.elim (fun e9 => (show x = 34 ∨ x = 35 ∨ x = 36 ∨ x = 37 ∨ x = 38 ∨ x = 39 ∨ x = 40 ∨ x = 47 ∨ x = 48 ∨ x = 68 from Or.inr (Or.inr (Or.inr (Or.inr (Or.inr (Or.inl (e9)))))))) (fun h9 => (show x = 34 ∨ x = 35 ∨ x = 36 ∨ x = 37 ∨ x = 38 ∨ x = 39 ∨ x = 40 ∨ x = 47 ∨ x = 48 ∨ x = 68 from Or.inr (Or.inr (Or.inr (Or.inr (Or.inr (Or.inr (Or.inl (h9))))))))))))))) (fun x k (h9 : (x = 33 ∧ k = 1) ∨ (x = 33 ∧ k = 3) ∨ (x = 33 ∧ k = 9) ∨ (x = 33 ∧ k = 10) ∨ (x = 33 ∧ k = 11)) => (show (x = 34 ∨ x = 35 ∨ x = 36 ∨ x = 37 ∨ x = 38 ∨ x = 39 ∨ x = 40 ∨ x = 47 ∨ x = 48 ∨ x = 68) ∨ ((x = 33 ∧ k = 1) ∨ (x = 33 ∧ k = 3) ∨ (x = 33 ∧ k = 9) ∨ (x = 33 ∧ k = 10) ∨ (x = 33 ∧ k = 11)) from h9.elim (fun e9 => Or.inr (show (x = 33 ∧ k = 1) ∨ (x = 33 ∧ k = 3) ∨ (x = 33 ∧ k = 9) ∨ (x = 33 ∧ k = 10) ∨ (x = 33 ∧ k = 11) from Or.inl (e9))) (fun h9 => h9.elim (fun e9 => Or.inr (show (x = 33 ∧ k = 1) ∨ (x = 33 ∧ k = 3) ∨ (x = 33 ∧ k = 9) ∨ (x = 33 ∧ k = 10) ∨ (x = 33 ∧ k = 11) from Or.inr (Or.inl (e9)))) (fun h9 => h9.elim (fun e9 => Or.inr (show (x = 33 ∧ k = 1) ∨ (x = 33 ∧ k = 3) ∨ (x = 33 ∧ k = 9) ∨ (x = 33 ∧ k = 10) ∨ (x = 33 ∧ k = 11) from Or.inr (Or.inr (Or.inl (e9))))) (fun h9 => h9.elim (fun e9 => Or.inr (show (x = 33 ∧ k = 1) ∨ (x = 33 ∧ k = 3) ∨ (x = 33 ∧ k = 9) ∨ (x = 33 ∧ k = 10) ∨ (x = 33 ∧ k = 11) from Or.inr (Or.inr (Or.inr (Or.inl (e9)))))) (fun h9 => Or.inr (show (x = 33 ∧ k = 1) ∨ (x = 33 ∧ k = 3) ∨ (x = 33 ∧ k = 9) ∨ (x = 33 ∧ k = 10) ∨ (x = 33 ∧ k = 11) from Or.inr (Or.inr (Or.inr (Or.inr (h9)))))))))))
                have k_50 : (gi σ10 1 1).toInt = (gi σ9 1 1).toInt := congrArg Int32.toInt (FX_i cσ10 (show ¬ (1 = 34 ∨ 1 = 35 ∨ 1 = 36 ∨ 1 = 37 ∨ 1 = 38 ∨ 1 = 39 ∨ 1 = 40) from by omega) (show ¬ ((1 = 33 ∧ 1 = 1) ∨ (1 = 33 ∧ 1 = 3) ∨ (1 = 33 ∧ 1 = 9) ∨ (1 = 33 ∧ 1 = 10) ∨ (1 = 33 ∧ 1 = 11)) from by omega))
                have k_51 : (gi σ10 1 9).toInt = (gi σ9 1 9).toInt := congrArg Int32.toInt (FX_i cσ10 (show ¬ (1 = 34 ∨ 1 = 35 ∨ 1 = 36 ∨ 1 = 37 ∨ 1 = 38 ∨ 1 = 39 ∨ 1 = 40) from by omega) (show ¬ ((1 = 33 ∧ 9 = 1) ∨ (1 = 33 ∧ 9 = 3) ∨ (1 = 33 ∧ 9 = 9) ∨ (1 = 33 ∧ 9 = 10) ∨ (1 = 33 ∧ 9 = 11)) from by omega))
                have t_52 := XI_c1 mσ10 (id := 33) (k := 1) (lim_C0_1 (Or.inr (Or.inr rfl)))
                have t_53 := XI_c1 mσ10 (id := 33) (k := 9) (lim_C0_9 (Or.inr (Or.inr rfl)))
                have hv_54 : vp_in x1 6 := vp_in_iff.mpr ⟨by omega, by omega⟩
                refine ⟨hv_54, ?_⟩
                refine ⟨hv_54, ?_⟩
                intro σ13 eσ13
                have mσ13 : XI (mV M) σ13 := by rw [eσ13]; exact XIs_n mσ10 (lim_C6 (Or.inr (Or.inr rfl)) _)
                have fσ13 : FX (fun id => id = 34 ∨ id = 35 ∨ id = 36 ∨ id = 37 ∨ id = 38 ∨ id = 39 ∨ id = 40 ∨ id = 47 ∨ id = 48 ∨ id = 68) (fun id k => (id = 33 ∧ k = 1) ∨ (id = 33 ∧ k = 3) ∨ (id = 33 ∧ k = 9) ∨ (id = 33 ∧ k = 10) ∨ (id = 33 ∧ k = 11)) σ0 σ13 := by rw [eσ13]; exact FX_si fσ10 (Or.inl (show 39 = 34 ∨ 39 = 35 ∨ 39 = 36 ∨ 39 = 37 ∨ 39 = 38 ∨ 39 = 39 ∨ 39 = 40 ∨ 39 = 47 ∨ 39 = 48 ∨ 39 = 68 from Or.inr (Or.inr (Or.inr (Or.inr (Or.inr (Or.inl (rfl))))))))
                have k_55 : (gi σ13 1 1).toInt = (gi σ10 1 1).toInt := by rw [eσ13]; exact congrArg Int32.toInt (gi_si_ne (Or.inl (by omega)))
                have k_56 : (gi σ13 1 9).toInt = (gi σ10 1 9).toInt := by rw [eσ13]; exact congrArg Int32.toInt (gi_si_ne (Or.inl (by omega)))
                have k_57 : (gi σ13 33 1).toInt = (gi σ10 33 1).toInt := by rw [eσ13]; exact congrArg Int32.toInt (gi_si_ne (Or.inl (by omega)))
                have k_58 : (gi σ13 33 9).toInt = (gi σ10 33 9).toInt := by rw [eσ13]; exact congrArg Int32.toInt (gi_si_ne (Or.inl (by omega)))
                have nσ13_1 : NN σ13 1 := by rw [eσ13]; exact NN_si nσ10_1 (by omega) (fun h9 => absurd h9 (by omega))
                have nσ13_33 : NN σ13 33 := by rw [eσ13]; exact NN_si nσ10_33 (by omega) (fun h9 => absurd h9 (by omega))
                refine k_X1_goes (Or.inr (Or.inr rfl)) mσ13 nσ13_33 (by omega) (by omega) (by first | with_reducible assumption | with_reducible rfl | omega | assumption | rfl) (fun σ14 mσ14 cσ14 nσ14_33 (pσ14_0 : (gi σ14 33 9).toInt = (gi σ13 33 9).toInt + x3.toInt) => ?_)
                have fσ14 : FX (fun id => id = 34 ∨ id = 35 ∨ id = 36 ∨ id = 37 ∨ id = 38 ∨ id = 39 ∨ id = 40 ∨ id = 47 ∨ id = 48 ∨ id = 68) (fun id k => (id = 33 ∧ k = 1) ∨ (id = 33 ∧ k = 3) ∨ (id = 33 ∧ k = 9) ∨ (id = 33 ∧ k = 10) ∨ (id = 33 ∧ k = 11)) σ0 σ14 := FX_tr fσ13 cσ14 (fun x (h9 : x = 47 ∨ x = 48 ∨ x = 36 ∨ x = 37 ∨ x = 38 ∨ x = 39) => h9.elim (fun e9 => (show x = 34 ∨ x = 35 ∨ x = 36 ∨ x = 37 ∨ x = 38 ∨ x = 39 ∨ x = 40 ∨ x = 47 ∨ x = 48 ∨ x = 68 from Or.inr (Or.inr (Or.inr (Or.inr (Or.inr (Or.inr (Or.inr (Or.inl (e9)))))))))) (fun h9 => h9.elim (fun e9 => (show x = 34 ∨ x = 35 ∨ x = 36 ∨ x = 37 ∨ x = 38 ∨ x = 39 ∨ x = 40 ∨ x = 47 ∨ x = 48 ∨ x = 68 from Or.inr (Or.inr (Or.inr (Or.inr (Or.inr (Or.inr (Or.inr (Or.inr (Or.inl (e9))))))))))) (fun h9 => h9.elim (fun e9 => (show x = 34 ∨ x = 35 ∨ x = 36 ∨ x = 37 ∨ x = 38 ∨ x = 39 ∨ x = 40 ∨ x = 47 ∨ x = 48 ∨ x = 68 from Or.inr (Or.inr (Or.inl (e9))))) (fun h9 => h9.elim (fun e9 => (show x = 34 ∨ x = 35 ∨ x = 36 ∨ x = 37 ∨ x = 38 ∨ x = 39 ∨ x = 40 ∨ x = 47 ∨ x = 48 ∨ x = 68 from Or.inr (Or.inr (Or.inr (Or.inl (e9)))))) (fun h9 => h9.elim (fun e9 => (show x = 34 ∨ x = 35 ∨ x = 36 ∨ x = 37 ∨ x = 38 ∨ x = 39 ∨ x = 40 ∨ x = 47 ∨ x = 48 ∨ x = 68 from Or.inr (Or.inr (Or.inr (Or.inr (Or.inl (e9))))))) (fun h9 => (show x = 34 ∨ x = 35 ∨ x = 36 ∨ x = 37 ∨ x = 38 ∨ x = 39 ∨ x = 40 ∨ x = 47 ∨ x = 48 ∨ x = 68 from Or.inr (Or.inr (Or.inr (Or.inr (Or.inr (Or.inl (h9))))))))))))) (fun x k (h9 : (x = 33 ∧ k = 9)) => (show (x = 34 ∨ x = 35 ∨ x = 36 ∨ x = 37 ∨ x = 38 ∨ x = 39 ∨ x = 40 ∨ x = 47 ∨ x = 48 ∨ x = 68) ∨ ((x = 33 ∧ k = 1) ∨ (x = 33 ∧ k = 3) ∨ (x = 33 ∧ k = 9) ∨ (x = 33 ∧ k = 10) ∨ (x = 33 ∧ k = 11)) from Or.inr (show (x = 33 ∧ k = 1) ∨ (x = 33 ∧ k = 3) ∨ (x = 33 ∧ k = 9) ∨ (x = 33 ∧ k = 10) ∨ (x = 33 ∧ k = 11) from Or.inr (Or.inr (Or.inl (h9))))))
                have k_59 : (gi σ14 1 1).toInt = (gi σ13 1 1).toInt := congrArg Int32.toInt (FX_i cσ14 (show ¬ (1 = 47 ∨ 1 = 48 ∨ 1 = 36 ∨ 1 = 37 ∨ 1 = 38 ∨ 1 = 39) from by omega) (show ¬ ((1 = 33 ∧ 1 = 9)) from by omega))
                have k_60 : (gi σ14 1 9).toInt = (gi σ13 1 9).toInt := congrArg Int32.toInt (FX_i cσ14 (show ¬ (1 = 47 ∨ 1 = 48 ∨ 1 = 36 ∨ 1 = 37 ∨ 1 = 38 ∨ 1 = 39) from by omega) (show ¬ ((1 = 33 ∧ 9 = 9)) from by omega))
                have k_61 : (gi σ14 33 1).toInt = (gi σ13 33 1).toInt := congrArg Int32.toInt (FX_i cσ14 (show ¬ (33 = 47 ∨ 33 = 48 ∨ 33 = 36 ∨ 33 = 37 ∨ 33 = 38 ∨ 33 = 39) from by omega) (show ¬ ((33 = 33 ∧ 1 = 9)) from by omega))
                have t_62 := XI_c1 mσ14 (id := 33) (k := 9) (lim_C0_9 (Or.inr (Or.inr rfl)))
                have nσ14_1 : NN σ14 1 := NN_fx nσ13_1 cσ14 (show ¬ (1 = 47 ∨ 1 = 48 ∨ 1 = 36 ∨ 1 = 37 ∨ 1 = 38 ∨ 1 = 39) from by omega) (show ¬ (2 = 47 ∨ 2 = 48 ∨ 2 = 36 ∨ 2 = 37 ∨ 2 = 38 ∨ 2 = 39) from by omega) (show ¬ (3 = 47 ∨ 3 = 48 ∨ 3 = 36 ∨ 3 = 37 ∨ 3 = 38 ∨ 3 = 39) from by omega) (show ¬ ((1 = 33 ∧ 1 = 9)) from by omega) (show ¬ ((1 = 33 ∧ 3 = 9)) from by omega) (fun k (h9 : (2 = 33 ∧ k = 9)) => by omega) (fun k (h9 : (3 = 33 ∧ k = 9)) => by omega)
                refine ⟨?_, ?_⟩
                · intro q_63
                  have w_64 := Int32.toInt_lt x4
                  have w_65 := Int32.le_toInt x4
                  have b_66 : ¬ x4.toInt = 0 := fun h9 => q_63 (Int32.toInt_inj.mp h9)
                  refine k_X11_hits  mσ14   (fun r17 σ16 mσ16 cσ16 => ?_)
                  obtain rfl := FX_nil cσ16
                  have t_67 := XI_c1 mσ14 (id := 1) (k := 1) (lim_C0_1 (Or.inl rfl))
                  have t_68 := XI_c1 mσ14 (id := 1) (k := 9) (lim_C0_9 (Or.inl rfl))
                  have t_69 := XI_c1 mσ14 (id := 33) (k := 1) (lim_C0_1 (Or.inr (Or.inr rfl)))
                  exact h9ret r17 σ14 mσ14 fσ14 nσ14_1
                · intro q_63
                  have w_70 := Int32.toInt_lt x4
                  have w_71 := Int32.le_toInt x4
                  have b_72 : x4.toInt = 0 := congrArg Int32.toInt q_63
                  refine k_X1_allAt (Or.inr (Or.inr rfl)) mσ14   (fun r19 σ18 mσ18 cσ18 => ?_)
                  obtain rfl := FX_nil cσ18
                  have t_73 := XI_c1 mσ14 (id := 1) (k := 1) (lim_C0_1 (Or.inl rfl))
                  have t_74 := XI_c1 mσ14 (id := 1) (k := 9) (lim_C0_9 (Or.inl rfl))
                  have t_75 := XI_c1 mσ14 (id := 33) (k := 1) (lim_C0_1 (Or.inr (Or.inr rfl)))
                  exact h9ret (r8 - r19) σ14 mσ14 fσ14 nσ14_1
              · intro q_27
                have b_76 : ¬ x3.toInt ≤ 60 := fun h9 => q_27 (Int32.le_iff_toInt_le.mpr h9)
                have z_77 : (-100002 : Int32).toInt = -100002 := rfl
                exact h9ret (-100002 : Int32) σ mσ fσ nσ_1
  have U22 := T 9
  have f0 : FX (fun id => id = 34 ∨ id = 35 ∨ id = 36 ∨ id = 37 ∨ id = 38 ∨ id = 39 ∨ id = 40 ∨ id = 47 ∨ id = 48 ∨ id = 68) (fun id k => (id = 33 ∧ k = 1) ∨ (id = 33 ∧ k = 3) ∨ (id = 33 ∧ k = 9) ∨ (id = 33 ∧ k = 10) ∨ (id = 33 ∧ k = 11)) σ0 σ0 := FX_rf
  have t_78 := XI_c1 m0 (id := 1) (k := 1) (lim_C0_1 (Or.inl rfl))
  have t_79 := XI_c1 m0 (id := 1) (k := 9) (lim_C0_9 (Or.inl rfl))
  have t_80 := XI_c1 m0 (id := 33) (k := 1) (lim_C0_1 (Or.inr (Or.inr rfl)))
  have t_81 := XI_c1 m0 (id := 33) (k := 9) (lim_C0_9 (Or.inr (Or.inr rfl)))
  refine s_X11_stop_0 C hN  ?_
  refine k_X11_isMower  m0   (fun r2 σ1 mσ1 cσ1 plσ1 phσ1 (pσ1_0 : (r2.toInt = 1 ∧ 0 ≤ a1.toInt ∧ a1.toInt < (gi σ0 1 1).toInt) ∨ (r2.toInt = 0 ∧ (a1.toInt < 0 ∨ (gi σ0 1 1).toInt ≤ a1.toInt))) => ?_)
  obtain rfl := FX_nil cσ1
  refine ⟨?_, ?_⟩
  · intro q_82
    have b_83 : r2.toInt = 0 := congrArg Int32.toInt q_82
    have z_84 : (-100001 : Int32).toInt = -100001 := rfl
    exact h9ret (-100001 : Int32) σ0 m0 f0 nn_1
  · intro q_82
    have b_85 : ¬ r2.toInt = 0 := fun h9 => q_82 (Int32.toInt_inj.mp h9)
    refine ⟨?_, ?_⟩
    · intro q_86
      have w_87 := Int32.toInt_lt a4
      have w_88 := Int32.le_toInt a4
      have b_89 : a4.toInt = 0 := congrArg Int32.toInt q_86
      have w_90 := Int32.toInt_lt a1
      have w_91 := Int32.le_toInt a1
      have w_92 := Int32.toInt_lt a2
      have w_93 := Int32.le_toInt a2
      have w_94 := Int32.toInt_lt a3
      have w_95 := Int32.le_toInt a3
      exact U22 a1 a2 a3 a4 σ0 m0 f0 nn_1 (by omega) (by omega) (by omega)
    · intro q_86
      have w_96 := Int32.toInt_lt a4
      have w_97 := Int32.le_toInt a4
      have b_98 : ¬ a4.toInt = 0 := fun h9 => q_86 (Int32.toInt_inj.mp h9)
      refine ⟨?_, ?_⟩
      · intro q_99
        have b_100 : a4.toInt = 1 := congrArg Int32.toInt q_99
        have w_101 := Int32.toInt_lt a1
        have w_102 := Int32.le_toInt a1
        have w_103 := Int32.toInt_lt a2
        have w_104 := Int32.le_toInt a2
        have w_105 := Int32.toInt_lt a3
        have w_106 := Int32.le_toInt a3
        exact U22 a1 a2 a3 a4 σ0 m0 f0 nn_1 (by omega) (by omega) (by omega)
      · intro q_99
        have b_107 : ¬ a4.toInt = 1 := fun h9 => q_99 (Int32.toInt_inj.mp h9)
        have z_108 : (-100001 : Int32).toInt = -100001 := rfl
        exact h9ret (-100001 : Int32) σ0 m0 f0 nn_1
set_option maxRecDepth 100000 in
set_option maxHeartbeats 4000000 in
theorem k_X11_alone {l : Launch} {V : Vx} {a1 : Int32} {σ0 : Sg} {Qk : Int32 → Sg → Prop} (m0 : XI V σ0) (nn_1 : NN σ0 1) (pre0 : (gi σ0 1 9).toInt ≤ 9999) (h9ret : ∀ (r : Int32) (σ' : Sg), XI V σ' → FX (fun id => id = 34 ∨ id = 35 ∨ id = 36 ∨ id = 37 ∨ id = 38 ∨ id = 39 ∨ id = 40 ∨ id = 47 ∨ id = 48) (fun id k => (id = 33 ∧ k = 1) ∨ (id = 33 ∧ k = 3) ∨ (id = 33 ∧ k = 9) ∨ (id = 33 ∧ k = 10) ∨ (id = 33 ∧ k = 11)) σ0 σ' → (NN σ' 1) → Qk r σ') : K_X11_alone l V a1 σ0 Qk := by
  refine e_X11_alone (fun M hl hV hN C => ?_)
  subst hl
  subst hV
  have T : ∀ n : Nat, (∀ (x1 : Int32) (x2 : Int32) (x3 : Int32) (σ : Sg), XI (mV M) σ → FX (fun id => id = 34 ∨ id = 35 ∨ id = 36 ∨ id = 37 ∨ id = 38 ∨ id = 39 ∨ id = 40 ∨ id = 47 ∨ id = 48) (fun id k => (id = 33 ∧ k = 1) ∨ (id = 33 ∧ k = 3) ∨ (id = 33 ∧ k = 9) ∨ (id = 33 ∧ k = 10) ∨ (id = 33 ∧ k = 11)) σ0 σ → NN σ 1 → (1 ≤ x1.toInt) → (x1.toInt ≤ 60) → (0 ≤ x3.toInt) → (x3.toInt ≤ 6) → (7 - x3.toInt).toNat < n → PS M 43 [(0, .ref 0), (1, .int x1), (2, .int x2), (3, .int x3)] [] σ (0, 0)) := by
    intro n
    induction n with
    | zero => exact fun _ _ _ _ _ _ _ _ _ _ _ h8 => absurd h8 (Nat.not_lt_zero _)
    | succ n ih =>
      have ih43 := ih
      · intro x1 x2 x3 σ mσ fσ nσ_1 lx1 ux1 lx3 ux3 hmu
        have k_1 : (gi σ 1 1).toInt = (gi σ0 1 1).toInt := congrArg Int32.toInt (FX_i fσ (show ¬ (1 = 34 ∨ 1 = 35 ∨ 1 = 36 ∨ 1 = 37 ∨ 1 = 38 ∨ 1 = 39 ∨ 1 = 40 ∨ 1 = 47 ∨ 1 = 48) from by omega) (show ¬ ((1 = 33 ∧ 1 = 1) ∨ (1 = 33 ∧ 1 = 3) ∨ (1 = 33 ∧ 1 = 9) ∨ (1 = 33 ∧ 1 = 10) ∨ (1 = 33 ∧ 1 = 11)) from by omega))
        have t_2 := XI_c1 mσ (id := 1) (k := 1) (lim_C0_1 (Or.inl rfl))
        have k_3 : (gi σ 1 9).toInt = (gi σ0 1 9).toInt := congrArg Int32.toInt (FX_i fσ (show ¬ (1 = 34 ∨ 1 = 35 ∨ 1 = 36 ∨ 1 = 37 ∨ 1 = 38 ∨ 1 = 39 ∨ 1 = 40 ∨ 1 = 47 ∨ 1 = 48) from by omega) (show ¬ ((1 = 33 ∧ 9 = 1) ∨ (1 = 33 ∧ 9 = 3) ∨ (1 = 33 ∧ 9 = 9) ∨ (1 = 33 ∧ 9 = 10) ∨ (1 = 33 ∧ 9 = 11)) from by omega))
        have t_4 := XI_c1 mσ (id := 1) (k := 9) (lim_C0_9 (Or.inl rfl))
        have t_5 := XI_c1 mσ (id := 33) (k := 1) (lim_C0_1 (Or.inr (Or.inr rfl)))
        have t_6 := XI_c1 mσ (id := 33) (k := 9) (lim_C0_9 (Or.inr (Or.inr rfl)))
        refine s_X11_alone_43 C hN  ?_
        refine ⟨?_, ?_⟩
        · intro q_7
          have b_8 : (gi σ 1 1).toInt ≤ x3.toInt := Int32.le_iff_toInt_le.mp q_7
          exact h9ret x2 σ mσ fσ nσ_1
        · intro q_7
          have b_9 : ¬ (gi σ 1 1).toInt ≤ x3.toInt := fun h9 => q_7 (Int32.le_iff_toInt_le.mpr h9)
          have z_10 : (1 : Int32).toInt = 1 := rfl
          refine k_X1_becomes (Or.inr (Or.inr rfl)) (Or.inl rfl) mσ nσ_1 (by first | with_reducible assumption | with_reducible rfl | omega | assumption | rfl) (fun σ2 mσ2 cσ2 nσ2_1 nσ2_33 (pσ2_0 : (gi σ2 33 1).toInt = (gi σ 1 1).toInt) (pσ2_1 : (gi σ2 33 3).toInt = (gi σ 1 3).toInt) (pσ2_2 : (gi σ2 33 9).toInt = (gi σ 1 9).toInt) (pσ2_3 : CPY σ σ2 33 1) => ?_)
          have fσ2 : FX (fun id => id = 34 ∨ id = 35 ∨ id = 36 ∨ id = 37 ∨ id = 38 ∨ id = 39 ∨ id = 40 ∨ id = 47 ∨ id = 48) (fun id k => (id = 33 ∧ k = 1) ∨ (id = 33 ∧ k = 3) ∨ (id = 33 ∧ k = 9) ∨ (id = 33 ∧ k = 10) ∨ (id = 33 ∧ k = 11)) σ0 σ2 := FX_tr fσ cσ2 (fun x (h9 : x = 34 ∨ x = 35 ∨ x = 36 ∨ x = 37 ∨ x = 38 ∨ x = 39 ∨ x = 40) => h9.elim (fun e9 => (show x = 34 ∨ x = 35 ∨ x = 36 ∨ x = 37 ∨ x = 38 ∨ x = 39 ∨ x = 40 ∨ x = 47 ∨ x = 48 from Or.inl (e9))) (fun h9 => h9.elim (fun e9 => (show x = 34 ∨ x = 35 ∨ x = 36 ∨ x = 37 ∨ x = 38 ∨ x = 39 ∨ x = 40 ∨ x = 47 ∨ x = 48 from Or.inr (Or.inl (e9)))) (fun h9 => h9.elim (fun e9 => (show x = 34 ∨ x = 35 ∨ x = 36 ∨ x = 37 ∨ x = 38 ∨ x = 39 ∨ x = 40 ∨ x = 47 ∨ x = 48 from Or.inr (Or.inr (Or.inl (e9))))) (fun h9 => h9.elim (fun e9 => (show x = 34 ∨ x = 35 ∨ x = 36 ∨ x = 37 ∨ x = 38 ∨ x = 39 ∨ x = 40 ∨ x = 47 ∨ x = 48 from Or.inr (Or.inr (Or.inr (Or.inl (e9)))))) (fun h9 => h9.elim (fun e9 => (show x = 34 ∨ x = 35 ∨ x = 36 ∨ x = 37 ∨ x = 38 ∨ x = 39 ∨ x = 40 ∨ x = 47 ∨ x = 48 from Or.inr (Or.inr (Or.inr (Or.inr (Or.inl (e9))))))) (fun h9 => h9.elim (fun e9 => (show x = 34 ∨ x = 35 ∨ x = 36 ∨ x = 37 ∨ x = 38 ∨ x = 39 ∨ x = 40 ∨ x = 47 ∨ x = 48 from Or.inr (Or.inr (Or.inr (Or.inr (Or.inr (Or.inl (e9)))))))) (fun h9 => (show x = 34 ∨ x = 35 ∨ x = 36 ∨ x = 37 ∨ x = 38 ∨ x = 39 ∨ x = 40 ∨ x = 47 ∨ x = 48 from Or.inr (Or.inr (Or.inr (Or.inr (Or.inr (Or.inr (Or.inl (h9))))))))))))))) (fun x k (h9 : (x = 33 ∧ k = 1) ∨ (x = 33 ∧ k = 3) ∨ (x = 33 ∧ k = 9) ∨ (x = 33 ∧ k = 10) ∨ (x = 33 ∧ k = 11)) => (show (x = 34 ∨ x = 35 ∨ x = 36 ∨ x = 37 ∨ x = 38 ∨ x = 39 ∨ x = 40 ∨ x = 47 ∨ x = 48) ∨ ((x = 33 ∧ k = 1) ∨ (x = 33 ∧ k = 3) ∨ (x = 33 ∧ k = 9) ∨ (x = 33 ∧ k = 10) ∨ (x = 33 ∧ k = 11)) from h9.elim (fun e9 => Or.inr (show (x = 33 ∧ k = 1) ∨ (x = 33 ∧ k = 3) ∨ (x = 33 ∧ k = 9) ∨ (x = 33 ∧ k = 10) ∨ (x = 33 ∧ k = 11) from Or.inl (e9))) (fun h9 => h9.elim (fun e9 => Or.inr (show (x = 33 ∧ k = 1) ∨ (x = 33 ∧ k = 3) ∨ (x = 33 ∧ k = 9) ∨ (x = 33 ∧ k = 10) ∨ (x = 33 ∧ k = 11) from Or.inr (Or.inl (e9)))) (fun h9 => h9.elim (fun e9 => Or.inr (show (x = 33 ∧ k = 1) ∨ (x = 33 ∧ k = 3) ∨ (x = 33 ∧ k = 9) ∨ (x = 33 ∧ k = 10) ∨ (x = 33 ∧ k = 11) from Or.inr (Or.inr (Or.inl (e9))))) (fun h9 => h9.elim (fun e9 => Or.inr (show (x = 33 ∧ k = 1) ∨ (x = 33 ∧ k = 3) ∨ (x = 33 ∧ k = 9) ∨ (x = 33 ∧ k = 10) ∨ (x = 33 ∧ k = 11) from Or.inr (Or.inr (Or.inr (Or.inl (e9)))))) (fun h9 => Or.inr (show (x = 33 ∧ k = 1) ∨ (x = 33 ∧ k = 3) ∨ (x = 33 ∧ k = 9) ∨ (x = 33 ∧ k = 10) ∨ (x = 33 ∧ k = 11) from Or.inr (Or.inr (Or.inr (Or.inr (h9)))))))))))
          have k_11 : (gi σ2 1 1).toInt = (gi σ 1 1).toInt := congrArg Int32.toInt (FX_i cσ2 (show ¬ (1 = 34 ∨ 1 = 35 ∨ 1 = 36 ∨ 1 = 37 ∨ 1 = 38 ∨ 1 = 39 ∨ 1 = 40) from by omega) (show ¬ ((1 = 33 ∧ 1 = 1) ∨ (1 = 33 ∧ 1 = 3) ∨ (1 = 33 ∧ 1 = 9) ∨ (1 = 33 ∧ 1 = 10) ∨ (1 = 33 ∧ 1 = 11)) from by omega))
          have k_12 : (gi σ2 1 9).toInt = (gi σ 1 9).toInt := congrArg Int32.toInt (FX_i cσ2 (show ¬ (1 = 34 ∨ 1 = 35 ∨ 1 = 36 ∨ 1 = 37 ∨ 1 = 38 ∨ 1 = 39 ∨ 1 = 40) from by omega) (show ¬ ((1 = 33 ∧ 9 = 1) ∨ (1 = 33 ∧ 9 = 3) ∨ (1 = 33 ∧ 9 = 9) ∨ (1 = 33 ∧ 9 = 10) ∨ (1 = 33 ∧ 9 = 11)) from by omega))
          have t_13 := XI_c1 mσ2 (id := 33) (k := 1) (lim_C0_1 (Or.inr (Or.inr rfl)))
          have t_14 := XI_c1 mσ2 (id := 33) (k := 9) (lim_C0_9 (Or.inr (Or.inr rfl)))
          have z_15 : (0 : Int32).toInt = 0 := rfl
          have hv_16 : vp_in (0 : Int32) 6 := vp_in_iff.mpr ⟨by omega, by omega⟩
          refine ⟨hv_16, ?_⟩
          intro σ4 eσ4
          have mσ4 : XI (mV M) σ4 := by rw [eσ4]; exact XIs_b mσ2 (lim_C2 (Or.inr (Or.inr rfl)) _) (by omega) (by omega)
          have fσ4 : FX (fun id => id = 34 ∨ id = 35 ∨ id = 36 ∨ id = 37 ∨ id = 38 ∨ id = 39 ∨ id = 40 ∨ id = 47 ∨ id = 48) (fun id k => (id = 33 ∧ k = 1) ∨ (id = 33 ∧ k = 3) ∨ (id = 33 ∧ k = 9) ∨ (id = 33 ∧ k = 10) ∨ (id = 33 ∧ k = 11)) σ0 σ4 := by rw [eσ4]; exact FX_si fσ2 (Or.inl (show 35 = 34 ∨ 35 = 35 ∨ 35 = 36 ∨ 35 = 37 ∨ 35 = 38 ∨ 35 = 39 ∨ 35 = 40 ∨ 35 = 47 ∨ 35 = 48 from Or.inr (Or.inl (rfl))))
          have k_17 : (gi σ4 1 1).toInt = (gi σ2 1 1).toInt := by rw [eσ4]; exact congrArg Int32.toInt (gi_si_ne (Or.inl (by omega)))
          have k_18 : (gi σ4 1 9).toInt = (gi σ2 1 9).toInt := by rw [eσ4]; exact congrArg Int32.toInt (gi_si_ne (Or.inl (by omega)))
          have k_19 : (gi σ4 33 1).toInt = (gi σ2 33 1).toInt := by rw [eσ4]; exact congrArg Int32.toInt (gi_si_ne (Or.inl (by omega)))
          have k_20 : (gi σ4 33 9).toInt = (gi σ2 33 9).toInt := by rw [eσ4]; exact congrArg Int32.toInt (gi_si_ne (Or.inl (by omega)))
          have nσ4_1 : NN σ4 1 := by rw [eσ4]; exact NN_si nσ2_1 (by omega) (fun h9 => absurd h9 (by omega))
          have nσ4_33 : NN σ4 33 := by rw [eσ4]; exact NN_line nσ2_33 (by omega)
          intro σ5 eσ5
          have mσ5 : XI (mV M) σ5 := by rw [eσ5]; exact XIs_b mσ4 (lim_C0_3 (Or.inr (Or.inr rfl))) (by omega) (by omega)
          have fσ5 : FX (fun id => id = 34 ∨ id = 35 ∨ id = 36 ∨ id = 37 ∨ id = 38 ∨ id = 39 ∨ id = 40 ∨ id = 47 ∨ id = 48) (fun id k => (id = 33 ∧ k = 1) ∨ (id = 33 ∧ k = 3) ∨ (id = 33 ∧ k = 9) ∨ (id = 33 ∧ k = 10) ∨ (id = 33 ∧ k = 11)) σ0 σ5 := by rw [eσ5]; exact FX_si fσ4 (Or.inr (show (33 = 33 ∧ 3 = 1) ∨ (33 = 33 ∧ 3 = 3) ∨ (33 = 33 ∧ 3 = 9) ∨ (33 = 33 ∧ 3 = 10) ∨ (33 = 33 ∧ 3 = 11) from Or.inr (Or.inl (⟨rfl, rfl⟩))))
          have k_21 : (gi σ5 1 1).toInt = (gi σ4 1 1).toInt := by rw [eσ5]; exact congrArg Int32.toInt (gi_si_ne (Or.inl (by omega)))
          have k_22 : (gi σ5 1 9).toInt = (gi σ4 1 9).toInt := by rw [eσ5]; exact congrArg Int32.toInt (gi_si_ne (Or.inl (by omega)))
          have k_23 : (gi σ5 33 1).toInt = (gi σ4 33 1).toInt := gk_r eσ5 rfl
          have k_24 : (gi σ5 33 9).toInt = (gi σ4 33 9).toInt := gk_r eσ5 rfl
          have nσ5_1 : NN σ5 1 := by rw [eσ5]; exact NN_si nσ4_1 (by omega) (fun h9 => absurd h9 (by omega))
          have nσ5_33 : NN σ5 33 := by rw [eσ5]; exact NN_one nσ4_33 (by rw [show (gi σ4 (33 + 2) 0).toInt = x3.toInt from by rw [eσ4]; exact congrArg Int32.toInt gi_si_eq]; omega) rfl
          refine k_X1_goes (Or.inr (Or.inr rfl)) mσ5 nσ5_33 (by omega) (by omega) (by first | with_reducible assumption | with_reducible rfl | omega | assumption | rfl) (fun σ6 mσ6 cσ6 nσ6_33 (pσ6_0 : (gi σ6 33 9).toInt = (gi σ5 33 9).toInt + x1.toInt) => ?_)
          have fσ6 : FX (fun id => id = 34 ∨ id = 35 ∨ id = 36 ∨ id = 37 ∨ id = 38 ∨ id = 39 ∨ id = 40 ∨ id = 47 ∨ id = 48) (fun id k => (id = 33 ∧ k = 1) ∨ (id = 33 ∧ k = 3) ∨ (id = 33 ∧ k = 9) ∨ (id = 33 ∧ k = 10) ∨ (id = 33 ∧ k = 11)) σ0 σ6 := FX_tr fσ5 cσ6 (fun x (h9 : x = 47 ∨ x = 48 ∨ x = 36 ∨ x = 37 ∨ x = 38 ∨ x = 39) => h9.elim (fun e9 => (show x = 34 ∨ x = 35 ∨ x = 36 ∨ x = 37 ∨ x = 38 ∨ x = 39 ∨ x = 40 ∨ x = 47 ∨ x = 48 from Or.inr (Or.inr (Or.inr (Or.inr (Or.inr (Or.inr (Or.inr (Or.inl (e9)))))))))) (fun h9 => h9.elim (fun e9 => (show x = 34 ∨ x = 35 ∨ x = 36 ∨ x = 37 ∨ x = 38 ∨ x = 39 ∨ x = 40 ∨ x = 47 ∨ x = 48 from Or.inr (Or.inr (Or.inr (Or.inr (Or.inr (Or.inr (Or.inr (Or.inr (e9)))))))))) (fun h9 => h9.elim (fun e9 => (show x = 34 ∨ x = 35 ∨ x = 36 ∨ x = 37 ∨ x = 38 ∨ x = 39 ∨ x = 40 ∨ x = 47 ∨ x = 48 from Or.inr (Or.inr (Or.inl (e9))))) (fun h9 => h9.elim (fun e9 => (show x = 34 ∨ x = 35 ∨ x = 36 ∨ x = 37 ∨ x = 38 ∨ x = 39 ∨ x = 40 ∨ x = 47 ∨ x = 48 from Or.inr (Or.inr (Or.inr (Or.inl (e9)))))) (fun h9 => h9.elim (fun e9 => (show x = 34 ∨ x = 35 ∨ x = 36 ∨ x = 37 ∨ x = 38 ∨ x = 39 ∨ x = 40 ∨ x = 47 ∨ x = 48 from Or.inr (Or.inr (Or.inr (Or.inr (Or.inl (e9))))))) (fun h9 => (show x = 34 ∨ x = 35 ∨ x = 36 ∨ x = 37 ∨ x = 38 ∨ x = 39 ∨ x = 40 ∨ x = 47 ∨ x = 48 from Or.inr (Or.inr (Or.inr (Or.inr (Or.inr (Or.inl (h9))))))))))))) (fun x k (h9 : (x = 33 ∧ k = 9)) => (show (x = 34 ∨ x = 35 ∨ x = 36 ∨ x = 37 ∨ x = 38 ∨ x = 39 ∨ x = 40 ∨ x = 47 ∨ x = 48) ∨ ((x = 33 ∧ k = 1) ∨ (x = 33 ∧ k = 3) ∨ (x = 33 ∧ k = 9) ∨ (x = 33 ∧ k = 10) ∨ (x = 33 ∧ k = 11)) from Or.inr (show (x = 33 ∧ k = 1) ∨ (x = 33 ∧ k = 3) ∨ (x = 33 ∧ k = 9) ∨ (x = 33 ∧ k = 10) ∨ (x = 33 ∧ k = 11) from Or.inr (Or.inr (Or.inl (h9))))))
          have k_25 : (gi σ6 1 1).toInt = (gi σ5 1 1).toInt := congrArg Int32.toInt (FX_i cσ6 (show ¬ (1 = 47 ∨ 1 = 48 ∨ 1 = 36 ∨ 1 = 37 ∨ 1 = 38 ∨ 1 = 39) from by omega) (show ¬ ((1 = 33 ∧ 1 = 9)) from by omega))
          have k_26 : (gi σ6 1 9).toInt = (gi σ5 1 9).toInt := congrArg Int32.toInt (FX_i cσ6 (show ¬ (1 = 47 ∨ 1 = 48 ∨ 1 = 36 ∨ 1 = 37 ∨ 1 = 38 ∨ 1 = 39) from by omega) (show ¬ ((1 = 33 ∧ 9 = 9)) from by omega))
          have k_27 : (gi σ6 33 1).toInt = (gi σ5 33 1).toInt := congrArg Int32.toInt (FX_i cσ6 (show ¬ (33 = 47 ∨ 33 = 48 ∨ 33 = 36 ∨ 33 = 37 ∨ 33 = 38 ∨ 33 = 39) from by omega) (show ¬ ((33 = 33 ∧ 1 = 9)) from by omega))
          have t_28 := XI_c1 mσ6 (id := 33) (k := 9) (lim_C0_9 (Or.inr (Or.inr rfl)))
          have nσ6_1 : NN σ6 1 := NN_fx nσ5_1 cσ6 (show ¬ (1 = 47 ∨ 1 = 48 ∨ 1 = 36 ∨ 1 = 37 ∨ 1 = 38 ∨ 1 = 39) from by omega) (show ¬ (2 = 47 ∨ 2 = 48 ∨ 2 = 36 ∨ 2 = 37 ∨ 2 = 38 ∨ 2 = 39) from by omega) (show ¬ (3 = 47 ∨ 3 = 48 ∨ 3 = 36 ∨ 3 = 37 ∨ 3 = 38 ∨ 3 = 39) from by omega) (show ¬ ((1 = 33 ∧ 1 = 9)) from by omega) (show ¬ ((1 = 33 ∧ 3 = 9)) from by omega) (fun k (h9 : (2 = 33 ∧ k = 9)) => by omega) (fun k (h9 : (3 = 33 ∧ k = 9)) => by omega)
          have hv_29 : vp_in x3 6 := vp_in_iff.mpr ⟨by omega, by omega⟩
          refine ⟨hv_29, ?_⟩
          intro v8 ev8
          intro v9 ev9
          have t_30 : (x3 + (1 : Int32)).toInt = x3.toInt + 1 := i_add (x := x3) (y := (1 : Int32)) (by show (_ : Int) ≤ x3.toInt + 1; omega) (by show x3.toInt + 1 ≤ (_ : Int); omega)
          have t_31 : v9.toInt = (x3 + (1 : Int32)).toInt := congrArg Int32.toInt ev9
          have w_32 := Int32.toInt_lt v8
          have w_33 := Int32.le_toInt v8
          exact ih43 x1 v8 v9 σ6 mσ6 fσ6 nσ6_1 (by omega) (by omega) (by omega) (by omega) (by omega)
  have U43 := T 9
  have f0 : FX (fun id => id = 34 ∨ id = 35 ∨ id = 36 ∨ id = 37 ∨ id = 38 ∨ id = 39 ∨ id = 40 ∨ id = 47 ∨ id = 48) (fun id k => (id = 33 ∧ k = 1) ∨ (id = 33 ∧ k = 3) ∨ (id = 33 ∧ k = 9) ∨ (id = 33 ∧ k = 10) ∨ (id = 33 ∧ k = 11)) σ0 σ0 := FX_rf
  have t_34 := XI_c1 m0 (id := 1) (k := 1) (lim_C0_1 (Or.inl rfl))
  have t_35 := XI_c1 m0 (id := 1) (k := 9) (lim_C0_9 (Or.inl rfl))
  have t_36 := XI_c1 m0 (id := 33) (k := 1) (lim_C0_1 (Or.inr (Or.inr rfl)))
  have t_37 := XI_c1 m0 (id := 33) (k := 9) (lim_C0_9 (Or.inr (Or.inr rfl)))
  refine s_X11_alone_0 C hN  ?_
  refine ⟨?_, ?_⟩
  · intro q_38
    have w_39 := Int32.toInt_lt a1
    have w_40 := Int32.le_toInt a1
    have b_41 : a1.toInt < 1 := Int32.lt_iff_toInt_lt.mp q_38
    have z_42 : (-100002 : Int32).toInt = -100002 := rfl
    exact h9ret (-100002 : Int32) σ0 m0 f0 nn_1
  · intro q_38
    have w_43 := Int32.toInt_lt a1
    have w_44 := Int32.le_toInt a1
    have b_45 : ¬ a1.toInt < 1 := fun h9 => q_38 (Int32.lt_iff_toInt_lt.mpr h9)
    refine ⟨?_, ?_⟩
    · intro q_46
      have b_47 : a1.toInt ≤ 60 := Int32.le_iff_toInt_le.mp q_46
      have z_48 : (1 : Int32).toInt = 1 := rfl
      refine k_X1_becomes (Or.inr (Or.inr rfl)) (Or.inl rfl) m0 nn_1 (by first | with_reducible assumption | with_reducible rfl | omega | assumption | rfl) (fun σ3 mσ3 cσ3 nσ3_1 nσ3_33 (pσ3_0 : (gi σ3 33 1).toInt = (gi σ0 1 1).toInt) (pσ3_1 : (gi σ3 33 3).toInt = (gi σ0 1 3).toInt) (pσ3_2 : (gi σ3 33 9).toInt = (gi σ0 1 9).toInt) (pσ3_3 : CPY σ0 σ3 33 1) => ?_)
      have fσ3 : FX (fun id => id = 34 ∨ id = 35 ∨ id = 36 ∨ id = 37 ∨ id = 38 ∨ id = 39 ∨ id = 40 ∨ id = 47 ∨ id = 48) (fun id k => (id = 33 ∧ k = 1) ∨ (id = 33 ∧ k = 3) ∨ (id = 33 ∧ k = 9) ∨ (id = 33 ∧ k = 10) ∨ (id = 33 ∧ k = 11)) σ0 σ3 := FX_tr f0 cσ3 (fun x (h9 : x = 34 ∨ x = 35 ∨ x = 36 ∨ x = 37 ∨ x = 38 ∨ x = 39 ∨ x = 40) => h9.elim (fun e9 => (show x = 34 ∨ x = 35 ∨ x = 36 ∨ x = 37 ∨ x = 38 ∨ x = 39 ∨ x = 40 ∨ x = 47 ∨ x = 48 from Or.inl (e9))) (fun h9 => h9.elim (fun e9 => (show x = 34 ∨ x = 35 ∨ x = 36 ∨ x = 37 ∨ x = 38 ∨ x = 39 ∨ x = 40 ∨ x = 47 ∨ x = 48 from Or.inr (Or.inl (e9)))) (fun h9 => h9.elim (fun e9 => (show x = 34 ∨ x = 35 ∨ x = 36 ∨ x = 37 ∨ x = 38 ∨ x = 39 ∨ x = 40 ∨ x = 47 ∨ x = 48 from Or.inr (Or.inr (Or.inl (e9))))) (fun h9 => h9.elim (fun e9 => (show x = 34 ∨ x = 35 ∨ x = 36 ∨ x = 37 ∨ x = 38 ∨ x = 39 ∨ x = 40 ∨ x = 47 ∨ x = 48 from Or.inr (Or.inr (Or.inr (Or.inl (e9)))))) (fun h9 => h9.elim (fun e9 => (show x = 34 ∨ x = 35 ∨ x = 36 ∨ x = 37 ∨ x = 38 ∨ x = 39 ∨ x = 40 ∨ x = 47 ∨ x = 48 from Or.inr (Or.inr (Or.inr (Or.inr (Or.inl (e9))))))) (fun h9 => h9.elim (fun e9 => (show x = 34 ∨ x = 35 ∨ x = 36 ∨ x = 37 ∨ x = 38 ∨ x = 39 ∨ x = 40 ∨ x = 47 ∨ x = 48 from Or.inr (Or.inr (Or.inr (Or.inr (Or.inr (Or.inl (e9)))))))) (fun h9 => (show x = 34 ∨ x = 35 ∨ x = 36 ∨ x = 37 ∨ x = 38 ∨ x = 39 ∨ x = 40 ∨ x = 47 ∨ x = 48 from Or.inr (Or.inr (Or.inr (Or.inr (Or.inr (Or.inr (Or.inl (h9))))))))))))))) (fun x k (h9 : (x = 33 ∧ k = 1) ∨ (x = 33 ∧ k = 3) ∨ (x = 33 ∧ k = 9) ∨ (x = 33 ∧ k = 10) ∨ (x = 33 ∧ k = 11)) => (show (x = 34 ∨ x = 35 ∨ x = 36 ∨ x = 37 ∨ x = 38 ∨ x = 39 ∨ x = 40 ∨ x = 47 ∨ x = 48) ∨ ((x = 33 ∧ k = 1) ∨ (x = 33 ∧ k = 3) ∨ (x = 33 ∧ k = 9) ∨ (x = 33 ∧ k = 10) ∨ (x = 33 ∧ k = 11)) from h9.elim (fun e9 => Or.inr (show (x = 33 ∧ k = 1) ∨ (x = 33 ∧ k = 3) ∨ (x = 33 ∧ k = 9) ∨ (x = 33 ∧ k = 10) ∨ (x = 33 ∧ k = 11) from Or.inl (e9))) (fun h9 => h9.elim (fun e9 => Or.inr (show (x = 33 ∧ k = 1) ∨ (x = 33 ∧ k = 3) ∨ (x = 33 ∧ k = 9) ∨ (x = 33 ∧ k = 10) ∨ (x = 33 ∧ k = 11) from Or.inr (Or.inl (e9)))) (fun h9 => h9.elim (fun e9 => Or.inr (show (x = 33 ∧ k = 1) ∨ (x = 33 ∧ k = 3) ∨ (x = 33 ∧ k = 9) ∨ (x = 33 ∧ k = 10) ∨ (x = 33 ∧ k = 11) from Or.inr (Or.inr (Or.inl (e9))))) (fun h9 => h9.elim (fun e9 => Or.inr (show (x = 33 ∧ k = 1) ∨ (x = 33 ∧ k = 3) ∨ (x = 33 ∧ k = 9) ∨ (x = 33 ∧ k = 10) ∨ (x = 33 ∧ k = 11) from Or.inr (Or.inr (Or.inr (Or.inl (e9)))))) (fun h9 => Or.inr (show (x = 33 ∧ k = 1) ∨ (x = 33 ∧ k = 3) ∨ (x = 33 ∧ k = 9) ∨ (x = 33 ∧ k = 10) ∨ (x = 33 ∧ k = 11) from Or.inr (Or.inr (Or.inr (Or.inr (h9)))))))))))
      have k_49 : (gi σ3 1 1).toInt = (gi σ0 1 1).toInt := congrArg Int32.toInt (FX_i cσ3 (show ¬ (1 = 34 ∨ 1 = 35 ∨ 1 = 36 ∨ 1 = 37 ∨ 1 = 38 ∨ 1 = 39 ∨ 1 = 40) from by omega) (show ¬ ((1 = 33 ∧ 1 = 1) ∨ (1 = 33 ∧ 1 = 3) ∨ (1 = 33 ∧ 1 = 9) ∨ (1 = 33 ∧ 1 = 10) ∨ (1 = 33 ∧ 1 = 11)) from by omega))
      have k_50 : (gi σ3 1 9).toInt = (gi σ0 1 9).toInt := congrArg Int32.toInt (FX_i cσ3 (show ¬ (1 = 34 ∨ 1 = 35 ∨ 1 = 36 ∨ 1 = 37 ∨ 1 = 38 ∨ 1 = 39 ∨ 1 = 40) from by omega) (show ¬ ((1 = 33 ∧ 9 = 1) ∨ (1 = 33 ∧ 9 = 3) ∨ (1 = 33 ∧ 9 = 9) ∨ (1 = 33 ∧ 9 = 10) ∨ (1 = 33 ∧ 9 = 11)) from by omega))
      have t_51 := XI_c1 mσ3 (id := 33) (k := 1) (lim_C0_1 (Or.inr (Or.inr rfl)))
      have t_52 := XI_c1 mσ3 (id := 33) (k := 9) (lim_C0_9 (Or.inr (Or.inr rfl)))
      refine k_X1_goes (Or.inr (Or.inr rfl)) mσ3 nσ3_33 (by omega) (by omega) (by first | with_reducible assumption | with_reducible rfl | omega | assumption | rfl) (fun σ4 mσ4 cσ4 nσ4_33 (pσ4_0 : (gi σ4 33 9).toInt = (gi σ3 33 9).toInt + a1.toInt) => ?_)
      have fσ4 : FX (fun id => id = 34 ∨ id = 35 ∨ id = 36 ∨ id = 37 ∨ id = 38 ∨ id = 39 ∨ id = 40 ∨ id = 47 ∨ id = 48) (fun id k => (id = 33 ∧ k = 1) ∨ (id = 33 ∧ k = 3) ∨ (id = 33 ∧ k = 9) ∨ (id = 33 ∧ k = 10) ∨ (id = 33 ∧ k = 11)) σ0 σ4 := FX_tr fσ3 cσ4 (fun x (h9 : x = 47 ∨ x = 48 ∨ x = 36 ∨ x = 37 ∨ x = 38 ∨ x = 39) => h9.elim (fun e9 => (show x = 34 ∨ x = 35 ∨ x = 36 ∨ x = 37 ∨ x = 38 ∨ x = 39 ∨ x = 40 ∨ x = 47 ∨ x = 48 from Or.inr (Or.inr (Or.inr (Or.inr (Or.inr (Or.inr (Or.inr (Or.inl (e9)))))))))) (fun h9 => h9.elim (fun e9 => (show x = 34 ∨ x = 35 ∨ x = 36 ∨ x = 37 ∨ x = 38 ∨ x = 39 ∨ x = 40 ∨ x = 47 ∨ x = 48 from Or.inr (Or.inr (Or.inr (Or.inr (Or.inr (Or.inr (Or.inr (Or.inr (e9)))))))))) (fun h9 => h9.elim (fun e9 => (show x = 34 ∨ x = 35 ∨ x = 36 ∨ x = 37 ∨ x = 38 ∨ x = 39 ∨ x = 40 ∨ x = 47 ∨ x = 48 from Or.inr (Or.inr (Or.inl (e9))))) (fun h9 => h9.elim (fun e9 => (show x = 34 ∨ x = 35 ∨ x = 36 ∨ x = 37 ∨ x = 38 ∨ x = 39 ∨ x = 40 ∨ x = 47 ∨ x = 48 from Or.inr (Or.inr (Or.inr (Or.inl (e9)))))) (fun h9 => h9.elim (fun e9 => (show x = 34 ∨ x = 35 ∨ x = 36 ∨ x = 37 ∨ x = 38 ∨ x = 39 ∨ x = 40 ∨ x = 47 ∨ x = 48 from Or.inr (Or.inr (Or.inr (Or.inr (Or.inl (e9))))))) (fun h9 => (show x = 34 ∨ x = 35 ∨ x = 36 ∨ x = 37 ∨ x = 38 ∨ x = 39 ∨ x = 40 ∨ x = 47 ∨ x = 48 from Or.inr (Or.inr (Or.inr (Or.inr (Or.inr (Or.inl (h9))))))))))))) (fun x k (h9 : (x = 33 ∧ k = 9)) => (show (x = 34 ∨ x = 35 ∨ x = 36 ∨ x = 37 ∨ x = 38 ∨ x = 39 ∨ x = 40 ∨ x = 47 ∨ x = 48) ∨ ((x = 33 ∧ k = 1) ∨ (x = 33 ∧ k = 3) ∨ (x = 33 ∧ k = 9) ∨ (x = 33 ∧ k = 10) ∨ (x = 33 ∧ k = 11)) from Or.inr (show (x = 33 ∧ k = 1) ∨ (x = 33 ∧ k = 3) ∨ (x = 33 ∧ k = 9) ∨ (x = 33 ∧ k = 10) ∨ (x = 33 ∧ k = 11) from Or.inr (Or.inr (Or.inl (h9))))))
      have k_53 : (gi σ4 1 1).toInt = (gi σ3 1 1).toInt := congrArg Int32.toInt (FX_i cσ4 (show ¬ (1 = 47 ∨ 1 = 48 ∨ 1 = 36 ∨ 1 = 37 ∨ 1 = 38 ∨ 1 = 39) from by omega) (show ¬ ((1 = 33 ∧ 1 = 9)) from by omega))
      have k_54 : (gi σ4 1 9).toInt = (gi σ3 1 9).toInt := congrArg Int32.toInt (FX_i cσ4 (show ¬ (1 = 47 ∨ 1 = 48 ∨ 1 = 36 ∨ 1 = 37 ∨ 1 = 38 ∨ 1 = 39) from by omega) (show ¬ ((1 = 33 ∧ 9 = 9)) from by omega))
      have k_55 : (gi σ4 33 1).toInt = (gi σ3 33 1).toInt := congrArg Int32.toInt (FX_i cσ4 (show ¬ (33 = 47 ∨ 33 = 48 ∨ 33 = 36 ∨ 33 = 37 ∨ 33 = 38 ∨ 33 = 39) from by omega) (show ¬ ((33 = 33 ∧ 1 = 9)) from by omega))
      have t_56 := XI_c1 mσ4 (id := 33) (k := 9) (lim_C0_9 (Or.inr (Or.inr rfl)))
      have nσ4_1 : NN σ4 1 := NN_fx nσ3_1 cσ4 (show ¬ (1 = 47 ∨ 1 = 48 ∨ 1 = 36 ∨ 1 = 37 ∨ 1 = 38 ∨ 1 = 39) from by omega) (show ¬ (2 = 47 ∨ 2 = 48 ∨ 2 = 36 ∨ 2 = 37 ∨ 2 = 38 ∨ 2 = 39) from by omega) (show ¬ (3 = 47 ∨ 3 = 48 ∨ 3 = 36 ∨ 3 = 37 ∨ 3 = 38 ∨ 3 = 39) from by omega) (show ¬ ((1 = 33 ∧ 1 = 9)) from by omega) (show ¬ ((1 = 33 ∧ 3 = 9)) from by omega) (fun k (h9 : (2 = 33 ∧ k = 9)) => by omega) (fun k (h9 : (3 = 33 ∧ k = 9)) => by omega)
      refine k_X1_allAt (Or.inr (Or.inr rfl)) mσ4   (fun r6 σ5 mσ5 cσ5 => ?_)
      obtain rfl := FX_nil cσ5
      have t_57 := XI_c1 mσ4 (id := 1) (k := 1) (lim_C0_1 (Or.inl rfl))
      have t_58 := XI_c1 mσ4 (id := 1) (k := 9) (lim_C0_9 (Or.inl rfl))
      have t_59 := XI_c1 mσ4 (id := 33) (k := 1) (lim_C0_1 (Or.inr (Or.inr rfl)))
      have w_60 := Int32.toInt_lt r6
      have w_61 := Int32.le_toInt r6
      have z_62 : (0 : Int32).toInt = 0 := rfl
      exact U43 a1 r6 (0 : Int32) σ4 mσ4 fσ4 nσ4_1 (by omega) (by omega) (by omega) (by omega) (by omega)
    · intro q_46
      have b_63 : ¬ a1.toInt ≤ 60 := fun h9 => q_46 (Int32.le_iff_toInt_le.mpr h9)
      have z_64 : (-100002 : Int32).toInt = -100002 := rfl
      exact h9ret (-100002 : Int32) σ0 m0 f0 nn_1
set_option maxRecDepth 100000 in
set_option maxHeartbeats 4000000 in
theorem k_X11_seenIsSo {l : Launch} {V : Vx} {a1 : Int32} {σ0 : Sg} {Qk : Int32 → Sg → Prop} (m0 : XI V σ0) (h9ret : ∀ (r : Int32) (σ' : Sg), XI V σ' → FX (fun id => False) (fun _ _ => False) σ0 σ' → Qk r σ') : K_X11_seenIsSo l V a1 σ0 Qk := by
  refine e_X11_seenIsSo (fun M hl hV hN C => ?_)
  subst hl
  subst hV
  have T : ∀ n : Nat, (∀ (x1 : Int32) (x3 : Int32) (σ : Sg), XI (mV M) σ → FX (fun id => False) (fun _ _ => False) σ0 σ → (0 ≤ x3.toInt) → (x3.toInt ≤ 18) → (x3.toInt % 3 = 0) → (20 - x3.toInt).toNat < n → PS M 13 [(0, .ref 0), (1, .int x1), (2, .ref 10), (3, .int x3)] [] σ (0, 0)) := by
    intro n
    induction n with
    | zero => exact fun _ _ _ _ _ _ _ _ h8 => absurd h8 (Nat.not_lt_zero _)
    | succ n ih =>
      have ih13 := ih
      · intro x1 x3 σ mσ fσ lx3 ux3 i0 hmu
        have k_1 : (gi σ 1 1).toInt = (gi σ0 1 1).toInt := congrArg Int32.toInt (FX_i fσ id id)
        have t_2 := XI_c1 mσ (id := 1) (k := 1) (lim_C0_1 (Or.inl rfl))
        have k_3 : (gi σ 9 1).toInt = (gi σ0 9 1).toInt := congrArg Int32.toInt (FX_i fσ id id)
        have t_4 := XI_c1 mσ (id := 9) (k := 1) (lim_C8_1 (Or.inl rfl))
        have ec9 := cl_eq (x := x3) (by omega)
        have sn9 : x3.toNatClampNeg % 3 = 0 → _ := fun q9 => XI_c1 mσ (id := 10) (k := x3.toNatClampNeg) (lim_C9 (c := 1) (Or.inl rfl) q9)
        have sn9 := sn9 (by omega)
        refine s_X11_seenIsSo_13 C hN  ?_
        refine ⟨?_, ?_⟩
        · intro q_5
          have t_6 : (x3 + (2 : Int32)).toInt = x3.toInt + 2 := i_add (x := x3) (y := (2 : Int32)) (by show (_ : Int) ≤ x3.toInt + 2; omega) (by show x3.toInt + 2 ≤ (_ : Int); omega)
          have b_7 : (gi σ 9 1).toInt ≤ (x3 + (2 : Int32)).toInt := Int32.le_iff_toInt_le.mp q_5
          have z_8 : (1 : Int32).toInt = 1 := rfl
          exact h9ret (1 : Int32) σ mσ fσ
        · intro q_5
          have t_9 : (x3 + (2 : Int32)).toInt = x3.toInt + 2 := i_add (x := x3) (y := (2 : Int32)) (by show (_ : Int) ≤ x3.toInt + 2; omega) (by show x3.toInt + 2 ≤ (_ : Int); omega)
          have b_10 : ¬ (gi σ 9 1).toInt ≤ (x3 + (2 : Int32)).toInt := fun h9 => q_5 (Int32.le_iff_toInt_le.mpr h9)
          have t_11 : (x3 + (1 : Int32)).toInt = x3.toInt + 1 := i_add (x := x3) (y := (1 : Int32)) (by show (_ : Int) ≤ x3.toInt + 1; omega) (by show x3.toInt + 1 ≤ (_ : Int); omega)
          have hv_12 : vp_in (x3 + (1 : Int32)) 18 := vp_in_iff.mpr ⟨by omega, by omega⟩
          refine ⟨hv_12, ?_⟩
          refine ⟨?_, ?_⟩
          · intro q_13
            have w_14 := Int32.toInt_lt (gi σ 10 (x3 + (1 : Int32)).toNatClampNeg)
            have w_15 := Int32.le_toInt (gi σ 10 (x3 + (1 : Int32)).toNatClampNeg)
            have w_16 := Int32.toInt_lt x1
            have w_17 := Int32.le_toInt x1
            have b_18 : ¬ (gi σ 10 (x3 + (1 : Int32)).toNatClampNeg).toInt = x1.toInt := fun h9 => q_13 (Int32.toInt_inj.mp h9)
            intro v4 ev4
            have t_19 : (x3 + (3 : Int32)).toInt = x3.toInt + 3 := i_add (x := x3) (y := (3 : Int32)) (by show (_ : Int) ≤ x3.toInt + 3; omega) (by show x3.toInt + 3 ≤ (_ : Int); omega)
            have t_20 : v4.toInt = (x3 + (3 : Int32)).toInt := congrArg Int32.toInt ev4
            exact ih13 x1 v4 σ mσ fσ (by omega) (by omega) (by first | with_reducible assumption | with_reducible rfl | omega | assumption | rfl) (by omega)
          · intro q_13
            have w_21 := Int32.toInt_lt (gi σ 10 (x3 + (1 : Int32)).toNatClampNeg)
            have w_22 := Int32.le_toInt (gi σ 10 (x3 + (1 : Int32)).toNatClampNeg)
            have w_23 := Int32.toInt_lt x1
            have w_24 := Int32.le_toInt x1
            have b_25 : (gi σ 10 (x3 + (1 : Int32)).toNatClampNeg).toInt = x1.toInt := congrArg Int32.toInt q_13
            have hv_26 : vp_in x3 18 := vp_in_iff.mpr ⟨by omega, by omega⟩
            refine ⟨hv_26, ?_⟩
            have w_27 := Int32.toInt_lt (gi σ 10 x3.toNatClampNeg)
            have w_28 := Int32.le_toInt (gi σ 10 x3.toNatClampNeg)
            have hv_29 : vp_in (gi σ 10 x3.toNatClampNeg) 6 := vp_in_iff.mpr ⟨by omega, by omega⟩
            refine ⟨hv_29, ?_⟩
            have hv_30 : vp_in (x3 + (2 : Int32)) 18 := vp_in_iff.mpr ⟨by omega, by omega⟩
            refine ⟨hv_30, ?_⟩
            refine ⟨?_, ?_⟩
            · intro q_31
              have w_32 := Int32.toInt_lt (gi σ 36 (gi σ 10 x3.toNatClampNeg).toNatClampNeg)
              have w_33 := Int32.le_toInt (gi σ 36 (gi σ 10 x3.toNatClampNeg).toNatClampNeg)
              have w_34 := Int32.toInt_lt (gi σ 10 (x3 + (2 : Int32)).toNatClampNeg)
              have w_35 := Int32.le_toInt (gi σ 10 (x3 + (2 : Int32)).toNatClampNeg)
              have b_36 : (gi σ 36 (gi σ 10 x3.toNatClampNeg).toNatClampNeg).toInt = (gi σ 10 (x3 + (2 : Int32)).toNatClampNeg).toInt := congrArg Int32.toInt q_31
              intro v9 ev9
              have t_37 : (x3 + (3 : Int32)).toInt = x3.toInt + 3 := i_add (x := x3) (y := (3 : Int32)) (by show (_ : Int) ≤ x3.toInt + 3; omega) (by show x3.toInt + 3 ≤ (_ : Int); omega)
              have t_38 : v9.toInt = (x3 + (3 : Int32)).toInt := congrArg Int32.toInt ev9
              exact ih13 x1 v9 σ mσ fσ (by omega) (by omega) (by first | with_reducible assumption | with_reducible rfl | omega | assumption | rfl) (by omega)
            · intro q_31
              have w_39 := Int32.toInt_lt (gi σ 36 (gi σ 10 x3.toNatClampNeg).toNatClampNeg)
              have w_40 := Int32.le_toInt (gi σ 36 (gi σ 10 x3.toNatClampNeg).toNatClampNeg)
              have w_41 := Int32.toInt_lt (gi σ 10 (x3 + (2 : Int32)).toNatClampNeg)
              have w_42 := Int32.le_toInt (gi σ 10 (x3 + (2 : Int32)).toNatClampNeg)
              have b_43 : ¬ (gi σ 36 (gi σ 10 x3.toNatClampNeg).toNatClampNeg).toInt = (gi σ 10 (x3 + (2 : Int32)).toNatClampNeg).toInt := fun h9 => q_31 (Int32.toInt_inj.mp h9)
              have z_44 : (0 : Int32).toInt = 0 := rfl
              exact h9ret (0 : Int32) σ mσ fσ
  have U13 := T 90
  have f0 : FX (fun id => False) (fun _ _ => False) σ0 σ0 := FX_rf
  have t_45 := XI_c1 m0 (id := 1) (k := 1) (lim_C0_1 (Or.inl rfl))
  have t_46 := XI_c1 m0 (id := 9) (k := 1) (lim_C8_1 (Or.inl rfl))
  refine s_X11_seenIsSo_0 C hN  ?_
  have w_47 := Int32.toInt_lt a1
  have w_48 := Int32.le_toInt a1
  have z_49 : (0 : Int32).toInt = 0 := rfl
  exact U13 a1 (0 : Int32) σ0 m0 f0 (by omega) (by omega) (by first | with_reducible assumption | with_reducible rfl | omega | assumption | rfl) (by omega)
set_option maxRecDepth 100000 in
set_option maxHeartbeats 4000000 in
theorem k_X11_allSeenIsSo {l : Launch} {V : Vx} {σ0 : Sg} {Qk : Int32 → Sg → Prop} (m0 : XI V σ0) (nn_33 : NN σ0 33) (pre0 : (gi σ0 33 9).toInt ≤ 10000) (h9ret : ∀ (r : Int32) (σ' : Sg), XI V σ' → FX (fun id => id = 36 ∨ id = 37 ∨ id = 38 ∨ id = 39 ∨ id = 47 ∨ id = 48) (fun id k => (id = 33 ∧ k = 9)) σ0 σ' → (NN σ' 33) → (0 ≤ r.toInt) → (r.toInt ≤ 1) → Qk r σ') : K_X11_allSeenIsSo l V σ0 Qk := by
  refine e_X11_allSeenIsSo (fun M hl hV hN C => ?_)
  subst hl
  subst hV
  have T : ∀ n : Nat, (∀ (x1 : Int32) (σ : Sg), XI (mV M) σ → FX (fun id => id = 36 ∨ id = 37 ∨ id = 38 ∨ id = 39 ∨ id = 47 ∨ id = 48) (fun id k => (id = 33 ∧ k = 9)) σ0 σ → NN σ 33 → (0 ≤ x1.toInt) → (x1.toInt ≤ 31) → ((gi σ 33 9).toInt ≤ 10000 + x1.toInt) → (32 - x1.toInt).toNat < n → PS M 2 [(0, .ref 0), (1, .int x1)] [] σ (0, 0)) := by
    intro n
    induction n with
    | zero => exact fun _ _ _ _ _ _ _ _ h8 => absurd h8 (Nat.not_lt_zero _)
    | succ n ih =>
      have ih2 := ih
      · intro x1 σ mσ fσ nσ_33 lx1 ux1 i0 hmu
        have k_1 : (gi σ 1 1).toInt = (gi σ0 1 1).toInt := congrArg Int32.toInt (FX_i fσ (show ¬ (1 = 36 ∨ 1 = 37 ∨ 1 = 38 ∨ 1 = 39 ∨ 1 = 47 ∨ 1 = 48) from by omega) (show ¬ ((1 = 33 ∧ 1 = 9)) from by omega))
        have t_2 := XI_c1 mσ (id := 1) (k := 1) (lim_C0_1 (Or.inl rfl))
        have t_3 := XI_c1 mσ (id := 33) (k := 9) (lim_C0_9 (Or.inr (Or.inr rfl)))
        refine s_X11_allSeenIsSo_2 C hN  ?_
        refine ⟨?_, ?_⟩
        · intro q_4
          have b_5 : (30 : Int) < x1.toInt := Int32.lt_iff_toInt_lt.mp q_4
          have z_6 : (1 : Int32).toInt = 1 := rfl
          exact h9ret (1 : Int32) σ mσ fσ nσ_33 (by omega) (by omega)
        · intro q_4
          have b_7 : ¬ (30 : Int) < x1.toInt := fun h9 => q_4 (Int32.lt_iff_toInt_lt.mpr h9)
          refine k_X11_seenIsSo  mσ   (fun r3 σ2 mσ2 cσ2 => ?_)
          obtain rfl := FX_nil cσ2
          refine ⟨?_, ?_⟩
          · intro q_8
            have w_9 := Int32.toInt_lt r3
            have w_10 := Int32.le_toInt r3
            have b_11 : ¬ r3.toInt = 0 := fun h9 => q_8 (Int32.toInt_inj.mp h9)
            refine k_X1_goesMinute (Or.inr (Or.inr rfl)) mσ nσ_33 (by first | with_reducible assumption | with_reducible rfl | omega | assumption | rfl) (fun r6 σ5 mσ5 cσ5 nσ5_33 (pσ5_0 : (gi σ5 33 9).toInt = (gi σ 33 9).toInt + 1) => ?_)
            have fσ5 : FX (fun id => id = 36 ∨ id = 37 ∨ id = 38 ∨ id = 39 ∨ id = 47 ∨ id = 48) (fun id k => (id = 33 ∧ k = 9)) σ0 σ5 := FX_tr fσ cσ5 (fun x (h9 : x = 47 ∨ x = 48 ∨ x = 36 ∨ x = 37 ∨ x = 38 ∨ x = 39) => h9.elim (fun e9 => (show x = 36 ∨ x = 37 ∨ x = 38 ∨ x = 39 ∨ x = 47 ∨ x = 48 from Or.inr (Or.inr (Or.inr (Or.inr (Or.inl (e9))))))) (fun h9 => h9.elim (fun e9 => (show x = 36 ∨ x = 37 ∨ x = 38 ∨ x = 39 ∨ x = 47 ∨ x = 48 from Or.inr (Or.inr (Or.inr (Or.inr (Or.inr (e9))))))) (fun h9 => h9.elim (fun e9 => (show x = 36 ∨ x = 37 ∨ x = 38 ∨ x = 39 ∨ x = 47 ∨ x = 48 from Or.inl (e9))) (fun h9 => h9.elim (fun e9 => (show x = 36 ∨ x = 37 ∨ x = 38 ∨ x = 39 ∨ x = 47 ∨ x = 48 from Or.inr (Or.inl (e9)))) (fun h9 => h9.elim (fun e9 => (show x = 36 ∨ x = 37 ∨ x = 38 ∨ x = 39 ∨ x = 47 ∨ x = 48 from Or.inr (Or.inr (Or.inl (e9))))) (fun h9 => (show x = 36 ∨ x = 37 ∨ x = 38 ∨ x = 39 ∨ x = 47 ∨ x = 48 from Or.inr (Or.inr (Or.inr (Or.inl (h9))))))))))) (fun x k (h9 : (x = 33 ∧ k = 9)) => (show (x = 36 ∨ x = 37 ∨ x = 38 ∨ x = 39 ∨ x = 47 ∨ x = 48) ∨ ((x = 33 ∧ k = 9)) from Or.inr (show (x = 33 ∧ k = 9) from h9)))
            have k_12 : (gi σ5 1 1).toInt = (gi σ 1 1).toInt := congrArg Int32.toInt (FX_i cσ5 (show ¬ (1 = 47 ∨ 1 = 48 ∨ 1 = 36 ∨ 1 = 37 ∨ 1 = 38 ∨ 1 = 39) from by omega) (show ¬ ((1 = 33 ∧ 1 = 9)) from by omega))
            have t_13 := XI_c1 mσ5 (id := 33) (k := 9) (lim_C0_9 (Or.inr (Or.inr rfl)))
            intro v7 ev7
            have t_14 : (x1 + (1 : Int32)).toInt = x1.toInt + 1 := i_add (x := x1) (y := (1 : Int32)) (by show (_ : Int) ≤ x1.toInt + 1; omega) (by show x1.toInt + 1 ≤ (_ : Int); omega)
            have t_15 : v7.toInt = (x1 + (1 : Int32)).toInt := congrArg Int32.toInt ev7
            exact ih2 v7 σ5 mσ5 fσ5 nσ5_33 (by omega) (by omega) (by first | with_reducible assumption | with_reducible rfl | omega | assumption | rfl) (by omega)
          · intro q_8
            have w_16 := Int32.toInt_lt r3
            have w_17 := Int32.le_toInt r3
            have b_18 : r3.toInt = 0 := congrArg Int32.toInt q_8
            have z_19 : (0 : Int32).toInt = 0 := rfl
            exact h9ret (0 : Int32) σ mσ fσ nσ_33 (by omega) (by omega)
  have U2 := T 90
  have f0 : FX (fun id => id = 36 ∨ id = 37 ∨ id = 38 ∨ id = 39 ∨ id = 47 ∨ id = 48) (fun id k => (id = 33 ∧ k = 9)) σ0 σ0 := FX_rf
  have t_20 := XI_c1 m0 (id := 1) (k := 1) (lim_C0_1 (Or.inl rfl))
  have t_21 := XI_c1 m0 (id := 33) (k := 9) (lim_C0_9 (Or.inr (Or.inr rfl)))
  refine s_X11_allSeenIsSo_0 C hN  ?_
  have z_22 : (0 : Int32).toInt = 0 := rfl
  exact U2 (0 : Int32) σ0 m0 f0 nn_33 (by omega) (by omega) (by first | with_reducible assumption | with_reducible rfl | omega | assumption | rfl) (by omega)
set_option maxRecDepth 100000 in
set_option maxHeartbeats 4000000 in
theorem k_X11_who {l : Launch} {V : Vx} {σ0 : Sg} {Qk : Int32 → Sg → Prop} (m0 : XI V σ0) (nn_1 : NN σ0 1) (pre0 : (gi σ0 1 9).toInt ≤ 9999) (h9ret : ∀ (r : Int32) (σ' : Sg), XI V σ' → FX (fun id => id = 34 ∨ id = 35 ∨ id = 36 ∨ id = 37 ∨ id = 38 ∨ id = 39 ∨ id = 40 ∨ id = 47 ∨ id = 48) (fun id k => (id = 33 ∧ k = 1) ∨ (id = 33 ∧ k = 3) ∨ (id = 33 ∧ k = 9) ∨ (id = 33 ∧ k = 10) ∨ (id = 33 ∧ k = 11)) σ0 σ' → (NN σ' 1) → Qk r σ') : K_X11_who l V σ0 Qk := by
  refine e_X11_who (fun M hl hV hN C => ?_)
  subst hl
  subst hV
  have T : ∀ n : Nat, (∀ (x1 : Int32) (x2 : Int32) (σ : Sg), XI (mV M) σ → FX (fun id => id = 34 ∨ id = 35 ∨ id = 36 ∨ id = 37 ∨ id = 38 ∨ id = 39 ∨ id = 40 ∨ id = 47 ∨ id = 48) (fun id k => (id = 33 ∧ k = 1) ∨ (id = 33 ∧ k = 3) ∨ (id = 33 ∧ k = 9) ∨ (id = 33 ∧ k = 10) ∨ (id = 33 ∧ k = 11)) σ0 σ → NN σ 1 → (0 ≤ x2.toInt) → (x2.toInt ≤ 6) → (7 - x2.toInt).toNat < n → PS M 4 [(0, .ref 0), (1, .int x1), (2, .int x2)] [] σ (0, 0)) := by
    intro n
    induction n with
    | zero => exact fun _ _ _ _ _ _ _ _ h8 => absurd h8 (Nat.not_lt_zero _)
    | succ n ih =>
      have ih4 := ih
      · intro x1 x2 σ mσ fσ nσ_1 lx2 ux2 hmu
        have k_1 : (gi σ 1 1).toInt = (gi σ0 1 1).toInt := congrArg Int32.toInt (FX_i fσ (show ¬ (1 = 34 ∨ 1 = 35 ∨ 1 = 36 ∨ 1 = 37 ∨ 1 = 38 ∨ 1 = 39 ∨ 1 = 40 ∨ 1 = 47 ∨ 1 = 48) from by omega) (show ¬ ((1 = 33 ∧ 1 = 1) ∨ (1 = 33 ∧ 1 = 3) ∨ (1 = 33 ∧ 1 = 9) ∨ (1 = 33 ∧ 1 = 10) ∨ (1 = 33 ∧ 1 = 11)) from by omega))
        have t_2 := XI_c1 mσ (id := 1) (k := 1) (lim_C0_1 (Or.inl rfl))
        have k_3 : (gi σ 1 9).toInt = (gi σ0 1 9).toInt := congrArg Int32.toInt (FX_i fσ (show ¬ (1 = 34 ∨ 1 = 35 ∨ 1 = 36 ∨ 1 = 37 ∨ 1 = 38 ∨ 1 = 39 ∨ 1 = 40 ∨ 1 = 47 ∨ 1 = 48) from by omega) (show ¬ ((1 = 33 ∧ 9 = 1) ∨ (1 = 33 ∧ 9 = 3) ∨ (1 = 33 ∧ 9 = 9) ∨ (1 = 33 ∧ 9 = 10) ∨ (1 = 33 ∧ 9 = 11)) from by omega))
        have t_4 := XI_c1 mσ (id := 1) (k := 9) (lim_C0_9 (Or.inl rfl))
        have t_5 := XI_c1 mσ (id := 33) (k := 1) (lim_C0_1 (Or.inr (Or.inr rfl)))
        have t_6 := XI_c1 mσ (id := 33) (k := 9) (lim_C0_9 (Or.inr (Or.inr rfl)))
        refine s_X11_who_4 C hN  ?_
        refine ⟨?_, ?_⟩
        · intro q_7
          have b_8 : (gi σ 1 1).toInt ≤ x2.toInt := Int32.le_iff_toInt_le.mp q_7
          exact h9ret x1 σ mσ fσ nσ_1
        · intro q_7
          have b_9 : ¬ (gi σ 1 1).toInt ≤ x2.toInt := fun h9 => q_7 (Int32.le_iff_toInt_le.mpr h9)
          have z_10 : (1 : Int32).toInt = 1 := rfl
          refine k_X1_becomes (Or.inr (Or.inr rfl)) (Or.inl rfl) mσ nσ_1 (by first | with_reducible assumption | with_reducible rfl | omega | assumption | rfl) (fun σ2 mσ2 cσ2 nσ2_1 nσ2_33 (pσ2_0 : (gi σ2 33 1).toInt = (gi σ 1 1).toInt) (pσ2_1 : (gi σ2 33 3).toInt = (gi σ 1 3).toInt) (pσ2_2 : (gi σ2 33 9).toInt = (gi σ 1 9).toInt) (pσ2_3 : CPY σ σ2 33 1) => ?_)
          have fσ2 : FX (fun id => id = 34 ∨ id = 35 ∨ id = 36 ∨ id = 37 ∨ id = 38 ∨ id = 39 ∨ id = 40 ∨ id = 47 ∨ id = 48) (fun id k => (id = 33 ∧ k = 1) ∨ (id = 33 ∧ k = 3) ∨ (id = 33 ∧ k = 9) ∨ (id = 33 ∧ k = 10) ∨ (id = 33 ∧ k = 11)) σ0 σ2 := FX_tr fσ cσ2 (fun x (h9 : x = 34 ∨ x = 35 ∨ x = 36 ∨ x = 37 ∨ x = 38 ∨ x = 39 ∨ x = 40) => h9.elim (fun e9 => (show x = 34 ∨ x = 35 ∨ x = 36 ∨ x = 37 ∨ x = 38 ∨ x = 39 ∨ x = 40 ∨ x = 47 ∨ x = 48 from Or.inl (e9))) (fun h9 => h9.elim (fun e9 => (show x = 34 ∨ x = 35 ∨ x = 36 ∨ x = 37 ∨ x = 38 ∨ x = 39 ∨ x = 40 ∨ x = 47 ∨ x = 48 from Or.inr (Or.inl (e9)))) (fun h9 => h9.elim (fun e9 => (show x = 34 ∨ x = 35 ∨ x = 36 ∨ x = 37 ∨ x = 38 ∨ x = 39 ∨ x = 40 ∨ x = 47 ∨ x = 48 from Or.inr (Or.inr (Or.inl (e9))))) (fun h9 => h9.elim (fun e9 => (show x = 34 ∨ x = 35 ∨ x = 36 ∨ x = 37 ∨ x = 38 ∨ x = 39 ∨ x = 40 ∨ x = 47 ∨ x = 48 from Or.inr (Or.inr (Or.inr (Or.inl (e9)))))) (fun h9 => h9.elim (fun e9 => (show x = 34 ∨ x = 35 ∨ x = 36 ∨ x = 37 ∨ x = 38 ∨ x = 39 ∨ x = 40 ∨ x = 47 ∨ x = 48 from Or.inr (Or.inr (Or.inr (Or.inr (Or.inl (e9))))))) (fun h9 => h9.elim (fun e9 => (show x = 34 ∨ x = 35 ∨ x = 36 ∨ x = 37 ∨ x = 38 ∨ x = 39 ∨ x = 40 ∨ x = 47 ∨ x = 48 from Or.inr (Or.inr (Or.inr (Or.inr (Or.inr (Or.inl (e9)))))))) (fun h9 => (show x = 34 ∨ x = 35 ∨ x = 36 ∨ x = 37 ∨ x = 38 ∨ x = 39 ∨ x = 40 ∨ x = 47 ∨ x = 48 from Or.inr (Or.inr (Or.inr (Or.inr (Or.inr (Or.inr (Or.inl (h9))))))))))))))) (fun x k (h9 : (x = 33 ∧ k = 1) ∨ (x = 33 ∧ k = 3) ∨ (x = 33 ∧ k = 9) ∨ (x = 33 ∧ k = 10) ∨ (x = 33 ∧ k = 11)) => (show (x = 34 ∨ x = 35 ∨ x = 36 ∨ x = 37 ∨ x = 38 ∨ x = 39 ∨ x = 40 ∨ x = 47 ∨ x = 48) ∨ ((x = 33 ∧ k = 1) ∨ (x = 33 ∧ k = 3) ∨ (x = 33 ∧ k = 9) ∨ (x = 33 ∧ k = 10) ∨ (x = 33 ∧ k = 11)) from h9.elim (fun e9 => Or.inr (show (x = 33 ∧ k = 1) ∨ (x = 33 ∧ k = 3) ∨ (x = 33 ∧ k = 9) ∨ (x = 33 ∧ k = 10) ∨ (x = 33 ∧ k = 11) from Or.inl (e9))) (fun h9 => h9.elim (fun e9 => Or.inr (show (x = 33 ∧ k = 1) ∨ (x = 33 ∧ k = 3) ∨ (x = 33 ∧ k = 9) ∨ (x = 33 ∧ k = 10) ∨ (x = 33 ∧ k = 11) from Or.inr (Or.inl (e9)))) (fun h9 => h9.elim (fun e9 => Or.inr (show (x = 33 ∧ k = 1) ∨ (x = 33 ∧ k = 3) ∨ (x = 33 ∧ k = 9) ∨ (x = 33 ∧ k = 10) ∨ (x = 33 ∧ k = 11) from Or.inr (Or.inr (Or.inl (e9))))) (fun h9 => h9.elim (fun e9 => Or.inr (show (x = 33 ∧ k = 1) ∨ (x = 33 ∧ k = 3) ∨ (x = 33 ∧ k = 9) ∨ (x = 33 ∧ k = 10) ∨ (x = 33 ∧ k = 11) from Or.inr (Or.inr (Or.inr (Or.inl (e9)))))) (fun h9 => Or.inr (show (x = 33 ∧ k = 1) ∨ (x = 33 ∧ k = 3) ∨ (x = 33 ∧ k = 9) ∨ (x = 33 ∧ k = 10) ∨ (x = 33 ∧ k = 11) from Or.inr (Or.inr (Or.inr (Or.inr (h9)))))))))))
          have k_11 : (gi σ2 1 1).toInt = (gi σ 1 1).toInt := congrArg Int32.toInt (FX_i cσ2 (show ¬ (1 = 34 ∨ 1 = 35 ∨ 1 = 36 ∨ 1 = 37 ∨ 1 = 38 ∨ 1 = 39 ∨ 1 = 40) from by omega) (show ¬ ((1 = 33 ∧ 1 = 1) ∨ (1 = 33 ∧ 1 = 3) ∨ (1 = 33 ∧ 1 = 9) ∨ (1 = 33 ∧ 1 = 10) ∨ (1 = 33 ∧ 1 = 11)) from by omega))
          have k_12 : (gi σ2 1 9).toInt = (gi σ 1 9).toInt := congrArg Int32.toInt (FX_i cσ2 (show ¬ (1 = 34 ∨ 1 = 35 ∨ 1 = 36 ∨ 1 = 37 ∨ 1 = 38 ∨ 1 = 39 ∨ 1 = 40) from by omega) (show ¬ ((1 = 33 ∧ 9 = 1) ∨ (1 = 33 ∧ 9 = 3) ∨ (1 = 33 ∧ 9 = 9) ∨ (1 = 33 ∧ 9 = 10) ∨ (1 = 33 ∧ 9 = 11)) from by omega))
          have t_13 := XI_c1 mσ2 (id := 33) (k := 1) (lim_C0_1 (Or.inr (Or.inr rfl)))
          have t_14 := XI_c1 mσ2 (id := 33) (k := 9) (lim_C0_9 (Or.inr (Or.inr rfl)))
          have hv_15 : vp_in x2 6 := vp_in_iff.mpr ⟨by omega, by omega⟩
          refine ⟨hv_15, ?_⟩
          refine ⟨hv_15, ?_⟩
          intro σ5 eσ5
          have mσ5 : XI (mV M) σ5 := by rw [eσ5]; exact XIs_n mσ2 (lim_C6 (Or.inr (Or.inr rfl)) _)
          have fσ5 : FX (fun id => id = 34 ∨ id = 35 ∨ id = 36 ∨ id = 37 ∨ id = 38 ∨ id = 39 ∨ id = 40 ∨ id = 47 ∨ id = 48) (fun id k => (id = 33 ∧ k = 1) ∨ (id = 33 ∧ k = 3) ∨ (id = 33 ∧ k = 9) ∨ (id = 33 ∧ k = 10) ∨ (id = 33 ∧ k = 11)) σ0 σ5 := by rw [eσ5]; exact FX_si fσ2 (Or.inl (show 39 = 34 ∨ 39 = 35 ∨ 39 = 36 ∨ 39 = 37 ∨ 39 = 38 ∨ 39 = 39 ∨ 39 = 40 ∨ 39 = 47 ∨ 39 = 48 from Or.inr (Or.inr (Or.inr (Or.inr (Or.inr (Or.inl (rfl))))))))
          have k_16 : (gi σ5 1 1).toInt = (gi σ2 1 1).toInt := by rw [eσ5]; exact congrArg Int32.toInt (gi_si_ne (Or.inl (by omega)))
          have k_17 : (gi σ5 1 9).toInt = (gi σ2 1 9).toInt := by rw [eσ5]; exact congrArg Int32.toInt (gi_si_ne (Or.inl (by omega)))
          have k_18 : (gi σ5 33 1).toInt = (gi σ2 33 1).toInt := by rw [eσ5]; exact congrArg Int32.toInt (gi_si_ne (Or.inl (by omega)))
          have k_19 : (gi σ5 33 9).toInt = (gi σ2 33 9).toInt := by rw [eσ5]; exact congrArg Int32.toInt (gi_si_ne (Or.inl (by omega)))
          have nσ5_1 : NN σ5 1 := by rw [eσ5]; exact NN_si nσ2_1 (by omega) (fun h9 => absurd h9 (by omega))
          have nσ5_33 : NN σ5 33 := by rw [eσ5]; exact NN_si nσ2_33 (by omega) (fun h9 => absurd h9 (by omega))
          refine k_X11_allSeenIsSo  mσ5 nσ5_33 (by first | with_reducible assumption | with_reducible rfl | omega | assumption | rfl) (fun r7 σ6 mσ6 cσ6 nσ6_33 plσ6 phσ6 => ?_)
          have fσ6 : FX (fun id => id = 34 ∨ id = 35 ∨ id = 36 ∨ id = 37 ∨ id = 38 ∨ id = 39 ∨ id = 40 ∨ id = 47 ∨ id = 48) (fun id k => (id = 33 ∧ k = 1) ∨ (id = 33 ∧ k = 3) ∨ (id = 33 ∧ k = 9) ∨ (id = 33 ∧ k = 10) ∨ (id = 33 ∧ k = 11)) σ0 σ6 := FX_tr fσ5 cσ6 (fun x (h9 : x = 36 ∨ x = 37 ∨ x = 38 ∨ x = 39 ∨ x = 47 ∨ x = 48) => h9.elim (fun e9 => (show x = 34 ∨ x = 35 ∨ x = 36 ∨ x = 37 ∨ x = 38 ∨ x = 39 ∨ x = 40 ∨ x = 47 ∨ x = 48 from Or.inr (Or.inr (Or.inl (e9))))) (fun h9 => h9.elim (fun e9 => (show x = 34 ∨ x = 35 ∨ x = 36 ∨ x = 37 ∨ x = 38 ∨ x = 39 ∨ x = 40 ∨ x = 47 ∨ x = 48 from Or.inr (Or.inr (Or.inr (Or.inl (e9)))))) (fun h9 => h9.elim (fun e9 => (show x = 34 ∨ x = 35 ∨ x = 36 ∨ x = 37 ∨ x = 38 ∨ x = 39 ∨ x = 40 ∨ x = 47 ∨ x = 48 from Or.inr (Or.inr (Or.inr (Or.inr (Or.inl (e9))))))) (fun h9 => h9.elim (fun e9 => (show x = 34 ∨ x = 35 ∨ x = 36 ∨ x = 37 ∨ x = 38 ∨ x = 39 ∨ x = 40 ∨ x = 47 ∨ x = 48 from Or.inr (Or.inr (Or.inr (Or.inr (Or.inr (Or.inl (e9)))))))) (fun h9 => h9.elim (fun e9 => (show x = 34 ∨ x = 35 ∨ x = 36 ∨ x = 37 ∨ x = 38 ∨ x = 39 ∨ x = 40 ∨ x = 47 ∨ x = 48 from Or.inr (Or.inr (Or.inr (Or.inr (Or.inr (Or.inr (Or.inr (Or.inl (e9)))))))))) (fun h9 => (show x = 34 ∨ x = 35 ∨ x = 36 ∨ x = 37 ∨ x = 38 ∨ x = 39 ∨ x = 40 ∨ x = 47 ∨ x = 48 from Or.inr (Or.inr (Or.inr (Or.inr (Or.inr (Or.inr (Or.inr (Or.inr (h9))))))))))))))) (fun x k (h9 : (x = 33 ∧ k = 9)) => (show (x = 34 ∨ x = 35 ∨ x = 36 ∨ x = 37 ∨ x = 38 ∨ x = 39 ∨ x = 40 ∨ x = 47 ∨ x = 48) ∨ ((x = 33 ∧ k = 1) ∨ (x = 33 ∧ k = 3) ∨ (x = 33 ∧ k = 9) ∨ (x = 33 ∧ k = 10) ∨ (x = 33 ∧ k = 11)) from Or.inr (show (x = 33 ∧ k = 1) ∨ (x = 33 ∧ k = 3) ∨ (x = 33 ∧ k = 9) ∨ (x = 33 ∧ k = 10) ∨ (x = 33 ∧ k = 11) from Or.inr (Or.inr (Or.inl (h9))))))
          have k_20 : (gi σ6 1 1).toInt = (gi σ5 1 1).toInt := congrArg Int32.toInt (FX_i cσ6 (show ¬ (1 = 36 ∨ 1 = 37 ∨ 1 = 38 ∨ 1 = 39 ∨ 1 = 47 ∨ 1 = 48) from by omega) (show ¬ ((1 = 33 ∧ 1 = 9)) from by omega))
          have k_21 : (gi σ6 1 9).toInt = (gi σ5 1 9).toInt := congrArg Int32.toInt (FX_i cσ6 (show ¬ (1 = 36 ∨ 1 = 37 ∨ 1 = 38 ∨ 1 = 39 ∨ 1 = 47 ∨ 1 = 48) from by omega) (show ¬ ((1 = 33 ∧ 9 = 9)) from by omega))
          have k_22 : (gi σ6 33 1).toInt = (gi σ5 33 1).toInt := congrArg Int32.toInt (FX_i cσ6 (show ¬ (33 = 36 ∨ 33 = 37 ∨ 33 = 38 ∨ 33 = 39 ∨ 33 = 47 ∨ 33 = 48) from by omega) (show ¬ ((33 = 33 ∧ 1 = 9)) from by omega))
          have t_23 := XI_c1 mσ6 (id := 33) (k := 9) (lim_C0_9 (Or.inr (Or.inr rfl)))
          have nσ6_1 : NN σ6 1 := NN_fx nσ5_1 cσ6 (show ¬ (1 = 36 ∨ 1 = 37 ∨ 1 = 38 ∨ 1 = 39 ∨ 1 = 47 ∨ 1 = 48) from by omega) (show ¬ (2 = 36 ∨ 2 = 37 ∨ 2 = 38 ∨ 2 = 39 ∨ 2 = 47 ∨ 2 = 48) from by omega) (show ¬ (3 = 36 ∨ 3 = 37 ∨ 3 = 38 ∨ 3 = 39 ∨ 3 = 47 ∨ 3 = 48) from by omega) (show ¬ ((1 = 33 ∧ 1 = 9)) from by omega) (show ¬ ((1 = 33 ∧ 3 = 9)) from by omega) (fun k (h9 : (2 = 33 ∧ k = 9)) => by omega) (fun k (h9 : (3 = 33 ∧ k = 9)) => by omega)
          refine ⟨?_, ?_⟩
          · intro q_24
            have b_25 : r7.toInt = 0 := congrArg Int32.toInt q_24
            intro v9 ev9
            have t_26 : (x2 + (1 : Int32)).toInt = x2.toInt + 1 := i_add (x := x2) (y := (1 : Int32)) (by show (_ : Int) ≤ x2.toInt + 1; omega) (by show x2.toInt + 1 ≤ (_ : Int); omega)
            have t_27 : v9.toInt = (x2 + (1 : Int32)).toInt := congrArg Int32.toInt ev9
            have w_28 := Int32.toInt_lt x1
            have w_29 := Int32.le_toInt x1
            exact ih4 x1 v9 σ6 mσ6 fσ6 nσ6_1 (by omega) (by omega) (by omega)
          · intro q_24
            have b_30 : ¬ r7.toInt = 0 := fun h9 => q_24 (Int32.toInt_inj.mp h9)
            intro v10 ev10
            intro v11 ev11
            have t_31 : (x2 + (1 : Int32)).toInt = x2.toInt + 1 := i_add (x := x2) (y := (1 : Int32)) (by show (_ : Int) ≤ x2.toInt + 1; omega) (by show x2.toInt + 1 ≤ (_ : Int); omega)
            have t_32 : v11.toInt = (x2 + (1 : Int32)).toInt := congrArg Int32.toInt ev11
            have w_33 := Int32.toInt_lt v10
            have w_34 := Int32.le_toInt v10
            exact ih4 v10 v11 σ6 mσ6 fσ6 nσ6_1 (by omega) (by omega) (by omega)
  have U4 := T 9
  have f0 : FX (fun id => id = 34 ∨ id = 35 ∨ id = 36 ∨ id = 37 ∨ id = 38 ∨ id = 39 ∨ id = 40 ∨ id = 47 ∨ id = 48) (fun id k => (id = 33 ∧ k = 1) ∨ (id = 33 ∧ k = 3) ∨ (id = 33 ∧ k = 9) ∨ (id = 33 ∧ k = 10) ∨ (id = 33 ∧ k = 11)) σ0 σ0 := FX_rf
  have t_35 := XI_c1 m0 (id := 1) (k := 1) (lim_C0_1 (Or.inl rfl))
  have t_36 := XI_c1 m0 (id := 1) (k := 9) (lim_C0_9 (Or.inl rfl))
  have t_37 := XI_c1 m0 (id := 33) (k := 1) (lim_C0_1 (Or.inr (Or.inr rfl)))
  have t_38 := XI_c1 m0 (id := 33) (k := 9) (lim_C0_9 (Or.inr (Or.inr rfl)))
  refine s_X11_who_0 C hN  ?_
  have z_39 : (0 : Int32).toInt = 0 := rfl
  exact U4 (0 : Int32) (0 : Int32) σ0 m0 f0 nn_1 (by omega) (by omega) (by omega)
set_option maxRecDepth 100000 in
set_option maxHeartbeats 4000000 in
theorem k_X11_lowest {l : Launch} {V : Vx} {a1 : Int32} {a2 : Int32} {a3 : Int32} {σ0 : Sg} {Qk : Int64 → Sg → Prop} (m0 : XI V σ0) (h9ret : ∀ (r : Int64) (σ' : Sg), XI V σ' → FX (fun id => False) (fun _ _ => False) σ0 σ' → Qk r σ') : K_X11_lowest l V a1 a2 a3 σ0 Qk := by
  refine e_X11_lowest (fun M hl hV hN C => ?_)
  subst hl
  subst hV
  have T : ∀ n : Nat, (∀ (x0 : Int32) (x1 : Int32) (x2 : Int32) (x3 : Int32) (x4 : Int32) (x5 : Int32) (σ : Sg), XI (mV M) σ → FX (fun id => False) (fun _ _ => False) σ0 σ → (0 ≤ x5.toInt) → (x5.toInt ≤ 100) → (101 - x5.toInt).toNat + 5 < n → PS M 8 [(0, .int x0), (1, .int x1), (2, .int x2), (3, .int x3), (4, .int x4), (5, .int x5)] [] σ (0, 0)) ∧ (∀ (x0 : Int32) (x1 : Int32) (x2 : Int32) (x3 : Int32) (σ : Sg), XI (mV M) σ → FX (fun id => False) (fun _ _ => False) σ0 σ → 1 < n → PS M 39 [(0, .int x0), (1, .int x1), (2, .int x2), (3, .int x3)] [] σ (0, 0)) := by
    intro n
    induction n with
    | zero => exact ⟨fun _ _ _ _ _ _ _ _ _ _ _ h8 => absurd h8 (Nat.not_lt_zero _), fun _ _ _ _ _ _ _ h8 => absurd h8 (Nat.not_lt_zero _)⟩
    | succ n ih =>
      obtain ⟨ih8, ih39⟩ := ih
      refine ⟨?_, ?_⟩
      · intro x0 x1 x2 x3 x4 x5 σ mσ fσ lx5 ux5 hmu
        refine s_X11_lowest_8 C hN  ?_
        refine ⟨?_, ?_⟩
        · intro q_1
          have b_2 : (100 : Int) ≤ x5.toInt := Int32.le_iff_toInt_le.mp q_1
          have w_3 := Int32.toInt_lt x0
          have w_4 := Int32.le_toInt x0
          have w_5 := Int32.toInt_lt x1
          have w_6 := Int32.le_toInt x1
          have w_7 := Int32.toInt_lt x2
          have w_8 := Int32.le_toInt x2
          have w_9 := Int32.toInt_lt x3
          have w_10 := Int32.le_toInt x3
          exact ih39 x0 x1 x2 x3 σ mσ fσ (by omega)
        · intro q_1
          have b_11 : ¬ (100 : Int) ≤ x5.toInt := fun h9 => q_1 (Int32.le_iff_toInt_le.mpr h9)
          refine ⟨?_, ?_⟩
          · intro q_12
            have w_13 := Int32.toInt_lt x4
            have w_14 := Int32.le_toInt x4
            have b_15 : x4.toInt ≤ 0 := Int32.le_iff_toInt_le.mp q_12
            have w_16 := Int32.toInt_lt x0
            have w_17 := Int32.le_toInt x0
            have w_18 := Int32.toInt_lt x1
            have w_19 := Int32.le_toInt x1
            have w_20 := Int32.toInt_lt x2
            have w_21 := Int32.le_toInt x2
            have w_22 := Int32.toInt_lt x3
            have w_23 := Int32.le_toInt x3
            exact ih39 x0 x1 x2 x3 σ mσ fσ (by omega)
          · intro q_12
            have w_24 := Int32.toInt_lt x4
            have w_25 := Int32.le_toInt x4
            have b_26 : ¬ x4.toInt ≤ 0 := fun h9 => q_12 (Int32.le_iff_toInt_le.mpr h9)
            refine ⟨fun h9 => ?_, ?_⟩
            · have h9 : x4.toInt = 0 := congrArg Int32.toInt h9
              omega
            intro v4 ev4
            intro v5 ev5
            have t_27 : (x5 + (1 : Int32)).toInt = x5.toInt + 1 := i_add (x := x5) (y := (1 : Int32)) (by show (_ : Int) ≤ x5.toInt + 1; omega) (by show x5.toInt + 1 ≤ (_ : Int); omega)
            have t_28 : v5.toInt = (x5 + (1 : Int32)).toInt := congrArg Int32.toInt ev5
            have w_29 := Int32.toInt_lt x0
            have w_30 := Int32.le_toInt x0
            have w_31 := Int32.toInt_lt x1
            have w_32 := Int32.le_toInt x1
            have w_33 := Int32.toInt_lt x2
            have w_34 := Int32.le_toInt x2
            have w_35 := Int32.toInt_lt v4
            have w_36 := Int32.le_toInt v4
            exact ih8 x0 x1 x2 x4 v4 v5 σ mσ fσ (by omega) (by omega) (by omega)
      · intro x0 x1 x2 x3 σ mσ fσ hmu
        refine s_X11_lowest_39 C hN  ?_
        refine ⟨?_, ?_⟩
        · intro q_37
          have w_38 := Int32.toInt_lt x3
          have w_39 := Int32.le_toInt x3
          have b_40 : (1 : Int) ≤ x3.toInt := Int32.le_iff_toInt_le.mp q_37
          refine ⟨?_, ?_⟩
          · intro q_41
            have w_42 := Int32.toInt_lt x2
            have w_43 := Int32.le_toInt x2
            have b_44 : ¬ x2.toInt = 0 := fun h9 => q_41 (Int32.toInt_inj.mp h9)
            refine ⟨fun h9 => ?_, ?_⟩
            · have h9 : x3.toInt = 0 := congrArg Int32.toInt h9
              omega
            exact h9ret ((x1 / x3).toInt64) σ mσ fσ
          · intro q_41
            have w_45 := Int32.toInt_lt x2
            have w_46 := Int32.le_toInt x2
            have b_47 : x2.toInt = 0 := congrArg Int32.toInt q_41
            refine ⟨fun h9 => ?_, ?_⟩
            · have h9 : x3.toInt = 0 := congrArg Int32.toInt h9
              omega
            exact h9ret ((x0 / x3).toInt64) σ mσ fσ
        · intro q_37
          have w_48 := Int32.toInt_lt x3
          have w_49 := Int32.le_toInt x3
          have b_50 : ¬ (1 : Int) ≤ x3.toInt := fun h9 => q_37 (Int32.le_iff_toInt_le.mpr h9)
          exact h9ret (-9223372036854775808 : Int64) σ mσ fσ
  obtain ⟨U8, U39⟩ := T 200
  have f0 : FX (fun id => False) (fun _ _ => False) σ0 σ0 := FX_rf
  refine s_X11_lowest_0 C hN  ?_
  have w_51 := Int32.toInt_lt a1
  have w_52 := Int32.le_toInt a1
  have w_53 := Int32.toInt_lt a2
  have w_54 := Int32.le_toInt a2
  have w_55 := Int32.toInt_lt a3
  have w_56 := Int32.le_toInt a3
  have z_57 : (0 : Int32).toInt = 0 := rfl
  exact U8 a1 a2 a3 a2 a1 (0 : Int32) σ0 m0 f0 (by omega) (by omega) (by omega)
set_option maxRecDepth 100000 in
set_option maxHeartbeats 4000000 in
theorem k_X11_odds {l : Launch} {V : Vx} {a1 : Int32} {a2 : Int32} {a3 : Int32} {σ0 : Sg} {Qk : Int64 → Sg → Prop} (m0 : XI V σ0) (nn_1 : NN σ0 1) (pre0 : (gi σ0 1 9).toInt ≤ 9999) (h9ret : ∀ (r : Int64) (σ' : Sg), XI V σ' → FX (fun id => id = 34 ∨ id = 35 ∨ id = 36 ∨ id = 37 ∨ id = 38 ∨ id = 39 ∨ id = 40 ∨ id = 47 ∨ id = 48) (fun id k => (id = 33 ∧ k = 1) ∨ (id = 33 ∧ k = 3) ∨ (id = 33 ∧ k = 9) ∨ (id = 33 ∧ k = 10) ∨ (id = 33 ∧ k = 11)) σ0 σ' → (NN σ' 1) → Qk r σ') : K_X11_odds l V a1 a2 a3 σ0 Qk := by
  refine e_X11_odds (fun M hl hV hN C => ?_)
  subst hl
  subst hV
  have T : ∀ n : Nat, (∀ (x1 : Int32) (x2 : Int32) (x3 : Int32) (x4 : Int32) (x5 : Int32) (σ : Sg), XI (mV M) σ → FX (fun id => id = 34 ∨ id = 35 ∨ id = 36 ∨ id = 37 ∨ id = 38 ∨ id = 39 ∨ id = 40 ∨ id = 47 ∨ id = 48) (fun id k => (id = 33 ∧ k = 1) ∨ (id = 33 ∧ k = 3) ∨ (id = 33 ∧ k = 9) ∨ (id = 33 ∧ k = 10) ∨ (id = 33 ∧ k = 11)) σ0 σ → NN σ 1 → (1 ≤ x2.toInt) → (x2.toInt ≤ 60) → (0 ≤ x5.toInt) → (x5.toInt ≤ 6) → (7 - x5.toInt).toNat < n → PS M 38 [(0, .ref 0), (1, .int x1), (2, .int x2), (3, .int x3), (4, .int x4), (5, .int x5)] [] σ (0, 0)) := by
    intro n
    induction n with
    | zero => exact fun _ _ _ _ _ _ _ _ _ _ _ _ _ h8 => absurd h8 (Nat.not_lt_zero _)
    | succ n ih =>
      have ih38 := ih
      · intro x1 x2 x3 x4 x5 σ mσ fσ nσ_1 lx2 ux2 lx5 ux5 hmu
        have k_1 : (gi σ 1 1).toInt = (gi σ0 1 1).toInt := congrArg Int32.toInt (FX_i fσ (show ¬ (1 = 34 ∨ 1 = 35 ∨ 1 = 36 ∨ 1 = 37 ∨ 1 = 38 ∨ 1 = 39 ∨ 1 = 40 ∨ 1 = 47 ∨ 1 = 48) from by omega) (show ¬ ((1 = 33 ∧ 1 = 1) ∨ (1 = 33 ∧ 1 = 3) ∨ (1 = 33 ∧ 1 = 9) ∨ (1 = 33 ∧ 1 = 10) ∨ (1 = 33 ∧ 1 = 11)) from by omega))
        have t_2 := XI_c1 mσ (id := 1) (k := 1) (lim_C0_1 (Or.inl rfl))
        have k_3 : (gi σ 1 9).toInt = (gi σ0 1 9).toInt := congrArg Int32.toInt (FX_i fσ (show ¬ (1 = 34 ∨ 1 = 35 ∨ 1 = 36 ∨ 1 = 37 ∨ 1 = 38 ∨ 1 = 39 ∨ 1 = 40 ∨ 1 = 47 ∨ 1 = 48) from by omega) (show ¬ ((1 = 33 ∧ 9 = 1) ∨ (1 = 33 ∧ 9 = 3) ∨ (1 = 33 ∧ 9 = 9) ∨ (1 = 33 ∧ 9 = 10) ∨ (1 = 33 ∧ 9 = 11)) from by omega))
        have t_4 := XI_c1 mσ (id := 1) (k := 9) (lim_C0_9 (Or.inl rfl))
        have t_5 := XI_c1 mσ (id := 33) (k := 1) (lim_C0_1 (Or.inr (Or.inr rfl)))
        have t_6 := XI_c1 mσ (id := 33) (k := 9) (lim_C0_9 (Or.inr (Or.inr rfl)))
        refine s_X11_odds_38 C hN  ?_
        refine ⟨?_, ?_⟩
        · intro q_7
          have b_8 : (gi σ 1 1).toInt ≤ x5.toInt := Int32.le_iff_toInt_le.mp q_7
          refine k_X11_lowest  mσ   (fun r3 σ2 mσ2 cσ2 => ?_)
          obtain rfl := FX_nil cσ2
          exact h9ret r3 σ mσ fσ nσ_1
        · intro q_7
          have b_9 : ¬ (gi σ 1 1).toInt ≤ x5.toInt := fun h9 => q_7 (Int32.le_iff_toInt_le.mpr h9)
          have z_10 : (1 : Int32).toInt = 1 := rfl
          refine k_X1_becomes (Or.inr (Or.inr rfl)) (Or.inl rfl) mσ nσ_1 (by first | with_reducible assumption | with_reducible rfl | omega | assumption | rfl) (fun σ4 mσ4 cσ4 nσ4_1 nσ4_33 (pσ4_0 : (gi σ4 33 1).toInt = (gi σ 1 1).toInt) (pσ4_1 : (gi σ4 33 3).toInt = (gi σ 1 3).toInt) (pσ4_2 : (gi σ4 33 9).toInt = (gi σ 1 9).toInt) (pσ4_3 : CPY σ σ4 33 1) => ?_)
          have fσ4 : FX (fun id => id = 34 ∨ id = 35 ∨ id = 36 ∨ id = 37 ∨ id = 38 ∨ id = 39 ∨ id = 40 ∨ id = 47 ∨ id = 48) (fun id k => (id = 33 ∧ k = 1) ∨ (id = 33 ∧ k = 3) ∨ (id = 33 ∧ k = 9) ∨ (id = 33 ∧ k = 10) ∨ (id = 33 ∧ k = 11)) σ0 σ4 := FX_tr fσ cσ4 (fun x (h9 : x = 34 ∨ x = 35 ∨ x = 36 ∨ x = 37 ∨ x = 38 ∨ x = 39 ∨ x = 40) => h9.elim (fun e9 => (show x = 34 ∨ x = 35 ∨ x = 36 ∨ x = 37 ∨ x = 38 ∨ x = 39 ∨ x = 40 ∨ x = 47 ∨ x = 48 from Or.inl (e9))) (fun h9 => h9.elim (fun e9 => (show x = 34 ∨ x = 35 ∨ x = 36 ∨ x = 37 ∨ x = 38 ∨ x = 39 ∨ x = 40 ∨ x = 47 ∨ x = 48 from Or.inr (Or.inl (e9)))) (fun h9 => h9.elim (fun e9 => (show x = 34 ∨ x = 35 ∨ x = 36 ∨ x = 37 ∨ x = 38 ∨ x = 39 ∨ x = 40 ∨ x = 47 ∨ x = 48 from Or.inr (Or.inr (Or.inl (e9))))) (fun h9 => h9.elim (fun e9 => (show x = 34 ∨ x = 35 ∨ x = 36 ∨ x = 37 ∨ x = 38 ∨ x = 39 ∨ x = 40 ∨ x = 47 ∨ x = 48 from Or.inr (Or.inr (Or.inr (Or.inl (e9)))))) (fun h9 => h9.elim (fun e9 => (show x = 34 ∨ x = 35 ∨ x = 36 ∨ x = 37 ∨ x = 38 ∨ x = 39 ∨ x = 40 ∨ x = 47 ∨ x = 48 from Or.inr (Or.inr (Or.inr (Or.inr (Or.inl (e9))))))) (fun h9 => h9.elim (fun e9 => (show x = 34 ∨ x = 35 ∨ x = 36 ∨ x = 37 ∨ x = 38 ∨ x = 39 ∨ x = 40 ∨ x = 47 ∨ x = 48 from Or.inr (Or.inr (Or.inr (Or.inr (Or.inr (Or.inl (e9)))))))) (fun h9 => (show x = 34 ∨ x = 35 ∨ x = 36 ∨ x = 37 ∨ x = 38 ∨ x = 39 ∨ x = 40 ∨ x = 47 ∨ x = 48 from Or.inr (Or.inr (Or.inr (Or.inr (Or.inr (Or.inr (Or.inl (h9))))))))))))))) (fun x k (h9 : (x = 33 ∧ k = 1) ∨ (x = 33 ∧ k = 3) ∨ (x = 33 ∧ k = 9) ∨ (x = 33 ∧ k = 10) ∨ (x = 33 ∧ k = 11)) => (show (x = 34 ∨ x = 35 ∨ x = 36 ∨ x = 37 ∨ x = 38 ∨ x = 39 ∨ x = 40 ∨ x = 47 ∨ x = 48) ∨ ((x = 33 ∧ k = 1) ∨ (x = 33 ∧ k = 3) ∨ (x = 33 ∧ k = 9) ∨ (x = 33 ∧ k = 10) ∨ (x = 33 ∧ k = 11)) from h9.elim (fun e9 => Or.inr (show (x = 33 ∧ k = 1) ∨ (x = 33 ∧ k = 3) ∨ (x = 33 ∧ k = 9) ∨ (x = 33 ∧ k = 10) ∨ (x = 33 ∧ k = 11) from Or.inl (e9))) (fun h9 => h9.elim (fun e9 => Or.inr (show (x = 33 ∧ k = 1) ∨ (x = 33 ∧ k = 3) ∨ (x = 33 ∧ k = 9) ∨ (x = 33 ∧ k = 10) ∨ (x = 33 ∧ k = 11) from Or.inr (Or.inl (e9)))) (fun h9 => h9.elim (fun e9 => Or.inr (show (x = 33 ∧ k = 1) ∨ (x = 33 ∧ k = 3) ∨ (x = 33 ∧ k = 9) ∨ (x = 33 ∧ k = 10) ∨ (x = 33 ∧ k = 11) from Or.inr (Or.inr (Or.inl (e9))))) (fun h9 => h9.elim (fun e9 => Or.inr (show (x = 33 ∧ k = 1) ∨ (x = 33 ∧ k = 3) ∨ (x = 33 ∧ k = 9) ∨ (x = 33 ∧ k = 10) ∨ (x = 33 ∧ k = 11) from Or.inr (Or.inr (Or.inr (Or.inl (e9)))))) (fun h9 => Or.inr (show (x = 33 ∧ k = 1) ∨ (x = 33 ∧ k = 3) ∨ (x = 33 ∧ k = 9) ∨ (x = 33 ∧ k = 10) ∨ (x = 33 ∧ k = 11) from Or.inr (Or.inr (Or.inr (Or.inr (h9)))))))))))
          have k_11 : (gi σ4 1 1).toInt = (gi σ 1 1).toInt := congrArg Int32.toInt (FX_i cσ4 (show ¬ (1 = 34 ∨ 1 = 35 ∨ 1 = 36 ∨ 1 = 37 ∨ 1 = 38 ∨ 1 = 39 ∨ 1 = 40) from by omega) (show ¬ ((1 = 33 ∧ 1 = 1) ∨ (1 = 33 ∧ 1 = 3) ∨ (1 = 33 ∧ 1 = 9) ∨ (1 = 33 ∧ 1 = 10) ∨ (1 = 33 ∧ 1 = 11)) from by omega))
          have k_12 : (gi σ4 1 9).toInt = (gi σ 1 9).toInt := congrArg Int32.toInt (FX_i cσ4 (show ¬ (1 = 34 ∨ 1 = 35 ∨ 1 = 36 ∨ 1 = 37 ∨ 1 = 38 ∨ 1 = 39 ∨ 1 = 40) from by omega) (show ¬ ((1 = 33 ∧ 9 = 1) ∨ (1 = 33 ∧ 9 = 3) ∨ (1 = 33 ∧ 9 = 9) ∨ (1 = 33 ∧ 9 = 10) ∨ (1 = 33 ∧ 9 = 11)) from by omega))
          have t_13 := XI_c1 mσ4 (id := 33) (k := 1) (lim_C0_1 (Or.inr (Or.inr rfl)))
          have t_14 := XI_c1 mσ4 (id := 33) (k := 9) (lim_C0_9 (Or.inr (Or.inr rfl)))
          have hv_15 : vp_in x5 6 := vp_in_iff.mpr ⟨by omega, by omega⟩
          refine ⟨hv_15, ?_⟩
          refine ⟨hv_15, ?_⟩
          intro σ7 eσ7
          have mσ7 : XI (mV M) σ7 := by rw [eσ7]; exact XIs_n mσ4 (lim_C6 (Or.inr (Or.inr rfl)) _)
          have fσ7 : FX (fun id => id = 34 ∨ id = 35 ∨ id = 36 ∨ id = 37 ∨ id = 38 ∨ id = 39 ∨ id = 40 ∨ id = 47 ∨ id = 48) (fun id k => (id = 33 ∧ k = 1) ∨ (id = 33 ∧ k = 3) ∨ (id = 33 ∧ k = 9) ∨ (id = 33 ∧ k = 10) ∨ (id = 33 ∧ k = 11)) σ0 σ7 := by rw [eσ7]; exact FX_si fσ4 (Or.inl (show 39 = 34 ∨ 39 = 35 ∨ 39 = 36 ∨ 39 = 37 ∨ 39 = 38 ∨ 39 = 39 ∨ 39 = 40 ∨ 39 = 47 ∨ 39 = 48 from Or.inr (Or.inr (Or.inr (Or.inr (Or.inr (Or.inl (rfl))))))))
          have k_16 : (gi σ7 1 1).toInt = (gi σ4 1 1).toInt := by rw [eσ7]; exact congrArg Int32.toInt (gi_si_ne (Or.inl (by omega)))
          have k_17 : (gi σ7 1 9).toInt = (gi σ4 1 9).toInt := by rw [eσ7]; exact congrArg Int32.toInt (gi_si_ne (Or.inl (by omega)))
          have k_18 : (gi σ7 33 1).toInt = (gi σ4 33 1).toInt := by rw [eσ7]; exact congrArg Int32.toInt (gi_si_ne (Or.inl (by omega)))
          have k_19 : (gi σ7 33 9).toInt = (gi σ4 33 9).toInt := by rw [eσ7]; exact congrArg Int32.toInt (gi_si_ne (Or.inl (by omega)))
          have nσ7_1 : NN σ7 1 := by rw [eσ7]; exact NN_si nσ4_1 (by omega) (fun h9 => absurd h9 (by omega))
          have nσ7_33 : NN σ7 33 := by rw [eσ7]; exact NN_si nσ4_33 (by omega) (fun h9 => absurd h9 (by omega))
          refine k_X11_heldTimes  mσ7 nσ7_33 (by omega) (by omega) (by first | with_reducible assumption | with_reducible rfl | omega | assumption | rfl) (fun r9 σ8 mσ8 cσ8 nσ8_33 => ?_)
          have fσ8 : FX (fun id => id = 34 ∨ id = 35 ∨ id = 36 ∨ id = 37 ∨ id = 38 ∨ id = 39 ∨ id = 40 ∨ id = 47 ∨ id = 48) (fun id k => (id = 33 ∧ k = 1) ∨ (id = 33 ∧ k = 3) ∨ (id = 33 ∧ k = 9) ∨ (id = 33 ∧ k = 10) ∨ (id = 33 ∧ k = 11)) σ0 σ8 := FX_tr fσ7 cσ8 (fun x (h9 : x = 36 ∨ x = 37 ∨ x = 38 ∨ x = 39 ∨ x = 47 ∨ x = 48) => h9.elim (fun e9 => (show x = 34 ∨ x = 35 ∨ x = 36 ∨ x = 37 ∨ x = 38 ∨ x = 39 ∨ x = 40 ∨ x = 47 ∨ x = 48 from Or.inr (Or.inr (Or.inl (e9))))) (fun h9 => h9.elim (fun e9 => (show x = 34 ∨ x = 35 ∨ x = 36 ∨ x = 37 ∨ x = 38 ∨ x = 39 ∨ x = 40 ∨ x = 47 ∨ x = 48 from Or.inr (Or.inr (Or.inr (Or.inl (e9)))))) (fun h9 => h9.elim (fun e9 => (show x = 34 ∨ x = 35 ∨ x = 36 ∨ x = 37 ∨ x = 38 ∨ x = 39 ∨ x = 40 ∨ x = 47 ∨ x = 48 from Or.inr (Or.inr (Or.inr (Or.inr (Or.inl (e9))))))) (fun h9 => h9.elim (fun e9 => (show x = 34 ∨ x = 35 ∨ x = 36 ∨ x = 37 ∨ x = 38 ∨ x = 39 ∨ x = 40 ∨ x = 47 ∨ x = 48 from Or.inr (Or.inr (Or.inr (Or.inr (Or.inr (Or.inl (e9)))))))) (fun h9 => h9.elim (fun e9 => (show x = 34 ∨ x = 35 ∨ x = 36 ∨ x = 37 ∨ x = 38 ∨ x = 39 ∨ x = 40 ∨ x = 47 ∨ x = 48 from Or.inr (Or.inr (Or.inr (Or.inr (Or.inr (Or.inr (Or.inr (Or.inl (e9)))))))))) (fun h9 => (show x = 34 ∨ x = 35 ∨ x = 36 ∨ x = 37 ∨ x = 38 ∨ x = 39 ∨ x = 40 ∨ x = 47 ∨ x = 48 from Or.inr (Or.inr (Or.inr (Or.inr (Or.inr (Or.inr (Or.inr (Or.inr (h9))))))))))))))) (fun x k (h9 : (x = 33 ∧ k = 9)) => (show (x = 34 ∨ x = 35 ∨ x = 36 ∨ x = 37 ∨ x = 38 ∨ x = 39 ∨ x = 40 ∨ x = 47 ∨ x = 48) ∨ ((x = 33 ∧ k = 1) ∨ (x = 33 ∧ k = 3) ∨ (x = 33 ∧ k = 9) ∨ (x = 33 ∧ k = 10) ∨ (x = 33 ∧ k = 11)) from Or.inr (show (x = 33 ∧ k = 1) ∨ (x = 33 ∧ k = 3) ∨ (x = 33 ∧ k = 9) ∨ (x = 33 ∧ k = 10) ∨ (x = 33 ∧ k = 11) from Or.inr (Or.inr (Or.inl (h9))))))
          have k_20 : (gi σ8 1 1).toInt = (gi σ7 1 1).toInt := congrArg Int32.toInt (FX_i cσ8 (show ¬ (1 = 36 ∨ 1 = 37 ∨ 1 = 38 ∨ 1 = 39 ∨ 1 = 47 ∨ 1 = 48) from by omega) (show ¬ ((1 = 33 ∧ 1 = 9)) from by omega))
          have k_21 : (gi σ8 1 9).toInt = (gi σ7 1 9).toInt := congrArg Int32.toInt (FX_i cσ8 (show ¬ (1 = 36 ∨ 1 = 37 ∨ 1 = 38 ∨ 1 = 39 ∨ 1 = 47 ∨ 1 = 48) from by omega) (show ¬ ((1 = 33 ∧ 9 = 9)) from by omega))
          have k_22 : (gi σ8 33 1).toInt = (gi σ7 33 1).toInt := congrArg Int32.toInt (FX_i cσ8 (show ¬ (33 = 36 ∨ 33 = 37 ∨ 33 = 38 ∨ 33 = 39 ∨ 33 = 47 ∨ 33 = 48) from by omega) (show ¬ ((33 = 33 ∧ 1 = 9)) from by omega))
          have t_23 := XI_c1 mσ8 (id := 33) (k := 9) (lim_C0_9 (Or.inr (Or.inr rfl)))
          have nσ8_1 : NN σ8 1 := NN_fx nσ7_1 cσ8 (show ¬ (1 = 36 ∨ 1 = 37 ∨ 1 = 38 ∨ 1 = 39 ∨ 1 = 47 ∨ 1 = 48) from by omega) (show ¬ (2 = 36 ∨ 2 = 37 ∨ 2 = 38 ∨ 2 = 39 ∨ 2 = 47 ∨ 2 = 48) from by omega) (show ¬ (3 = 36 ∨ 3 = 37 ∨ 3 = 38 ∨ 3 = 39 ∨ 3 = 47 ∨ 3 = 48) from by omega) (show ¬ ((1 = 33 ∧ 1 = 9)) from by omega) (show ¬ ((1 = 33 ∧ 3 = 9)) from by omega) (fun k (h9 : (2 = 33 ∧ k = 9)) => by omega) (fun k (h9 : (3 = 33 ∧ k = 9)) => by omega)
          refine ⟨?_, ?_⟩
          · intro q_24
            have w_25 := Int32.toInt_lt r9
            have w_26 := Int32.le_toInt r9
            have b_27 : r9.toInt ≤ 0 := Int32.le_iff_toInt_le.mp q_24
            intro v11 ev11
            have t_28 : (x5 + (1 : Int32)).toInt = x5.toInt + 1 := i_add (x := x5) (y := (1 : Int32)) (by show (_ : Int) ≤ x5.toInt + 1; omega) (by show x5.toInt + 1 ≤ (_ : Int); omega)
            have t_29 : v11.toInt = (x5 + (1 : Int32)).toInt := congrArg Int32.toInt ev11
            have w_30 := Int32.toInt_lt x1
            have w_31 := Int32.le_toInt x1
            have w_32 := Int32.toInt_lt x3
            have w_33 := Int32.le_toInt x3
            have w_34 := Int32.toInt_lt x4
            have w_35 := Int32.le_toInt x4
            exact ih38 x1 x2 x3 x4 v11 σ8 mσ8 fσ8 nσ8_1 (by omega) (by omega) (by omega) (by omega) (by omega)
          · intro q_24
            have w_36 := Int32.toInt_lt r9
            have w_37 := Int32.le_toInt r9
            have b_38 : ¬ r9.toInt ≤ 0 := fun h9 => q_24 (Int32.le_iff_toInt_le.mpr h9)
            intro v12 ev12
            intro v13 ev13
            have t_39 : (x5 + (1 : Int32)).toInt = x5.toInt + 1 := i_add (x := x5) (y := (1 : Int32)) (by show (_ : Int) ≤ x5.toInt + 1; omega) (by show x5.toInt + 1 ≤ (_ : Int); omega)
            have t_40 : v13.toInt = (x5 + (1 : Int32)).toInt := congrArg Int32.toInt ev13
            have w_41 := Int32.toInt_lt x1
            have w_42 := Int32.le_toInt x1
            have w_43 := Int32.toInt_lt x3
            have w_44 := Int32.le_toInt x3
            have w_45 := Int32.toInt_lt v12
            have w_46 := Int32.le_toInt v12
            exact ih38 x1 x2 x3 v12 v13 σ8 mσ8 fσ8 nσ8_1 (by omega) (by omega) (by omega) (by omega) (by omega)
  have U38 := T 9
  have f0 : FX (fun id => id = 34 ∨ id = 35 ∨ id = 36 ∨ id = 37 ∨ id = 38 ∨ id = 39 ∨ id = 40 ∨ id = 47 ∨ id = 48) (fun id k => (id = 33 ∧ k = 1) ∨ (id = 33 ∧ k = 3) ∨ (id = 33 ∧ k = 9) ∨ (id = 33 ∧ k = 10) ∨ (id = 33 ∧ k = 11)) σ0 σ0 := FX_rf
  have t_47 := XI_c1 m0 (id := 1) (k := 1) (lim_C0_1 (Or.inl rfl))
  have t_48 := XI_c1 m0 (id := 1) (k := 9) (lim_C0_9 (Or.inl rfl))
  have t_49 := XI_c1 m0 (id := 33) (k := 1) (lim_C0_1 (Or.inr (Or.inr rfl)))
  have t_50 := XI_c1 m0 (id := 33) (k := 9) (lim_C0_9 (Or.inr (Or.inr rfl)))
  refine s_X11_odds_0 C hN  ?_
  refine k_X11_isMower  m0   (fun r2 σ1 mσ1 cσ1 plσ1 phσ1 (pσ1_0 : (r2.toInt = 1 ∧ 0 ≤ a1.toInt ∧ a1.toInt < (gi σ0 1 1).toInt) ∨ (r2.toInt = 0 ∧ (a1.toInt < 0 ∨ (gi σ0 1 1).toInt ≤ a1.toInt))) => ?_)
  obtain rfl := FX_nil cσ1
  refine ⟨?_, ?_⟩
  · intro q_51
    have b_52 : r2.toInt = 0 := congrArg Int32.toInt q_51
    exact h9ret (-9223372036854775808 : Int64) σ0 m0 f0 nn_1
  · intro q_51
    have b_53 : ¬ r2.toInt = 0 := fun h9 => q_51 (Int32.toInt_inj.mp h9)
    refine ⟨?_, ?_⟩
    · intro q_54
      have w_55 := Int32.toInt_lt a2
      have w_56 := Int32.le_toInt a2
      have b_57 : a2.toInt < 1 := Int32.lt_iff_toInt_lt.mp q_54
      exact h9ret (-9223372036854775808 : Int64) σ0 m0 f0 nn_1
    · intro q_54
      have w_58 := Int32.toInt_lt a2
      have w_59 := Int32.le_toInt a2
      have b_60 : ¬ a2.toInt < 1 := fun h9 => q_54 (Int32.lt_iff_toInt_lt.mpr h9)
      refine ⟨?_, ?_⟩
      · intro q_61
        have b_62 : (60 : Int) < a2.toInt := Int32.lt_iff_toInt_lt.mp q_61
        exact h9ret (-9223372036854775808 : Int64) σ0 m0 f0 nn_1
      · intro q_61
        have b_63 : ¬ (60 : Int) < a2.toInt := fun h9 => q_61 (Int32.lt_iff_toInt_lt.mpr h9)
        refine ⟨?_, ?_⟩
        · intro q_64
          have w_65 := Int32.toInt_lt a3
          have w_66 := Int32.le_toInt a3
          have b_67 : a3.toInt = 0 := congrArg Int32.toInt q_64
          have w_68 := Int32.toInt_lt a1
          have w_69 := Int32.le_toInt a1
          have z_70 : (0 : Int32).toInt = 0 := rfl
          exact U38 a1 a2 a3 (0 : Int32) (0 : Int32) σ0 m0 f0 nn_1 (by omega) (by omega) (by omega) (by omega) (by omega)
        · intro q_64
          have w_71 := Int32.toInt_lt a3
          have w_72 := Int32.le_toInt a3
          have b_73 : ¬ a3.toInt = 0 := fun h9 => q_64 (Int32.toInt_inj.mp h9)
          refine ⟨?_, ?_⟩
          · intro q_74
            have b_75 : a3.toInt = 1 := congrArg Int32.toInt q_74
            have w_76 := Int32.toInt_lt a1
            have w_77 := Int32.le_toInt a1
            have z_78 : (0 : Int32).toInt = 0 := rfl
            exact U38 a1 a2 a3 (0 : Int32) (0 : Int32) σ0 m0 f0 nn_1 (by omega) (by omega) (by omega) (by omega) (by omega)
          · intro q_74
            have b_79 : ¬ a3.toInt = 1 := fun h9 => q_74 (Int32.toInt_inj.mp h9)
            exact h9ret (-9223372036854775808 : Int64) σ0 m0 f0 nn_1
set_option maxRecDepth 100000 in
set_option maxHeartbeats 4000000 in
theorem k_X11_mean {l : Launch} {V : Vx} {a1 : Int32} {a2 : Int32} {σ0 : Sg} {Qk : Int64 → Sg → Prop} (m0 : XI V σ0) (nn_1 : NN σ0 1) (pre0 : (gi σ0 1 9).toInt ≤ 9999) (h9ret : ∀ (r : Int64) (σ' : Sg), XI V σ' → FX (fun id => id = 34 ∨ id = 35 ∨ id = 36 ∨ id = 37 ∨ id = 38 ∨ id = 39 ∨ id = 40 ∨ id = 47 ∨ id = 48) (fun id k => (id = 33 ∧ k = 1) ∨ (id = 33 ∧ k = 3) ∨ (id = 33 ∧ k = 9) ∨ (id = 33 ∧ k = 10) ∨ (id = 33 ∧ k = 11)) σ0 σ' → (NN σ' 1) → Qk r σ') : K_X11_mean l V a1 a2 σ0 Qk := by
  refine e_X11_mean (fun M hl hV hN C => ?_)
  subst hl
  subst hV
  have T : ∀ n : Nat, (∀ (x1 : Int32) (x2 : Int32) (σ : Sg), XI (mV M) σ → FX (fun id => id = 34 ∨ id = 35 ∨ id = 36 ∨ id = 37 ∨ id = 38 ∨ id = 39 ∨ id = 40 ∨ id = 47 ∨ id = 48) (fun id k => (id = 33 ∧ k = 1) ∨ (id = 33 ∧ k = 3) ∨ (id = 33 ∧ k = 9) ∨ (id = 33 ∧ k = 10) ∨ (id = 33 ∧ k = 11)) σ0 σ → NN σ 1 → (1 ≤ x1.toInt) → (x1.toInt ≤ 60) → 1 < n → PS M 34 [(0, .ref 0), (1, .int x1), (2, .int x2)] [] σ (0, 0)) := by
    intro n
    induction n with
    | zero => exact fun _ _ _ _ _ _ _ _ h8 => absurd h8 (Nat.not_lt_zero _)
    | succ n ih =>
      have ih34 := ih
      · intro x1 x2 σ mσ fσ nσ_1 lx1 ux1 hmu
        have k_1 : (gi σ 1 1).toInt = (gi σ0 1 1).toInt := congrArg Int32.toInt (FX_i fσ (show ¬ (1 = 34 ∨ 1 = 35 ∨ 1 = 36 ∨ 1 = 37 ∨ 1 = 38 ∨ 1 = 39 ∨ 1 = 40 ∨ 1 = 47 ∨ 1 = 48) from by omega) (show ¬ ((1 = 33 ∧ 1 = 1) ∨ (1 = 33 ∧ 1 = 3) ∨ (1 = 33 ∧ 1 = 9) ∨ (1 = 33 ∧ 1 = 10) ∨ (1 = 33 ∧ 1 = 11)) from by omega))
        have t_2 := XI_c1 mσ (id := 1) (k := 1) (lim_C0_1 (Or.inl rfl))
        have k_3 : (gi σ 1 9).toInt = (gi σ0 1 9).toInt := congrArg Int32.toInt (FX_i fσ (show ¬ (1 = 34 ∨ 1 = 35 ∨ 1 = 36 ∨ 1 = 37 ∨ 1 = 38 ∨ 1 = 39 ∨ 1 = 40 ∨ 1 = 47 ∨ 1 = 48) from by omega) (show ¬ ((1 = 33 ∧ 9 = 1) ∨ (1 = 33 ∧ 9 = 3) ∨ (1 = 33 ∧ 9 = 9) ∨ (1 = 33 ∧ 9 = 10) ∨ (1 = 33 ∧ 9 = 11)) from by omega))
        have t_4 := XI_c1 mσ (id := 1) (k := 9) (lim_C0_9 (Or.inl rfl))
        refine s_X11_mean_34 C hN  ?_
        have z_5 : (1 : Int32).toInt = 1 := rfl
        refine k_X1_becomes (Or.inr (Or.inr rfl)) (Or.inl rfl) mσ nσ_1 (by first | with_reducible assumption | with_reducible rfl | omega | assumption | rfl) (fun σ1 mσ1 cσ1 nσ1_1 nσ1_33 (pσ1_0 : (gi σ1 33 1).toInt = (gi σ 1 1).toInt) (pσ1_1 : (gi σ1 33 3).toInt = (gi σ 1 3).toInt) (pσ1_2 : (gi σ1 33 9).toInt = (gi σ 1 9).toInt) (pσ1_3 : CPY σ σ1 33 1) => ?_)
        have fσ1 : FX (fun id => id = 34 ∨ id = 35 ∨ id = 36 ∨ id = 37 ∨ id = 38 ∨ id = 39 ∨ id = 40 ∨ id = 47 ∨ id = 48) (fun id k => (id = 33 ∧ k = 1) ∨ (id = 33 ∧ k = 3) ∨ (id = 33 ∧ k = 9) ∨ (id = 33 ∧ k = 10) ∨ (id = 33 ∧ k = 11)) σ0 σ1 := FX_tr fσ cσ1 (fun x (h9 : x = 34 ∨ x = 35 ∨ x = 36 ∨ x = 37 ∨ x = 38 ∨ x = 39 ∨ x = 40) => h9.elim (fun e9 => (show x = 34 ∨ x = 35 ∨ x = 36 ∨ x = 37 ∨ x = 38 ∨ x = 39 ∨ x = 40 ∨ x = 47 ∨ x = 48 from Or.inl (e9))) (fun h9 => h9.elim (fun e9 => (show x = 34 ∨ x = 35 ∨ x = 36 ∨ x = 37 ∨ x = 38 ∨ x = 39 ∨ x = 40 ∨ x = 47 ∨ x = 48 from Or.inr (Or.inl (e9)))) (fun h9 => h9.elim (fun e9 => (show x = 34 ∨ x = 35 ∨ x = 36 ∨ x = 37 ∨ x = 38 ∨ x = 39 ∨ x = 40 ∨ x = 47 ∨ x = 48 from Or.inr (Or.inr (Or.inl (e9))))) (fun h9 => h9.elim (fun e9 => (show x = 34 ∨ x = 35 ∨ x = 36 ∨ x = 37 ∨ x = 38 ∨ x = 39 ∨ x = 40 ∨ x = 47 ∨ x = 48 from Or.inr (Or.inr (Or.inr (Or.inl (e9)))))) (fun h9 => h9.elim (fun e9 => (show x = 34 ∨ x = 35 ∨ x = 36 ∨ x = 37 ∨ x = 38 ∨ x = 39 ∨ x = 40 ∨ x = 47 ∨ x = 48 from Or.inr (Or.inr (Or.inr (Or.inr (Or.inl (e9))))))) (fun h9 => h9.elim (fun e9 => (show x = 34 ∨ x = 35 ∨ x = 36 ∨ x = 37 ∨ x = 38 ∨ x = 39 ∨ x = 40 ∨ x = 47 ∨ x = 48 from Or.inr (Or.inr (Or.inr (Or.inr (Or.inr (Or.inl (e9)))))))) (fun h9 => (show x = 34 ∨ x = 35 ∨ x = 36 ∨ x = 37 ∨ x = 38 ∨ x = 39 ∨ x = 40 ∨ x = 47 ∨ x = 48 from Or.inr (Or.inr (Or.inr (Or.inr (Or.inr (Or.inr (Or.inl (h9))))))))))))))) (fun x k (h9 : (x = 33 ∧ k = 1) ∨ (x = 33 ∧ k = 3) ∨ (x = 33 ∧ k = 9) ∨ (x = 33 ∧ k = 10) ∨ (x = 33 ∧ k = 11)) => (show (x = 34 ∨ x = 35 ∨ x = 36 ∨ x = 37 ∨ x = 38 ∨ x = 39 ∨ x = 40 ∨ x = 47 ∨ x = 48) ∨ ((x = 33 ∧ k = 1) ∨ (x = 33 ∧ k = 3) ∨ (x = 33 ∧ k = 9) ∨ (x = 33 ∧ k = 10) ∨ (x = 33 ∧ k = 11)) from h9.elim (fun e9 => Or.inr (show (x = 33 ∧ k = 1) ∨ (x = 33 ∧ k = 3) ∨ (x = 33 ∧ k = 9) ∨ (x = 33 ∧ k = 10) ∨ (x = 33 ∧ k = 11) from Or.inl (e9))) (fun h9 => h9.elim (fun e9 => Or.inr (show (x = 33 ∧ k = 1) ∨ (x = 33 ∧ k = 3) ∨ (x = 33 ∧ k = 9) ∨ (x = 33 ∧ k = 10) ∨ (x = 33 ∧ k = 11) from Or.inr (Or.inl (e9)))) (fun h9 => h9.elim (fun e9 => Or.inr (show (x = 33 ∧ k = 1) ∨ (x = 33 ∧ k = 3) ∨ (x = 33 ∧ k = 9) ∨ (x = 33 ∧ k = 10) ∨ (x = 33 ∧ k = 11) from Or.inr (Or.inr (Or.inl (e9))))) (fun h9 => h9.elim (fun e9 => Or.inr (show (x = 33 ∧ k = 1) ∨ (x = 33 ∧ k = 3) ∨ (x = 33 ∧ k = 9) ∨ (x = 33 ∧ k = 10) ∨ (x = 33 ∧ k = 11) from Or.inr (Or.inr (Or.inr (Or.inl (e9)))))) (fun h9 => Or.inr (show (x = 33 ∧ k = 1) ∨ (x = 33 ∧ k = 3) ∨ (x = 33 ∧ k = 9) ∨ (x = 33 ∧ k = 10) ∨ (x = 33 ∧ k = 11) from Or.inr (Or.inr (Or.inr (Or.inr (h9)))))))))))
        have k_6 : (gi σ1 1 1).toInt = (gi σ 1 1).toInt := congrArg Int32.toInt (FX_i cσ1 (show ¬ (1 = 34 ∨ 1 = 35 ∨ 1 = 36 ∨ 1 = 37 ∨ 1 = 38 ∨ 1 = 39 ∨ 1 = 40) from by omega) (show ¬ ((1 = 33 ∧ 1 = 1) ∨ (1 = 33 ∧ 1 = 3) ∨ (1 = 33 ∧ 1 = 9) ∨ (1 = 33 ∧ 1 = 10) ∨ (1 = 33 ∧ 1 = 11)) from by omega))
        have k_7 : (gi σ1 1 9).toInt = (gi σ 1 9).toInt := congrArg Int32.toInt (FX_i cσ1 (show ¬ (1 = 34 ∨ 1 = 35 ∨ 1 = 36 ∨ 1 = 37 ∨ 1 = 38 ∨ 1 = 39 ∨ 1 = 40) from by omega) (show ¬ ((1 = 33 ∧ 9 = 1) ∨ (1 = 33 ∧ 9 = 3) ∨ (1 = 33 ∧ 9 = 9) ∨ (1 = 33 ∧ 9 = 10) ∨ (1 = 33 ∧ 9 = 11)) from by omega))
        refine k_X1_goes (Or.inr (Or.inr rfl)) mσ1 nσ1_33 (by omega) (by omega) (by first | with_reducible assumption | with_reducible rfl | omega | assumption | rfl) (fun σ2 mσ2 cσ2 nσ2_33 (pσ2_0 : (gi σ2 33 9).toInt = (gi σ1 33 9).toInt + x1.toInt) => ?_)
        have fσ2 : FX (fun id => id = 34 ∨ id = 35 ∨ id = 36 ∨ id = 37 ∨ id = 38 ∨ id = 39 ∨ id = 40 ∨ id = 47 ∨ id = 48) (fun id k => (id = 33 ∧ k = 1) ∨ (id = 33 ∧ k = 3) ∨ (id = 33 ∧ k = 9) ∨ (id = 33 ∧ k = 10) ∨ (id = 33 ∧ k = 11)) σ0 σ2 := FX_tr fσ1 cσ2 (fun x (h9 : x = 47 ∨ x = 48 ∨ x = 36 ∨ x = 37 ∨ x = 38 ∨ x = 39) => h9.elim (fun e9 => (show x = 34 ∨ x = 35 ∨ x = 36 ∨ x = 37 ∨ x = 38 ∨ x = 39 ∨ x = 40 ∨ x = 47 ∨ x = 48 from Or.inr (Or.inr (Or.inr (Or.inr (Or.inr (Or.inr (Or.inr (Or.inl (e9)))))))))) (fun h9 => h9.elim (fun e9 => (show x = 34 ∨ x = 35 ∨ x = 36 ∨ x = 37 ∨ x = 38 ∨ x = 39 ∨ x = 40 ∨ x = 47 ∨ x = 48 from Or.inr (Or.inr (Or.inr (Or.inr (Or.inr (Or.inr (Or.inr (Or.inr (e9)))))))))) (fun h9 => h9.elim (fun e9 => (show x = 34 ∨ x = 35 ∨ x = 36 ∨ x = 37 ∨ x = 38 ∨ x = 39 ∨ x = 40 ∨ x = 47 ∨ x = 48 from Or.inr (Or.inr (Or.inl (e9))))) (fun h9 => h9.elim (fun e9 => (show x = 34 ∨ x = 35 ∨ x = 36 ∨ x = 37 ∨ x = 38 ∨ x = 39 ∨ x = 40 ∨ x = 47 ∨ x = 48 from Or.inr (Or.inr (Or.inr (Or.inl (e9)))))) (fun h9 => h9.elim (fun e9 => (show x = 34 ∨ x = 35 ∨ x = 36 ∨ x = 37 ∨ x = 38 ∨ x = 39 ∨ x = 40 ∨ x = 47 ∨ x = 48 from Or.inr (Or.inr (Or.inr (Or.inr (Or.inl (e9))))))) (fun h9 => (show x = 34 ∨ x = 35 ∨ x = 36 ∨ x = 37 ∨ x = 38 ∨ x = 39 ∨ x = 40 ∨ x = 47 ∨ x = 48 from Or.inr (Or.inr (Or.inr (Or.inr (Or.inr (Or.inl (h9))))))))))))) (fun x k (h9 : (x = 33 ∧ k = 9)) => (show (x = 34 ∨ x = 35 ∨ x = 36 ∨ x = 37 ∨ x = 38 ∨ x = 39 ∨ x = 40 ∨ x = 47 ∨ x = 48) ∨ ((x = 33 ∧ k = 1) ∨ (x = 33 ∧ k = 3) ∨ (x = 33 ∧ k = 9) ∨ (x = 33 ∧ k = 10) ∨ (x = 33 ∧ k = 11)) from Or.inr (show (x = 33 ∧ k = 1) ∨ (x = 33 ∧ k = 3) ∨ (x = 33 ∧ k = 9) ∨ (x = 33 ∧ k = 10) ∨ (x = 33 ∧ k = 11) from Or.inr (Or.inr (Or.inl (h9))))))
        have k_8 : (gi σ2 1 1).toInt = (gi σ1 1 1).toInt := congrArg Int32.toInt (FX_i cσ2 (show ¬ (1 = 47 ∨ 1 = 48 ∨ 1 = 36 ∨ 1 = 37 ∨ 1 = 38 ∨ 1 = 39) from by omega) (show ¬ ((1 = 33 ∧ 1 = 9)) from by omega))
        have k_9 : (gi σ2 1 9).toInt = (gi σ1 1 9).toInt := congrArg Int32.toInt (FX_i cσ2 (show ¬ (1 = 47 ∨ 1 = 48 ∨ 1 = 36 ∨ 1 = 37 ∨ 1 = 38 ∨ 1 = 39) from by omega) (show ¬ ((1 = 33 ∧ 9 = 9)) from by omega))
        have nσ2_1 : NN σ2 1 := NN_fx nσ1_1 cσ2 (show ¬ (1 = 47 ∨ 1 = 48 ∨ 1 = 36 ∨ 1 = 37 ∨ 1 = 38 ∨ 1 = 39) from by omega) (show ¬ (2 = 47 ∨ 2 = 48 ∨ 2 = 36 ∨ 2 = 37 ∨ 2 = 38 ∨ 2 = 39) from by omega) (show ¬ (3 = 47 ∨ 3 = 48 ∨ 3 = 36 ∨ 3 = 37 ∨ 3 = 38 ∨ 3 = 39) from by omega) (show ¬ ((1 = 33 ∧ 1 = 9)) from by omega) (show ¬ ((1 = 33 ∧ 3 = 9)) from by omega) (fun k (h9 : (2 = 33 ∧ k = 9)) => by omega) (fun k (h9 : (3 = 33 ∧ k = 9)) => by omega)
        refine k_X1_allAt (Or.inr (Or.inr rfl)) mσ2   (fun r4 σ3 mσ3 cσ3 => ?_)
        obtain rfl := FX_nil cσ3
        have t_10 := XI_c1 mσ2 (id := 1) (k := 1) (lim_C0_1 (Or.inl rfl))
        have t_11 := XI_c1 mσ2 (id := 1) (k := 9) (lim_C0_9 (Or.inl rfl))
        refine k_X11_lowest  mσ2   (fun r6 σ5 mσ5 cσ5 => ?_)
        obtain rfl := FX_nil cσ5
        exact h9ret r6 σ2 mσ2 fσ2 nσ2_1
  have U34 := T 9
  have f0 : FX (fun id => id = 34 ∨ id = 35 ∨ id = 36 ∨ id = 37 ∨ id = 38 ∨ id = 39 ∨ id = 40 ∨ id = 47 ∨ id = 48) (fun id k => (id = 33 ∧ k = 1) ∨ (id = 33 ∧ k = 3) ∨ (id = 33 ∧ k = 9) ∨ (id = 33 ∧ k = 10) ∨ (id = 33 ∧ k = 11)) σ0 σ0 := FX_rf
  have t_12 := XI_c1 m0 (id := 1) (k := 1) (lim_C0_1 (Or.inl rfl))
  have t_13 := XI_c1 m0 (id := 1) (k := 9) (lim_C0_9 (Or.inl rfl))
  refine s_X11_mean_0 C hN  ?_
  refine ⟨?_, ?_⟩
  · intro q_14
    have b_15 : (gi σ0 1 1).toInt = 0 := congrArg Int32.toInt q_14
    exact h9ret (-9223372036854775808 : Int64) σ0 m0 f0 nn_1
  · intro q_14
    have b_16 : ¬ (gi σ0 1 1).toInt = 0 := fun h9 => q_14 (Int32.toInt_inj.mp h9)
    refine ⟨?_, ?_⟩
    · intro q_17
      have w_18 := Int32.toInt_lt a1
      have w_19 := Int32.le_toInt a1
      have b_20 : a1.toInt < 1 := Int32.lt_iff_toInt_lt.mp q_17
      exact h9ret (-9223372036854775808 : Int64) σ0 m0 f0 nn_1
    · intro q_17
      have w_21 := Int32.toInt_lt a1
      have w_22 := Int32.le_toInt a1
      have b_23 : ¬ a1.toInt < 1 := fun h9 => q_17 (Int32.lt_iff_toInt_lt.mpr h9)
      refine ⟨?_, ?_⟩
      · intro q_24
        have b_25 : (60 : Int) < a1.toInt := Int32.lt_iff_toInt_lt.mp q_24
        exact h9ret (-9223372036854775808 : Int64) σ0 m0 f0 nn_1
      · intro q_24
        have b_26 : ¬ (60 : Int) < a1.toInt := fun h9 => q_24 (Int32.lt_iff_toInt_lt.mpr h9)
        refine ⟨?_, ?_⟩
        · intro q_27
          have w_28 := Int32.toInt_lt a2
          have w_29 := Int32.le_toInt a2
          have b_30 : a2.toInt = 0 := congrArg Int32.toInt q_27
          exact U34 a1 a2 σ0 m0 f0 nn_1 (by omega) (by omega) (by omega)
        · intro q_27
          have w_31 := Int32.toInt_lt a2
          have w_32 := Int32.le_toInt a2
          have b_33 : ¬ a2.toInt = 0 := fun h9 => q_27 (Int32.toInt_inj.mp h9)
          refine ⟨?_, ?_⟩
          · intro q_34
            have b_35 : a2.toInt = 1 := congrArg Int32.toInt q_34
            exact U34 a1 a2 σ0 m0 f0 nn_1 (by omega) (by omega) (by omega)
          · intro q_34
            have b_36 : ¬ a2.toInt = 1 := fun h9 => q_34 (Int32.toInt_inj.mp h9)
            exact h9ret (-9223372036854775808 : Int64) σ0 m0 f0 nn_1
theorem FV_hi {σ : Sg} {a k : Nat} {v : Int32} (h : FV σ) (ha : a = 118 ∨ a = 120 ∨ a = 121) (h1 : (gi σ 74 12).toInt < (gi σ 74 11).toInt) (h2 : (gi σ 74 50).toInt < (gi σ 74 11).toInt) (hk : 10 * (gi σ 74 11).toInt ≤ (k : Int)) : FV (si σ a k v) := by
  intro f hf hc
  rw [gi_si_ne (Or.inl (by omega)), gi_si_ne (Or.inl (by omega)), gi_si_ne (Or.inl (by omega))] at hc
  have hlt : (f : Int) < (gi σ 74 11).toInt := by omega
  intro n hn hcl hw
  rw [gi_si_ne (Or.inl (by omega))] at hcl
  rw [gi_si_ne (Or.inr (by omega))] at hw
  obtain ⟨lo, hi, e1, e2, e3, e4, e5, e6⟩ := h f hf hc n hn hcl hw
  exact ⟨lo, hi, by rw [gi_si_ne (Or.inr (by omega))]; exact e1, by rw [gi_si_ne (Or.inr (by omega))]; exact e2, e3, e4, e5, okSeg_eq (fun j j1 j2 => gi_si_ne (Or.inl (by omega))) e6⟩
/-! a condition that is read: how high the pile would stand -/
theorem BL_tr {σ0 σ σ' : Sg} (h : BL σ0 σ) (g : BL σ σ') (hs : (gi σ0 74 24).toInt ≤ (gi σ 74 24).toInt) : BL σ0 σ' := fun k hk => (g k (by omega)).trans (h k hk)
theorem BL_si {σ0 σ : Sg} {a k : Nat} {v : Int32} (h : BL σ0 σ) (ha : a ≠ 122) : BL σ0 (si σ a k v) := fun j hj => (gi_si_ne (Or.inl (fun e => ha e.symm))).trans (h j hj)
theorem tnc {x y : Int32} (h : x.toInt = y.toInt) : x.toNatClampNeg = y.toNatClampNeg := congrArg Int.toNat h
noncomputable def TI (σ0 σ : Sg) (h : Nat) : Prop := OKP σ (gi σ0 74 24).toNatClampNeg (gi σ 74 24).toNatClampNeg (nbw σ (gi σ 74 25).toNatClampNeg + h)
theorem TI_start {σ0 σ : Sg} (h24 : (gi σ 74 24).toInt = (gi σ0 74 24).toInt) (h25 : (gi σ 74 25).toInt = 0) : TI σ0 σ 0 := by
  unfold TI
  rw [tnc h24, show (gi σ 74 25).toNatClampNeg = 0 from congrArg Int.toNat h25]
  exact OKP_0
theorem TI_eq {σ0 σ σ' : Sg} {h : Nat} (q : TI σ0 σ h) (h24 : (gi σ' 74 24).toInt = (gi σ 74 24).toInt) (h25 : (gi σ' 74 25).toInt = (gi σ 74 25).toInt) (e2 : ∀ k, gi σ' 122 k = gi σ 122 k) (e3 : ∀ k, gi σ' 123 k = gi σ 123 k) : TI σ0 σ' h := by
  unfold TI at q ⊢
  rw [tnc h24, tnc h25, nbw_eq (fun k _ => e3 k)]
  exact OKP_eq (fun k _ => e2 k) q
theorem TI_push {σ0 σ σ' : Sg} {h h' : Nat} {x : Int32} (q : TI σ0 σ h) (w0 : 0 ≤ (gi σ 74 25).toInt) (h24 : (gi σ' 74 24).toInt = (gi σ 74 24).toInt) (h25 : (gi σ' 74 25).toInt = (gi σ 74 25).toInt + 1) (e2 : ∀ k, gi σ' 122 k = gi σ 122 k) (e3 : ∀ k, ¬ k = (gi σ 74 25).toNatClampNeg → gi σ' 123 k = gi σ 123 k) (top : gi σ' 123 (gi σ 74 25).toNatClampNeg = x) (hh : ((x = 38 ∨ x = 124) ∧ h = h' + 1) ∨ (¬ (x = 38 ∨ x = 124) ∧ h = h')) : TI σ0 σ' h' := by
  unfold TI at q ⊢
  have c1 := cl_eq w0
  have c2 := cl_eq (x := gi σ' 74 25) (by omega)
  rw [tnc h24, show (gi σ' 74 25).toNatClampNeg = (gi σ 74 25).toNatClampNeg + 1 from by omega]
  have e : nbw σ' (gi σ 74 25).toNatClampNeg = nbw σ (gi σ 74 25).toNatClampNeg := nbw_eq (fun k hk => e3 k (by omega))
  rcases hh with ⟨hx, e9⟩ | ⟨hx, e9⟩
  · rw [nbw_y (by rw [top]; exact hx), e]
    rw [e9] at q
    rw [show nbw σ (gi σ 74 25).toNatClampNeg + 1 + h' = nbw σ (gi σ 74 25).toNatClampNeg + (h' + 1) from by omega]
    exact OKP_eq (fun k _ => e2 k) q
  · rw [nbw_n (by rw [top]; exact hx), e]
    rw [e9] at q
    exact OKP_eq (fun k _ => e2 k) q
theorem TI_pop {σ0 σ σ' : Sg} {h : Nat} (q : TI σ0 σ h) (w0 : 1 ≤ (gi σ 74 25).toInt) (top : ¬ (gi σ 123 ((gi σ 74 25) - 1).toNatClampNeg = 38 ∨ gi σ 123 ((gi σ 74 25) - 1).toNatClampNeg = 124)) (h24 : (gi σ' 74 24).toInt = (gi σ 74 24).toInt) (h25 : (gi σ' 74 25).toInt = (gi σ 74 25).toInt - 1) (e1 : ((gi σ 74 25) - 1).toInt = (gi σ 74 25).toInt - 1) (e2 : ∀ k, gi σ' 122 k = gi σ 122 k) (e3 : ∀ k, gi σ' 123 k = gi σ 123 k) : TI σ0 σ' h := by
  unfold TI at q ⊢
  have c1 := cl_eq (x := gi σ 74 25) (by omega)
  have c2 := cl_eq (x := gi σ' 74 25) (by omega)
  have c3 := cl_eq (x := (gi σ 74 25) - 1) (by omega)
  rw [show (gi σ 74 25).toNatClampNeg = (gi σ' 74 25).toNatClampNeg + 1 from by omega] at q
  rw [show ((gi σ 74 25) - 1).toNatClampNeg = (gi σ' 74 25).toNatClampNeg from by omega] at top
  rw [nbw_n top] at q
  rw [tnc h24, nbw_eq (fun k _ => e3 k)]
  exact OKP_eq (fun k _ => e2 k) q
theorem TI_settle {σ0 σ σ' : Sg} (q : TI σ0 σ 1) (p : HS σ σ') (e : nbw σ' (gi σ' 74 25).toNatClampNeg = nbw σ (gi σ' 74 25).toNatClampNeg) : TI σ0 σ' 1 := by
  unfold TI
  rw [e]
  exact p _ q
theorem TI_whole {σ0 σ σ' : Sg} (q : TI σ0 σ 1) (p : HK σ σ') (e : nbw σ' (gi σ' 74 25).toNatClampNeg = nbw σ (gi σ 74 25).toNatClampNeg) : TI σ0 σ' 1 := by
  unfold TI
  rw [e]
  exact p _ _ (by omega) q
theorem TI_test {σ0 σ σ' : Sg} (q : TI σ0 σ 0) (p : HT σ σ') (e : nbw σ' (gi σ' 74 25).toNatClampNeg = nbw σ (gi σ 74 25).toNatClampNeg) (h0 : 0 ≤ (gi σ 74 25).toInt) (h1 : (gi σ 74 25).toInt ≤ 99) : TI σ0 σ' 1 := by
  have c := cl_eq h0
  have n := nbw_le σ (gi σ 74 25).toNatClampNeg
  unfold TI
  rw [e]
  exact p _ _ (by omega) q
noncomputable def TW (σ0 σ : Sg) (x : Int32) : Prop := (x = 0 → TI σ0 σ 1) ∧ (¬ x = 0 → TI σ0 σ 0)
theorem TW_0 {σ0 σ : Sg} {x : Int32} (h : x = 0) (q : TI σ0 σ 1) : TW σ0 σ x := ⟨fun _ => q, fun z => absurd h z⟩
theorem TW_1 {σ0 σ : Sg} {x : Int32} (h : ¬ x = 0) (q : TI σ0 σ 0) : TW σ0 σ x := ⟨fun z => absurd z h, fun _ => q⟩
noncomputable def K120 (σ0 σ : Sg) (c : Nat) : Prop := gi σ 120 c = gi σ0 74 24 ∧ ∀ k, ¬ k = c → gi σ 120 k = gi σ0 120 k ∧ gi σ 121 k = gi σ0 121 k
theorem K120_fr {S F : List Nat} {σ0 σ σ' : Sg} {c : Nat} (h : K120 σ0 σ c) (f : Fr S F σ σ') (h1 : 120 ∉ S) (h2 : 121 ∉ S) : K120 σ0 σ' c :=
  ⟨(congrFun (f.1 120 h1).1 c).trans h.1, fun k hk => ⟨(congrFun (f.1 120 h1).1 k).trans (h.2 k hk).1, (congrFun (f.1 121 h2).1 k).trans (h.2 k hk).2⟩⟩
theorem K120_si {σ0 σ : Sg} {a j c : Nat} {v : Int32} (h : K120 σ0 σ c) (ha : a ≠ 120 ∧ a ≠ 121) : K120 σ0 (si σ a j v) c :=
  ⟨(gi_si_ne (Or.inl (Ne.symm ha.1))).trans h.1, fun k hk => ⟨(gi_si_ne (Or.inl (Ne.symm ha.1))).trans (h.2 k hk).1, (gi_si_ne (Or.inl (Ne.symm ha.2))).trans (h.2 k hk).2⟩⟩
theorem K120_to {σ0 σ : Sg} {c : Nat} {v : Int32} (h : K120 σ0 σ c) : K120 σ0 (si σ 121 c v) c :=
  ⟨(gi_si_ne (Or.inl (by decide +kernel))).trans h.1, fun k hk => ⟨(gi_si_ne (Or.inl (by decide +kernel))).trans (h.2 k hk).1, (gi_si_ne (Or.inr hk)).trans (h.2 k hk).2⟩⟩
theorem K120_mk {σ0 σ1 σ2 σ4 : Sg} {c : Nat} {x y : Int32} (e1 : σ1 = si σ0 74 25 x) (e2 : σ2 = si σ1 74 26 y) (e4 : σ4 = si σ2 120 c (gi σ2 74 24)) : K120 σ0 σ4 c := by
  subst e4 e2 e1
  refine ⟨?_, fun k hk => ⟨?_, ?_⟩⟩
  · rw [gi_si_eq, gi_si_ne (Or.inr (by decide +kernel)), gi_si_ne (Or.inr (by decide +kernel))]
  · rw [gi_si_ne (Or.inr hk), gi_si_ne (Or.inl (by decide +kernel)), gi_si_ne (Or.inl (by decide +kernel))]
  · rw [gi_si_ne (Or.inl (by decide +kernel)), gi_si_ne (Or.inl (by decide +kernel)), gi_si_ne (Or.inl (by decide +kernel))]
theorem settle_top {σ σ' : Sg} {c : Nat} {a v : Int32} (p : (gi σ 74 25).toInt = 0 ∨ (¬ gi σ 123 ((gi σ 74 25) - (1 : Int32)).toNatClampNeg = 38 ∧ (¬ a = 38 → ¬ gi σ 123 ((gi σ 74 25) - (1 : Int32)).toNatClampNeg = 124))) (ha : ¬ a = 38) (e : σ' = si σ 121 c v) (h : ¬ (gi σ' 74 25) = 0) : ¬ (gi σ' 123 ((gi σ' 74 25) - 1).toNatClampNeg = 38 ∨ gi σ' 123 ((gi σ' 74 25) - 1).toNatClampNeg = 124) := by
  subst e
  rw [gi_si_ne (Or.inl (by decide +kernel))] at h
  rw [gi_si_ne (Or.inl (by decide +kernel)), gi_si_ne (Or.inl (by decide +kernel))]
  rcases p with p | p
  · exact absurd (Int32.toInt_inj.mp p) h
  · exact fun z => z.elim p.1 (p.2 ha)
noncomputable def TE (σ σ' : Sg) (c : Nat) : Prop := OKP σ' (gi σ 74 24).toNatClampNeg (gi σ' 74 24).toNatClampNeg 1 ∧ BL σ σ' ∧ gi σ' 120 c = gi σ 74 24 ∧ gi σ' 121 c = gi σ' 74 24 ∧ ∀ k, ¬ k = c → gi σ' 120 k = gi σ 120 k ∧ gi σ' 121 k = gi σ 121 k
theorem TE_mk {σ0 σ : Sg} {c : Nat} (q : TI σ0 σ 1) (w : (gi σ 74 25).toInt = 0) (b : BL σ0 σ) (k : K120 σ0 σ c) (t : gi σ 121 c = gi σ 74 24) : TE σ0 σ c := by
  unfold TI at q
  rw [show (gi σ 74 25).toNatClampNeg = 0 from congrArg Int.toNat w] at q
  exact ⟨q, b, k.1, t, k.2⟩
/-! a clause, a text: what stays as it was -/
noncomputable def CZ (σ0 σ : Sg) (c : Nat) : Prop := (∀ k, gi σ 122 k = gi σ0 122 k) ∧ (∀ k, gi σ 120 k = gi σ0 120 k) ∧ (∀ k, gi σ 121 k = gi σ0 121 k) ∧ (∀ k, ¬ k = c → gi σ 118 k = gi σ0 118 k) ∧ gi σ 74 24 = gi σ0 74 24
theorem CZ_head {S F : List Nat} {σ0 σ : Sg} {c : Nat} (f : Fr S F σ0 σ) (h1 : 122 ∉ S) (h2 : 120 ∉ S) (h3 : 121 ∉ S) (h4 : 24 ∉ F) (p : ∀ k : Nat, ¬ k = c → gi σ 118 k = gi σ0 118 k) : CZ σ0 σ c :=
  ⟨fun k => congrFun (f.1 122 h1).1 k, fun k => congrFun (f.1 120 h2).1 k, fun k => congrFun (f.1 121 h3).1 k, p, f.2.1 24 h4⟩
theorem CZ_fr {S F : List Nat} {σ0 σ σ' : Sg} {c : Nat} (q : CZ σ0 σ c) (f : Fr S F σ σ') (h1 : 122 ∉ S) (h2 : 120 ∉ S) (h3 : 121 ∉ S) (h5 : 118 ∉ S) (h4 : 24 ∉ F) : CZ σ0 σ' c :=
  ⟨fun k => (congrFun (f.1 122 h1).1 k).trans (q.1 k), fun k => (congrFun (f.1 120 h2).1 k).trans (q.2.1 k), fun k => (congrFun (f.1 121 h3).1 k).trans (q.2.2.1 k), fun k hk => (congrFun (f.1 118 h5).1 k).trans (q.2.2.2.1 k hk), (f.2.1 24 h4).trans q.2.2.2.2⟩
theorem CZ_119 {σ0 σ : Sg} {c j : Nat} {v : Int32} (q : CZ σ0 σ c) : CZ σ0 (si σ 119 j v) c :=
  ⟨fun k => (gi_si_ne (Or.inl (by decide +kernel))).trans (q.1 k), fun k => (gi_si_ne (Or.inl (by decide +kernel))).trans (q.2.1 k), fun k => (gi_si_ne (Or.inl (by decide +kernel))).trans (q.2.2.1 k), fun k hk => (gi_si_ne (Or.inl (by decide +kernel))).trans (q.2.2.2.1 k hk), (gi_si_ne (Or.inl (by decide +kernel))).trans q.2.2.2.2⟩
noncomputable def CLA (σ σ' : Sg) (c : Nat) : Prop := BL σ σ' ∧ (∀ k, ¬ k = c → gi σ' 118 k = gi σ 118 k ∧ gi σ' 120 k = gi σ 120 k ∧ gi σ' 121 k = gi σ 121 k) ∧ ((gi σ' 118 c).toInt ≤ 1 → gi σ' 120 c = gi σ 74 24 ∧ gi σ' 121 c = gi σ' 74 24 ∧ OKP σ' (gi σ 74 24).toNatClampNeg (gi σ' 74 24).toNatClampNeg 1)
theorem CLA_z {σ0 σ : Sg} {c : Nat} (h : CZ σ0 σ c) (w : ¬ (gi σ 118 c).toInt ≤ 1) : CLA σ0 σ c :=
  ⟨fun k _ => h.1 k, fun k hk => ⟨h.2.2.2.1 k hk, h.2.1 k, h.2.2.1 k⟩, fun z => absurd z w⟩
theorem CLA_e {σ0 σ1 σ2 : Sg} {c : Nat} (h : CZ σ0 σ1 c) (e : TE σ1 σ2 c) (k8 : ∀ k, gi σ2 118 k = gi σ1 118 k) : CLA σ0 σ2 c := by
  obtain ⟨e1, e2, e3, e4, e5⟩ := e
  obtain ⟨h1, h2, h3, h4, h5⟩ := h
  refine ⟨fun k hk => (e2 k (by rw [h5]; exact hk)).trans (h1 k), fun k hk => ⟨(k8 k).trans (h4 k hk), (e5 k hk).1.trans (h2 k), (e5 k hk).2.trans (h3 k)⟩, fun _ => ⟨e3.trans h5, e4, ?_⟩⟩
  rw [← h5]; exact e1
noncomputable def OKN (σ : Sg) (f : Nat) (n : Int) : Prop := ∀ i : Nat, (i : Int) < n → (gi σ 118 (10 * f + i)).toInt ≤ 1 → ∃ lo hi : Nat, (gi σ 120 (10 * f + i)).toInt = lo ∧ (gi σ 121 (10 * f + i)).toInt = hi ∧ 100 * f ≤ lo ∧ lo ≤ hi ∧ (hi : Int) ≤ (gi σ 74 24).toInt ∧ okSeg σ lo hi
theorem OKN_step {σ σ' : Sg} {f c : Nat} {n : Int} (h : OKN σ f n) (cl : CLA σ σ' c) (hc : (c : Int) = 10 * f + n) (h0 : 0 ≤ n) (s0 : 100 * (f : Int) ≤ (gi σ 74 24).toInt) (s1 : (gi σ 74 24).toInt ≤ (gi σ' 74 24).toInt) : OKN σ' f (n + 1) := by
  intro i hi hw
  by_cases e : (i : Int) = n
  · rw [show 10 * f + i = c from by omega] at hw ⊢
    obtain ⟨e1, e2, q⟩ := cl.2.2 hw
    have c1 := cl_eq (x := gi σ 74 24) (by omega)
    have c2 := cl_eq (x := gi σ' 74 24) (by omega)
    exact ⟨(gi σ 74 24).toNatClampNeg, (gi σ' 74 24).toNatClampNeg, by rw [e1]; exact c1.symm, by rw [e2]; exact c2.symm, by omega, by omega, by omega, OKP_seg q⟩
  · obtain ⟨k1, k2, k3⟩ := cl.2.1 (10 * f + i) (by omega)
    rw [k1] at hw
    obtain ⟨lo, hi', e1, e2, e3, e4, e5, e6⟩ := h i (by omega) hw
    exact ⟨lo, hi', by rw [k2]; exact e1, by rw [k3]; exact e2, e3, e4, by omega, okSeg_eq (fun j _ j2 => cl.1 j (by omega)) e6⟩
theorem OKN_fr {S F : List Nat} {σ σ' : Sg} {f : Nat} {n : Int} (h : OKN σ f n) (q : Fr S F σ σ') (h1 : 122 ∉ S) (h2 : 120 ∉ S) (h3 : 121 ∉ S) (h5 : 118 ∉ S) (h4 : 24 ∉ F) : OKN σ' f n := by
  intro i hi hw
  rw [show gi σ' 118 (10 * f + i) = gi σ 118 (10 * f + i) from congrFun (q.1 118 h5).1 _] at hw
  obtain ⟨lo, hi', e1, e2, e3, e4, e5, e6⟩ := h i hi hw
  refine ⟨lo, hi', ?_, ?_, e3, e4, ?_, okSeg_eq (fun j _ _ => congrFun (q.1 122 h1).1 j) e6⟩
  · rw [show gi σ' 120 (10 * f + i) = gi σ 120 (10 * f + i) from congrFun (q.1 120 h2).1 _]; exact e1
  · rw [show gi σ' 121 (10 * f + i) = gi σ 121 (10 * f + i) from congrFun (q.1 121 h3).1 _]; exact e2
  · rw [q.2.1 24 h4]; exact e5
theorem OKN_117 {σ : Sg} {f j : Nat} {n : Int} {v : Int32} (h : OKN σ f n) : OKN (si σ 117 j v) f n := by
  intro i hi hw
  rw [gi_si_ne (Or.inl (by decide +kernel))] at hw
  obtain ⟨lo, hi', e1, e2, e3, e4, e5, e6⟩ := h i hi hw
  exact ⟨lo, hi', by rw [gi_si_ne (Or.inl (by decide +kernel))]; exact e1, by rw [gi_si_ne (Or.inl (by decide +kernel))]; exact e2, e3, e4, by rw [gi_si_ne (Or.inl (by decide +kernel))]; exact e5, okSeg_eq (fun k _ _ => gi_si_ne (Or.inl (by decide +kernel))) e6⟩
theorem OKN_end {σ : Sg} {f : Nat} {n : Int} (h : OKN σ f n) (hc : (gi σ 117 f).toInt = n) (hs : (gi σ 74 24).toInt ≤ 100 * (f : Int) + 100) : okF σ f := by
  intro i hi hcl hw
  rw [hc] at hcl
  obtain ⟨lo, hi', e1, e2, e3, e4, e5, e6⟩ := h i hcl hw
  exact ⟨lo, hi', e1, e2, e3, e4, by omega, e6⟩
theorem FV_cl {σ : Sg} {k : Nat} {v : Int32} (h : FV σ) (h1 : (gi σ 74 12).toInt < (gi σ 74 11).toInt) (h2 : (gi σ 74 50).toInt < (gi σ 74 11).toInt) (hk : (gi σ 74 11).toInt ≤ (k : Int)) : FV (si σ 117 k v) := by
  intro f hf hc
  rw [gi_si_ne (Or.inl (by decide +kernel)), gi_si_ne (Or.inl (by decide +kernel)), gi_si_ne (Or.inl (by decide +kernel))] at hc
  intro n hn hcl hw
  rw [gi_si_ne (Or.inr (by omega))] at hcl
  rw [gi_si_ne (Or.inl (by decide +kernel))] at hw
  obtain ⟨lo, hi, e1, e2, e3, e4, e5, e6⟩ := h f hf hc n hn hcl hw
  exact ⟨lo, hi, by rw [gi_si_ne (Or.inl (by decide +kernel))]; exact e1, by rw [gi_si_ne (Or.inl (by decide +kernel))]; exact e2, e3, e4, e5, okSeg_eq (fun j _ _ => gi_si_ne (Or.inl (by decide +kernel))) e6⟩
theorem FV_the {σ : Sg} {f : Nat} (h : FV σ) (q : okF σ f) (e : (gi σ 74 11).toInt = (f : Int)) : FV (si σ 74 12 (gi σ 74 11)) := by
  intro g hg hc
  refine okF_si rfl ?_
  rw [gi_si_ne (Or.inr (by decide +kernel)), gi_si_eq, gi_si_ne (Or.inr (by decide +kernel))] at hc
  by_cases z : (g : Int) = (gi σ 74 11).toInt
  · rw [show g = f from by omega]; exact q
  · exact h g hg (by omega)
theorem FV_more {σ : Sg} {v : Int32} (h : FV σ) (e : (gi σ 74 12).toInt = (gi σ 74 11).toInt) (hv : v.toInt = (gi σ 74 11).toInt + 1) : FV (si σ 74 11 v) := by
  intro g hg hc
  refine okF_si rfl (h g hg ?_)
  rw [gi_si_eq, gi_si_ne (Or.inr (by decide +kernel)), gi_si_ne (Or.inr (by decide +kernel)), hv] at hc
  omega
/-! THE MACHINE'S POINT over raw cells: while objects are being made. Addresses, and what lies there. -/
noncomputable abbrev RWd : Type := List Nat × (Nat → va_E)
noncomputable def rc (ω : RWd) : va_W := ω.1.map (fun a => (a, ω.2 a))
noncomputable def rput (ω : RWd) (a : Nat) (e : va_E) : RWd := (ω.1, va_up ω.2 a e)
noncomputable def rnew (ω : RWd) (a : Nat) (e : va_E) : RWd := (ω.1 ++ [a], va_up ω.2 a e)
theorem rc_at {ω : RWd} {a : Nat} (h : a ∈ ω.1) : ∃ q0 : Nat, (rc ω)[q0]? = some (a, ω.2 a) :=
  List.getElem?_of_mem (List.mem_map.mpr ⟨a, h, rfl⟩)
theorem rc_i {ω : RWd} {j b : Nat} (h : ω.1[j]? = some b) : (rc ω)[j]? = some (b, ω.2 b) := by
  unfold rc
  rw [List.getElem?_map, h]
  rfl
theorem rc_j {ω : RWd} {j a : Nat} {e : va_E} (h : (rc ω)[j]? = some (a, e)) : ω.1[j]? = some a ∧ e = ω.2 a := by
  unfold rc at h
  rw [List.getElem?_map] at h
  cases hb : ω.1[j]? with
  | none => rw [hb] at h; cases h
  | some b =>
    rw [hb] at h
    have h := Option.some.inj h
    have h1 : b = a := congrArg Prod.fst h
    have h2 : ω.2 b = e := congrArg Prod.snd h
    subst h1
    exact ⟨rfl, h2.symm⟩
theorem rc_put {A : Nat → Prop} {ω : RWd} {a q0 : Nat} {e : va_E} (hD : va_D A (rc ω)) (hq : (rc ω)[q0]? = some (a, ω.2 a)) : (rc ω).set q0 (a, e) = rc (rput ω a e) := by
  have hl := (List.getElem?_eq_some_iff.mp hq).1
  apply List.ext_getElem?
  intro j
  by_cases hj : j = q0
  · subst hj
    rw [List.getElem?_set_self hl, rc_i (ω := rput ω a e) (rc_j hq).1]
    show _ = some (a, va_up ω.2 a e a)
    rw [va_up_self]
  · rw [List.getElem?_set_ne (Ne.symm hj)]
    cases hb : ω.1[j]? with
    | none =>
      unfold rc
      rw [List.getElem?_map, List.getElem?_map, hb, show (rput ω a e).1[j]? = none from hb]
      rfl
    | some b =>
      have h3 := rc_i hb
      have hne : b ≠ a := fun z => by
        subst z
        exact hj (hD.1 j q0 _ _ h3 hq rfl)
      rw [h3, rc_i (ω := rput ω a e) (show (rput ω a e).1[j]? = some b from hb)]
      show some (b, ω.2 b) = some (b, va_up ω.2 a e b)
      rw [va_up_ne _ _ hne]
theorem rc_new {A : Nat → Prop} {ω : RWd} {q : Nat} {e : va_E} (hD : va_D A (rc ω ++ [(q, e)])) : q ∉ ω.1 ∧ rc ω ++ [(q, e)] = rc (rnew ω q e) := by
  have hn : q ∉ ω.1 := by
    intro hm
    obtain ⟨i, hi⟩ := List.getElem?_of_mem hm
    have h0 := rc_i hi
    have hil := (List.getElem?_eq_some_iff.mp h0).1
    have h1 : (rc ω ++ [(q, e)])[i]? = some (q, ω.2 q) := by rw [List.getElem?_append_left hil]; exact h0
    have h2 : (rc ω ++ [(q, e)])[(rc ω).length]? = some (q, e) := by rw [List.getElem?_append_right (Nat.le_refl _), Nat.sub_self]; rfl
    have h3 := hD.1 i _ _ _ h1 h2 rfl
    omega
  refine ⟨hn, ?_⟩
  unfold rc rnew
  rw [List.map_append]
  congr 1
  · apply List.map_congr_left
    intro a ha
    show (a, ω.2 a) = (a, va_up ω.2 q e a)
    rw [va_up_ne _ _ (show a ≠ q from fun z => hn (z ▸ ha))]
  · show [(q, e)] = [(q, va_up ω.2 q e q)]
    rw [va_up_self]
/-- what was made beside one object: apart from all that was there, with what lies in it -/
noncomputable def BT (ω0 ω : RWd) (h : Nat) (P : List (Nat × va_E)) : Prop := h ∈ ω0.1 ∧ (∀ a ∈ ω0.1, a ∈ ω.1 ∧ (a ≠ h → ω.2 a = ω0.2 a)) ∧ (P.map (fun x => x.1)).Nodup ∧ ∀ x ∈ P, x.1 ∈ ω.1 ∧ x.1 ∉ ω0.1 ∧ ω.2 x.1 = x.2
theorem BT_0 {ω : RWd} {h : Nat} (hm : h ∈ ω.1) : BT ω ω h [] := ⟨hm, fun a ha => ⟨ha, fun _ => rfl⟩, List.nodup_nil, fun x hx => absurd hx List.not_mem_nil⟩
theorem BT_h {ω0 ω : RWd} {h : Nat} {P : List (Nat × va_E)} (b : BT ω0 ω h P) : h ∈ ω.1 := (b.2.1 h b.1).1
theorem nodup_snoc {l : List Nat} {q : Nat} (h : l.Nodup) (hq : q ∉ l) : (l ++ [q]).Nodup := by
  rw [List.nodup_append]
  refine ⟨h, by simp, fun a ha b hb => ?_⟩
  have hb : b = q := by simpa using hb
  subst hb
  exact fun z => hq (z ▸ ha)
theorem BT_new {ω0 ω : RWd} {h q : Nat} {e : va_E} {P : List (Nat × va_E)} (b : BT ω0 ω h P) (hq : q ∉ ω.1) : BT ω0 (rnew ω q e) h (P ++ [(q, e)]) ∧ (rnew ω q e).2 h = ω.2 h := by
  obtain ⟨b1, b2, b3, b4⟩ := b
  have hne : ∀ a, a ∈ ω.1 → a ≠ q := fun a ha z => hq (z ▸ ha)
  have hm : ∀ a, a ∈ ω.1 → (rnew ω q e).2 a = ω.2 a := fun a ha => by
    show va_up ω.2 q e a = _
    rw [va_up_ne _ _ (hne a ha)]
  refine ⟨⟨b1, fun a ha => ⟨List.mem_append_left _ (b2 a ha).1, fun z => (hm a (b2 a ha).1).trans ((b2 a ha).2 z)⟩, ?_, fun x hx => ?_⟩, hm h (b2 h b1).1⟩
  · rw [List.map_append]
    refine nodup_snoc b3 (fun z => ?_)
    obtain ⟨x, hx, e2⟩ := List.mem_map.mp z
    have e2 : x.1 = q := e2
    exact hq (e2 ▸ (b4 x hx).1)
  · rcases List.mem_append.mp hx with hx | hx
    · exact ⟨List.mem_append_left _ (b4 x hx).1, (b4 x hx).2.1, (hm _ (b4 x hx).1).trans (b4 x hx).2.2⟩
    · have hx : x = (q, e) := by simpa using hx
      subst hx
      refine ⟨List.mem_append_right _ (by simp), fun z => hq (b2 q z).1, ?_⟩
      show va_up ω.2 q e q = e
      rw [va_up_self]
theorem BT_put {ω0 ω : RWd} {h : Nat} {e : va_E} {P : List (Nat × va_E)} (b : BT ω0 ω h P) : BT ω0 (rput ω h e) h P ∧ (rput ω h e).2 h = e := by
  obtain ⟨b1, b2, b3, b4⟩ := b
  have hm : ∀ a, a ≠ h → (rput ω h e).2 a = ω.2 a := fun a ha => by
    show va_up ω.2 h e a = _
    rw [va_up_ne _ _ ha]
  refine ⟨⟨b1, fun a ha => ⟨(b2 a ha).1, fun z => (hm a z).trans ((b2 a ha).2 z)⟩, b3, fun x hx => ⟨(b4 x hx).1, (b4 x hx).2.1, (hm x.1 (fun z => (b4 x hx).2.1 (z ▸ b1))).trans (b4 x hx).2.2⟩⟩, ?_⟩
  show va_up ω.2 h e h = e
  rw [va_up_self]
theorem map_set1 (P : List (Nat × va_E)) (i a : Nat) (e e' : va_E) (hi : P[i]? = some (a, e)) : (P.set i (a, e')).map (fun x => x.1) = P.map (fun x => x.1) := by
  apply List.ext_getElem?
  intro j
  rw [List.getElem?_map, List.getElem?_map]
  by_cases hj : j = i
  · subst hj
    rw [List.getElem?_set_self (List.getElem?_eq_some_iff.mp hi).1, hi]
    rfl
  · rw [List.getElem?_set_ne (Ne.symm hj)]
theorem nodup_at {P : List (Nat × va_E)} (hn : (P.map (fun x => x.1)).Nodup) {i j a : Nat} {e f : va_E} (hi : P[i]? = some (a, e)) (hj : P[j]? = some (a, f)) : i = j := by
  have h1 : (P.map (fun x => x.1))[i]? = some a := by rw [List.getElem?_map, hi]; rfl
  have h2 : (P.map (fun x => x.1))[j]? = some a := by rw [List.getElem?_map, hj]; rfl
  obtain ⟨l1, g1⟩ := List.getElem?_eq_some_iff.mp h1
  obtain ⟨l2, g2⟩ := List.getElem?_eq_some_iff.mp h2
  have h3 := List.pairwise_iff_getElem.mp hn
  rcases Nat.lt_trichotomy i j with q | q | q
  · exact absurd (g1.trans g2.symm) (h3 i j l1 l2 q)
  · exact q
  · exact absurd (g2.trans g1.symm) (h3 j i l2 l1 q)
theorem BT_set {ω0 ω : RWd} {h i a : Nat} {e e' : va_E} {P : List (Nat × va_E)} (b : BT ω0 ω h P) (hi : P[i]? = some (a, e)) : BT ω0 (rput ω a e') h (P.set i (a, e')) ∧ (rput ω a e').2 h = ω.2 h ∧ ω.2 a = e ∧ a ∈ ω.1 := by
  obtain ⟨b1, b2, b3, b4⟩ := b
  have hx0 : (a, e) ∈ P := List.mem_of_getElem? hi
  have ha := b4 (a, e) hx0
  have hm : ∀ c, c ≠ a → (rput ω a e').2 c = ω.2 c := fun c hc => by
    show va_up ω.2 a e' c = _
    rw [va_up_ne _ _ hc]
  have hne : ∀ c ∈ ω0.1, c ≠ a := fun c hc z => ha.2.1 (z ▸ hc)
  refine ⟨⟨b1, fun c hc => ⟨(b2 c hc).1, fun z => (hm c (hne c hc)).trans ((b2 c hc).2 z)⟩, ?_, fun x hx => ?_⟩, hm h (hne h b1), ha.2.2, ha.1⟩
  · rw [map_set1 P i a e e' hi]; exact b3
  · obtain ⟨j, hj⟩ := List.getElem?_of_mem hx
    by_cases hji : j = i
    · subst hji
      rw [List.getElem?_set_self (List.getElem?_eq_some_iff.mp hi).1] at hj
      have hj := (Option.some.inj hj).symm
      subst hj
      refine ⟨ha.1, ha.2.1, ?_⟩
      show va_up ω.2 a e' a = e'
      rw [va_up_self]
    · rw [List.getElem?_set_ne (Ne.symm hji)] at hj
      have hxm := List.mem_of_getElem? hj
      refine ⟨(b4 x hxm).1, (b4 x hxm).2.1, (hm _ (fun z => hji ?_)).trans (b4 x hxm).2.2⟩
      obtain ⟨x1, x2⟩ := x
      have z : x1 = a := z
      subst z
      exact nodup_at b3 hj hi
theorem BT_call {ω0 ω ω2 : RWd} {h q : Nat} {e e' : va_E} {P P' : List (Nat × va_E)} (b : BT ω0 ω h P) (hq : q ∉ ω.1) (b2 : BT (rnew ω q e) ω2 q P') (c : ω2.2 q = e') : BT ω0 ω2 h (P ++ (q, e') :: P') ∧ ω2.2 h = ω.2 h := by
  obtain ⟨b3, b4⟩ := BT_new (e := e) b hq
  obtain ⟨a1, a2, a3, a4⟩ := b3
  obtain ⟨c1, c2, c3, c4⟩ := b2
  have hqh : h ≠ q := fun z => hq (z ▸ BT_h b)
  have hqn : ∀ x ∈ P, x.1 ≠ q := fun x hx z => hq (z ▸ (b.2.2.2 x hx).1)
  have hq0 : ∀ a ∈ ω0.1, a ≠ q := fun a ha z => hq (z ▸ (b.2.1 a ha).1)
  refine ⟨⟨a1, fun a ha => ?_, ?_, fun x hx => ?_⟩, ((c2 h (a2 h a1).1).2 hqh).trans b4⟩
  · have h1 := a2 a ha
    have h2 := c2 a h1.1
    exact ⟨h2.1, fun z => (h2.2 (hq0 a ha)).trans (h1.2 z)⟩
  · rw [List.map_append, List.nodup_append]
    refine ⟨b.2.2.1, ?_, fun x hx y hy => ?_⟩
    · rw [List.map_cons, List.nodup_cons]
      refine ⟨fun z => ?_, c3⟩
      obtain ⟨x, hx, e2⟩ := List.mem_map.mp z
      have e2 : x.1 = q := e2
      exact (c4 x hx).2.1 (e2 ▸ c1)
    · obtain ⟨x0, hx0, rfl⟩ := List.mem_map.mp hx
      obtain ⟨y0, hy0, rfl⟩ := List.mem_map.mp hy
      have m0 : x0.1 ∈ (rnew ω q e).1 := List.mem_append_left _ (b.2.2.2 x0 hx0).1
      rcases List.mem_cons.mp hy0 with hy0 | hy0
      · subst hy0; exact hqn x0 hx0
      · intro z
        exact (c4 y0 hy0).2.1 (z ▸ m0)
  · rcases List.mem_append.mp hx with hx | hx
    · have h1 := a4 x (List.mem_append_left _ hx)
      have h2 := c2 x.1 h1.1
      exact ⟨h2.1, h1.2.1, (h2.2 (hqn x hx)).trans h1.2.2⟩
    · rcases List.mem_cons.mp hx with hx | hx
      · subst hx
        exact ⟨(c2 q c1).1, fun z => hq (b.2.1 q z).1, c⟩
      · have h1 := c4 x hx
        exact ⟨h1.1, fun z => h1.2.1 (a2 x.1 z).1, h1.2.2⟩
/-- what else is known: all that comes may change, and arrays of the class's kinds can be made -/
noncomputable def UPV (V : Vx) : Prop := ∀ U, vX V U → (∀ q : Nat, U.heap.size ≤ q → vA V q) ∧ va_AO "NineMowers$Mower" U ∧ va_AO "NineMowers$Field" U ∧ va_AO "NineMowers$Tape" U
noncomputable def GRH (V : Vx) (ω : RWd) (H : Heap) : Prop := va_P (vD V) vwCl (rc ω) H ∧ va_D (vA V) (rc ω)
noncomputable def GRR (V : Vx) (ω : RWd) (U : State) : Prop := GRH V ω U.heap ∧ va_K (vD V) vwCl (tysV V) U ∧ vX V U ∧ XC V ∧ wfd V
theorem GRR_mk {V : Vx} {ω : RWd} {H : Heap} {s t : State} {locs : List Loc} (ht : t.heap = H) (hG : GRH V ω H) (hK : va_K (vD V) vwCl (tysV V) s) (hw : wfd V) (hX : vX V s ∧ XC V) (hS : va_S (vA V) s.heap H locs) (hW : s.WarmedH t.vm) : GRR V ω t :=
  ⟨by rw [ht]; exact hG, va_K.moved hW.alike hK, hX.2.1 s t (Or.inl hW) (by rw [ht]; exact hS.1) (by rw [ht]; exact hS.2.1) hX.1, hX.2, hw⟩
noncomputable def mI (M : Mx) : Prop := match M with
  | (p, l, e, R, s, m, args, below, meth, c, V, nL, Q) => meth.name = "<init>"
noncomputable def PR (M : Mx) (pc : Nat) (lv : List (Nat × Value)) (st : List Value) (ω : RWd) (kn : Nat × Nat) : Prop := match M with
  | (p, l, e, R, s, m, args, below, meth, c, V, nL, Q) => ∀ (ls : Array Slot) (H : Heap) (locs : List Loc), lv_has ls nL lv → GRH V ω H → va_S (vA V) s.heap H locs → W p l e R s m args below meth c H locs kn.1 kn.2 Q (F0 m pc ls st)
noncomputable def QRV (V : Vx) (Qk : RWd → Prop) : Array Value → State → Outcome → State → Prop := va_Qv Qk (fun ω t => GRR V ω t) (vA V)
noncomputable def QRR (V : Vx) (Qk : Nat → RWd → Prop) : Array Value → State → Outcome → State → Prop := va_Qr (fun u : Nat × RWd => Qk u.1 u.2) (fun u a t => a = u.1 ∧ GRR V u.2 t) (vA V)
noncomputable abbrev Kr (l : Launch) (V : Vx) (y : MethodName) (ws : List Cond) (rm : Room) (mc ms : Nat) (as : List Value) (ω : RWd) (Qc : Array Value → State → Outcome → State → Prop) : Prop := Met l y ws rm (va_Pc as (fun U => GRR V ω U)) Qc mc ms (vA V)
theorem GRRblind {V : Vx} {av : List Value} {ω : RWd} : FrameBlind (va_Pc av (fun U => GRR V ω U)) := fun a U g mk q => by
  obtain ⟨q0, q1, q2, q3, q4, q5⟩ := q
  exact ⟨q0, q1, va_K.moved (u := U) (U := U.calling g mk a) (Vm.Alike.refl U.vm) q2, q4.1 U _ (Or.inr rfl) (Nat.le_refl _) (fun _ _ _ => rfl) q3, q4, q5⟩
/-- the way in -/
theorem Kr_of {l : Launch} {V : Vx} {y : MethodName} {ws ws' : List Cond} {rm : Room} {mc ms : Nat} {cc : ByteArray} {maxL : Nat} {ret : Option FieldType} {own : String} {as : List Value} {ω : RWd} {Qc : Array Value → State → Outcome → State → Prop}
    (hy : plainName y.cls = true) (hw : ws = Cond.code y cc maxL ret :: ws') (ho : y.cls = own) (hlen : (lg_sl as).length ≤ maxL)
    (h : ∀ M : Mx, mL M = l → mV M = V → mN M = maxL → Cx M cc ret own ws rm mc ms Qc → (y.name = "<init>" → mI M) → PR M 0 (lv_args 0 as) [] ω (0, 0)) : Kr l V y ws rm mc ms as ω Qc := by
  refine Met.ofW (cc := cc) (maxL := maxL) (ret := ret) hy hw ?_
  intro p e s m args below meth c s1 B hml hv
  obtain ⟨rfl, hG, hK, hX, hC, hwf⟩ := hv
  have hown : s.vm.findClass own = some m.cls := by rw [← ho]; exact findClass_of_methodNamed B.named
  have hl := lv_entry as (n := maxL) hlen
  rw [lg_entry_eq]
  exact h (p, l, e, rm, s, m, _, below, meth, c, V, maxL, _) rfl rfl rfl ⟨B.exec, B.bytes, hml, hown, atoms_spec (ws := ws) B.pre, B.returns, B.notSynchronized, hK, rfl, rfl, hwf, hX, hC⟩ (fun hi => (name_of_methodNamed B.named B.method).1.trans hi) _ _ _ hl hG va_S.rf
section RulesR
variable {M : Mx} {cc : ByteArray} {ret : Option FieldType} {own : String} {Ts : List Cond} {rm rc0 : Room} {mc ms : Nat} {Qc : Array Value → State → Outcome → State → Prop} {pc : Nat} {lv lv' : List (Nat × Value)} {st : List Value} {ω : RWd} {kn : Nat × Nat}
theorem Z_aload_n (C : Cx M cc ret own Ts rm mc ms Qc) {k : Fin 4} {x : Nat} (hd : decode cc pc = .ok (.aload_n k, 1)) (j : Nat) (hj : lv[j]? = some ((k : Nat), .ref x)) (h : PR M (pc + 1) lv (.ref x :: st) ω kn) : PR M pc lv st ω kn := by
  obtain ⟨p, l, e, R, s, m, args, below, meth, c, V, nL, Q⟩ := M
  intro ls H locs hl hG hS
  exact lv_aload_n C.1 C.2.1 hd rfl (lv_at hl j hj) (h ls H locs hl hG hS)
theorem Z_iload_n (C : Cx M cc ret own Ts rm mc ms Qc) {k : Fin 4} {x : Int32} (hd : decode cc pc = .ok (.iload_n k, 1)) (j : Nat) (hj : lv[j]? = some ((k : Nat), .int x)) (h : PR M (pc + 1) lv (.int x :: st) ω kn) : PR M pc lv st ω kn := by
  obtain ⟨p, l, e, R, s, m, args, below, meth, c, V, nL, Q⟩ := M
  intro ls H locs hl hG hS
  exact lv_iload_n C.1 C.2.1 hd rfl (lv_at hl j hj) (h ls H locs hl hG hS)
theorem Z_astore_n (C : Cx M cc ret own Ts rm mc ms Qc) {k : Fin 4} {x : Nat} (hd : decode cc pc = .ok (.astore_n k, 1)) (hn : (k : Nat) < mN M) (hl' : stv lv (k : Nat) (.ref x) = lv') (h : PR M (pc + 1) lv' st ω kn) : PR M pc lv (.ref x :: st) ω kn := by
  obtain ⟨p, l, e, R, s, m, args, below, meth, c, V, nL, Q⟩ := M
  intro ls H locs hl hG hS
  exact lv_astore_n C.1 C.2.1 hd rfl hl hn hl' (fun ls hl => h ls H locs hl hG hS)
theorem Z_istore_n (C : Cx M cc ret own Ts rm mc ms Qc) {k : Fin 4} {x : Int32} (hd : decode cc pc = .ok (.istore_n k, 1)) (hn : (k : Nat) < mN M) (hl' : stv lv (k : Nat) (.int x) = lv') (h : PR M (pc + 1) lv' st ω kn) : PR M pc lv (.int x :: st) ω kn := by
  obtain ⟨p, l, e, R, s, m, args, below, meth, c, V, nL, Q⟩ := M
  intro ls H locs hl hG hS
  exact lv_istore_n C.1 C.2.1 hd rfl hl hn hl' (fun ls hl => h ls H locs hl hG hS)
theorem Z_iinc (C : Cx M cc ret own Ts rm mc ms Qc) {i : Nat} {n : Int} {x v : Int32} (hd : decode cc pc = .ok (.iinc i n, 3)) (j : Nat) (hj : lv[j]? = some (i, .int x)) (hv : x + Int32.ofInt n = v) (hn : i < mN M) (hl' : stv lv i (.int v) = lv') (h : PR M (pc + 3) lv' st ω kn) : PR M pc lv st ω kn := by
  obtain ⟨p, l, e, R, s, m, args, below, meth, c, V, nL, Q⟩ := M
  intro ls H locs hl hG hS
  exact lv_iinc C.1 C.2.1 hd hl hj hv hn hl' (fun ls hl => h ls H locs hl hG hS)
theorem Z_iconst (C : Cx M cc ret own Ts rm mc ms Qc) {n : Int} {v : Int32} (hd : decode cc pc = .ok (.iconst n, 1)) (hv : Int32.ofInt n = v) (h : PR M (pc + 1) lv (.int v :: st) ω kn) : PR M pc lv st ω kn := by
  obtain ⟨p, l, e, R, s, m, args, below, meth, c, V, nL, Q⟩ := M
  intro ls H locs hl hG hS
  exact lv_iconst C.1 C.2.1 hd hv (h ls H locs hl hG hS)
theorem Z_bipush (C : Cx M cc ret own Ts rm mc ms Qc) {n : Int} {v : Int32} (hd : decode cc pc = .ok (.bipush n, 2)) (hv : (Int8.ofInt n).toInt32 = v) (h : PR M (pc + 2) lv (.int v :: st) ω kn) : PR M pc lv st ω kn := by
  obtain ⟨p, l, e, R, s, m, args, below, meth, c, V, nL, Q⟩ := M
  intro ls H locs hl hG hS
  exact lv_bipush C.1 C.2.1 hd hv (h ls H locs hl hG hS)
theorem Z_sipush (C : Cx M cc ret own Ts rm mc ms Qc) {n : Int} {v : Int32} (hd : decode cc pc = .ok (.sipush n, 3)) (hv : (Int16.ofInt n).toInt32 = v) (h : PR M (pc + 3) lv (.int v :: st) ω kn) : PR M pc lv st ω kn := by
  obtain ⟨p, l, e, R, s, m, args, below, meth, c, V, nL, Q⟩ := M
  intro ls H locs hl hG hS
  exact lv_sipush C.1 C.2.1 hd hv (h ls H locs hl hG hS)
theorem Z_null (C : Cx M cc ret own Ts rm mc ms Qc) (hd : decode cc pc = .ok (.aconst_null, 1)) (h : PR M (pc + 1) lv (.null :: st) ω kn) : PR M pc lv st ω kn := by
  obtain ⟨p, l, e, R, s, m, args, below, meth, c, V, nL, Q⟩ := M
  intro ls H locs hl hG hS
  exact lv_null C.1 C.2.1 hd (h ls H locs hl hG hS)
theorem Z_dup (C : Cx M cc ret own Ts rm mc ms Qc) {x : Value} (hd : decode cc pc = .ok (.dup, 1)) (hx : x.category = 1) (h : PR M (pc + 1) lv (x :: x :: st) ω kn) : PR M pc lv (x :: st) ω kn := by
  obtain ⟨p, l, e, R, s, m, args, below, meth, c, V, nL, Q⟩ := M
  intro ls H locs hl hG hS
  exact lv_dup C.1 C.2.1 hd hx (h ls H locs hl hG hS)
theorem Z_goto (C : Cx M cc ret own Ts rm mc ms Qc) {off : Int} {tgt : Nat} (hd : decode cc pc = .ok (.goto off, 3)) (ht : (pc : Int) + off = (tgt : Int)) (h : PR M tgt lv st ω kn) : PR M pc lv st ω kn := by
  obtain ⟨p, l, e, R, s, m, args, below, meth, c, V, nL, Q⟩ := M
  intro ls H locs hl hG hS
  exact lv_goto C.1 C.2.1 hd ht (h ls H locs hl hG hS)
theorem Z_icmp_ge (C : Cx M cc ret own Ts rm mc ms Qc) {x y : Int32} {off : Int} {tgt : Nat} (hd : decode cc pc = .ok (.if_icmp .ge off, 3)) (ht : (pc : Int) + off = (tgt : Int)) (kt : y ≤ x → PR M tgt lv st ω kn) (kf : ¬ y ≤ x → PR M (pc + 3) lv st ω kn) : PR M pc lv (.int y :: .int x :: st) ω kn := by
  obtain ⟨p, l, e, R, s, m, args, below, meth, c, V, nL, Q⟩ := M
  intro ls H locs hl hG hS
  exact lv_icmp_ge C.1 C.2.1 hd ht (fun q => kt q ls H locs hl hG hS) (fun q => kf q ls H locs hl hG hS)
theorem Z_sub (ks : List Nat) (hl' : lv_pick lv ks = lv') (h : PR M pc lv' st ω kn) : PR M pc lv st ω kn := by
  obtain ⟨p, l, e, R, s, m, args, below, meth, c, V, nL, Q⟩ := M
  intro ls H locs hl hG hS
  exact h ls H locs (lv_sub hl ks hl') hG hS
theorem Z_tsw (C : Cx M cc ret own Ts rm mc ms Qc) {dflt lo hi : Int} {offs : Array Int} {len : Nat} {x : Int32} (hd : decode cc pc = .ok (.tableswitch dflt lo hi offs, len)) (tgt : Nat) (ht : (pc : Int) + dflt = (tgt : Int)) (ho : x.toInt < lo ∨ hi < x.toInt → PR M tgt lv st ω kn) (hsz : hi - lo + 1 = offs.size)
    (hin : ∀ (i : Nat) (off : Int), offs[i]? = some off → x.toInt = lo + i → PR M ((pc : Int) + off).toNat lv st ω kn ∧ 0 ≤ (pc : Int) + off) : PR M pc lv (.int x :: st) ω kn := by
  obtain ⟨p, l, e, R, s, m, args, below, meth, c, V, nL, Q⟩ := M
  intro ls H locs hl hG hS
  by_cases h : x.toInt < lo ∨ hi < x.toInt
  · exact lv_tableOut C.1 C.2.1 hd h ht (ho h ls H locs hl hG hS)
  · have h1 : ¬ x.toInt < lo := fun q => h (Or.inl q)
    have h2 : ¬ hi < x.toInt := fun q => h (Or.inr q)
    have h3 : (x.toInt - lo).toNat < offs.size := by omega
    obtain ⟨k1, k2⟩ := hin (x.toInt - lo).toNat _ (Array.getElem?_eq_getElem h3) (by omega)
    exact lv_tableIn C.1 C.2.1 hd h1 h2 (Array.getElem?_eq_getElem h3) (Int.toNat_of_nonneg k2).symm (k1 ls H locs hl hG hS)
/-- a final field is set, in a constructor -/
noncomputable def PF (own : String) (Ts : List Cond) (idx ci k : Nat) (rn : String) (ty : FieldType) : Prop := match vwCl[ci]? with
  | some (C, T, N) => k < N ∧ (∀ w ∈ u_ws C T N, w ∈ Ts) ∧ Cond.fieldLink own idx rn (T k).2.1 (T k).2.2.1 ∈ Ts ∧ rn = (T k).1 ∧ (T k).2.2.2 = true ∧ (T k).1 = own ∧ parseFieldDescriptor (T k).2.2.1 = some ty ∧ (∃ ty0 : Nat → FieldType, ∀ k, k < N → parseFieldDescriptor (T k).2.2.1 = some (ty0 k)) ∧ (∀ a, a < N → ∀ b, b < N → a ≠ b → (T a).2.1 ≠ (T b).2.1)
  | none => False
theorem Z_putF (C : Cx M cc ret own Ts rm mc ms Qc) (hI : mI M) {idx ci k a : Nat} {rn : String} {ty : FieldType} (hf : PF own Ts idx ci k rn ty) {fs : List Value} (ha : a ∈ ω.1) (hc : ω.2 a = .inr (ci, fs)) {v : Value} (hn : narrow ty v = v) (hfit : fits ty v = true) (hl9 : k < fs.length) (hd : decode cc pc = .ok (.putfield idx, 3)) (h : PR M (pc + 3) lv st (rput ω a (.inr (ci, fs.set k v))) kn) : PR M pc lv (v :: .ref a :: st) ω kn := by
  obtain ⟨p, l, e, R, s, m, args, below, meth, c, V, nL, Q⟩ := M
  intro ls H locs hl hG hS
  obtain ⟨q0, hq⟩ := rc_at ha
  have hq0 := hq
  rw [hc] at hq
  unfold PF at hf
  cases hcl : vwCl[ci]? with
  | none => rw [hcl] at hf; exact hf.elim
  | some r =>
    obtain ⟨Cn, T, N⟩ := r
    rw [hcl] at hf
    obtain ⟨f1, f2, f3, f4, f5, f9, f6, ⟨ty0, f7⟩, f8⟩ := hf
    refine va_putF (D := vD V) C.1 C.2.1 C.2.2.2.2.1 f2 ty0 f7 f8 C.2.2.2.1 C.2.2.2.2.2.2.2.1 hG.1 hG.2 hS q0 hq hcl k f1 (C.2.2.2.2.1 _ f3) (by subst f4; exact fun _ h => h) f5 hI f9 f6 hn hfit hl9 hd (fun H1 locs1 hP hD hS => ?_)
    rw [rc_put hG.2 hq0] at hP hD
    exact h ls H1 locs1 hl ⟨hP, hD⟩ hS
theorem Z_put (C : Cx M cc ret own Ts rm mc ms Qc) {idx ci k a : Nat} {rn : String} {ty : FieldType} (hf : PA own Ts idx ci k rn ty) {fs : List Value} (ha : a ∈ ω.1) (hc : ω.2 a = .inr (ci, fs)) {v : Value} (hn : narrow ty v = v) (hfit : fits ty v = true) (hl9 : k < fs.length) (hd : decode cc pc = .ok (.putfield idx, 3)) (h : PR M (pc + 3) lv st (rput ω a (.inr (ci, fs.set k v))) kn) : PR M pc lv (v :: .ref a :: st) ω kn := by
  obtain ⟨p, l, e, R, s, m, args, below, meth, c, V, nL, Q⟩ := M
  intro ls H locs hl hG hS
  obtain ⟨q0, hq⟩ := rc_at ha
  have hq0 := hq
  rw [hc] at hq
  unfold PA at hf
  cases hcl : vwCl[ci]? with
  | none => rw [hcl] at hf; exact hf.elim
  | some r =>
    obtain ⟨Cn, T, N⟩ := r
    rw [hcl] at hf
    obtain ⟨f1, f2, f3, f4, f5, f6, ⟨ty0, f7⟩, f8⟩ := hf
    refine va_put (D := vD V) C.1 C.2.1 C.2.2.2.2.1 f2 ty0 f7 f8 C.2.2.2.1 C.2.2.2.2.2.2.2.1 hG.1 hG.2 hS q0 hq hcl k f1 (C.2.2.2.2.1 _ f3) (by subst f4; exact fun _ h => h) f5 f6 hn hfit hl9 hd (fun H1 locs1 hP hD hS => ?_)
    rw [rc_put hG.2 hq0] at hP hD
    exact h ls H1 locs1 hl ⟨hP, hD⟩ hS
theorem Z_get (C : Cx M cc ret own Ts rm mc ms Qc) {idx ci k a : Nat} {rn : String} (hf : FA own Ts idx ci k rn) {fs : List Value} (ha : a ∈ ω.1) (hc : ω.2 a = .inr (ci, fs)) {v : Value} (hv : fs[k]? = some v) (hd : decode cc pc = .ok (.getfield idx, 3)) (h : PR M (pc + 3) lv (v :: st) ω kn) : PR M pc lv (.ref a :: st) ω kn := by
  obtain ⟨p, l, e, R, s, m, args, below, meth, c, V, nL, Q⟩ := M
  intro ls H locs hl hG hS
  obtain ⟨q0, hq⟩ := rc_at ha
  rw [hc] at hq
  unfold FA at hf
  cases hcl : vwCl[ci]? with
  | none => rw [hcl] at hf; exact hf.elim
  | some r =>
    obtain ⟨Cn, T, N⟩ := r
    rw [hcl] at hf
    obtain ⟨f1, f2, f3, f4⟩ := hf
    refine va_get (D := vD V) (v := v) C.1 C.2.1 C.2.2.2.2.1 f2 C.2.2.2.1 C.2.2.2.2.2.2.2.1 hG.1 q0 hq hcl k f1 (C.2.2.2.2.1 _ f3) ?_ hv hd (h ls H locs hl hG hS)
    rcases f4 with f4 | f4
    · subst f4; exact fun _ h => h
    · exact u_same (C.2.2.2.2.1 _ f4)
theorem Z_new (C : Cx M cc ret own Ts rm mc ms Qc) (hU : UPV (mV M)) {idx ci N : Nat} {Cn : String} {T : u_T} {ty : Nat → FieldType} (hcl : vwCl[ci]? = some (Cn, T, N)) (hin : ∀ w ∈ u_ws Cn T N, w ∈ Ts) (hty : ∀ k, k < N → parseFieldDescriptor (T k).2.2.1 = some (ty k)) (h1 : Cond.classLink own idx Cn ∈ Ts) (h2 : Cond.instantiable Cn N ∈ Ts) (h3 : Cond.initialized Cn ∈ Ts) {fs : List Value} (hfs : ∀ j, j < N → defaultValue (ty j) = vp_V fs j) (hc : kn.1 + 1 ≤ rm.cells) (hs : kn.2 + N ≤ rm.slots) (hd : decode cc pc = .ok (.new idx, 3)) (h : ∀ q, q ∉ ω.1 → PR M (pc + 3) lv (.ref q :: st) (rnew ω q (.inr (ci, fs))) (kn.1 + 1, kn.2 + N)) : PR M pc lv st ω kn := by
  obtain ⟨p, l, e, R, s, m, args, below, meth, c, V, nL, Q⟩ := M
  intro ls H locs hl hG hS
  obtain ⟨hx, hb, hml, hown, hts, hr, hlk, hK, rfl, rfl, hw, hX⟩ := C
  refine va_new (D := vD V) hx hb hts hin ty hty hown (hts _ h1) (hts _ h2) (hts _ h3) hK hG.1 hG.2 hS (hU s hX.1).1 hcl hfs hc hs hd (fun q H1 hP hD hS1 => ?_)
  obtain ⟨n1, n2⟩ := rc_new hD
  rw [n2] at hP hD
  exact h q n1 ls H1 locs hl ⟨hP, hD⟩ hS1
theorem Z_newa (C : Cx M cc ret own Ts rm mc ms Qc) (hU : UPV (mV M)) {atype : ArrayType} {ty : FieldType} {t : Nat} (harr : Cond.arrayClass ty ∈ Ts) (hty : newarray.typeOf atype = ty) (htt : (tysV (mV M))[t]? = some (vC (mV M) t, ty)) (hra : ∀ (U : State) (cA : ClassId), va_RA U cA ty → U.vm.findClass ("[" ++ ty.toString) = some cA) {n : Int32} {N' : Nat} {a0 : vp_A} (ha : ∀ cA : ClassId, vp_cell cA a0 = arrV cA N' (fun _ => defaultValue ty)) (hn : ¬ n < 0) (hN : n.toNatClampNeg = N') (hby : N' * componentBytes ty ≤ 536870912) (hc : kn.1 + 1 ≤ rm.cells) (hs : kn.2 + N' ≤ rm.slots) (hd : decode cc pc = .ok (.newarray atype, 2)) (h : ∀ q, q ∉ ω.1 → PR M (pc + 2) lv (.ref q :: st) (rnew ω q (.inl (vC (mV M) t, a0))) (kn.1 + 1, kn.2 + N')) : PR M pc lv (.int n :: st) ω kn := by
  obtain ⟨p, l, e, R, s, m, args, below, meth, c, V, nL, Q⟩ := M
  intro ls H locs hl hG hS
  obtain ⟨hx, hb, hml, hown, hts, hr, hlk, hK, rfl, rfl, hw, hX⟩ := C
  refine va_newa (D := vD V) hx hb (by rw [hty]; exact hts _ harr) hty hK hG.1 hG.2 hS (hU s hX.1).1 ha hn hN hby hc hs hd (fun q cA H1 hK1 hP hD hS1 => ?_)
  have e1 := hra s cA (hK1.2 (tysV V).length _ (by rw [List.getElem?_append_right (Nat.le_refl _), Nat.sub_self]; rfl)).2
  have e2 := hra s (vC V t) (hK.2 t _ htt).2
  have e3 : cA = vC V t := Option.some.inj (e1.symm.trans e2)
  rw [e3] at hP hD
  obtain ⟨n1, n2⟩ := rc_new hD
  rw [n2] at hP hD
  exact h q n1 ls H1 locs hl ⟨hP, hD⟩ hS1
theorem Z_newq (C : Cx M cc ret own Ts rm mc ms Qc) (hU : UPV (mV M)) {idx t : Nat} {Cn : String} (hAO : ∀ U, vX (mV M) U → va_AO Cn U) (htt : (tysV (mV M))[t]? = some (vC (mV M) t, .object Cn)) (h1 : Cond.classLink own idx Cn ∈ Ts) {n : Int32} {N' : Nat} (hn : ¬ n < 0) (hN : n.toNatClampNeg = N') (hby : N' * 4 ≤ 536870912) (hc : kn.1 + 1 ≤ rm.cells) (hs : kn.2 + N' ≤ rm.slots) (hd : decode cc pc = .ok (.anewarray idx, 3)) (h : ∀ q, q ∉ ω.1 → PR M (pc + 3) lv (.ref q :: st) (rnew ω q (.inl (vC (mV M) t, N', .inr (.inr (.inr (.inr (fun _ => none))))))) (kn.1 + 1, kn.2 + N')) : PR M pc lv (.int n :: st) ω kn := by
  obtain ⟨p, l, e, R, s, m, args, below, meth, c, V, nL, Q⟩ := M
  intro ls H locs hl hG hS
  obtain ⟨hx, hb, hml, hown, hts, hr, hlk, hK, rfl, rfl, hw, hX⟩ := C
  refine va_newq (D := vD V) hx hb hown (hts _ h1) (hAO s hX.1) hK hG.1 hG.2 hS (hU s hX.1).1 hn hN hby hc hs hd (fun q cA H1 hK1 hP hD hS1 => ?_)
  obtain ⟨k1, c1, -, -, -, e1⟩ := (hK1.2 (tysV V).length _ (by rw [List.getElem?_append_right (Nat.le_refl _), Nat.sub_self]; rfl)).2
  obtain ⟨k2, c2, -, -, -, e2⟩ := (hK.2 t _ htt).2
  have e3 : cA = vC V t := Option.some.inj (e1.symm.trans e2)
  rw [e3] at hP hD
  obtain ⟨n1, n2⟩ := rc_new hD
  rw [n2] at hP hD
  exact h q n1 ls H1 locs hl ⟨hP, hD⟩ hS1
theorem Z_iast (C : Cx M cc ret own Ts rm mc ms Qc) {a n : Nat} {f : Nat → Int32} {i x : Int32} (ha : a ∈ ω.1) (hc : ω.2 a = .inl (vC (mV M) 0, n, .inl f)) (hin : vp_in i n) (hd : decode cc pc = .ok (.iastore, 1)) (h : PR M (pc + 1) lv st (rput ω a (.inl (vC (mV M) 0, n, .inl (upd f i.toNatClampNeg x)))) kn) : PR M pc lv (.int x :: .int i :: .ref a :: st) ω kn := by
  obtain ⟨p, l, e, R, s, m, args, below, meth, c, V, nL, Q⟩ := M
  intro ls H locs hl hG hS
  obtain ⟨q0, hq⟩ := rc_at ha
  have hq0 := hq
  rw [hc] at hq
  refine va_iast (D := vD V) C.1 C.2.1 C.2.2.2.2.2.2.2.1 hG.1 hG.2 hS q0 0 hq rfl hin hd (fun H1 locs1 hP hD hS => ?_)
  rw [rc_put hG.2 hq0] at hP hD
  exact h ls H1 locs1 hl ⟨hP, hD⟩ hS
theorem Z_aast (C : Cx M cc ret own Ts rm mc ms Qc) {a n t ci v : Nat} {r : vw_C} {vs : List Value} {f : Nat → Option Nat} {i : Int32} (ha : a ∈ ω.1) (hc : ω.2 a = .inl (vC (mV M) t, n, .inr (.inr (.inr (.inr f))))) (htt : (tysV (mV M))[t]? = some (vC (mV M) t, .object r.1)) (hv : v ∈ ω.1) (hcv : ω.2 v = .inr (ci, vs)) (hcl : vwCl[ci]? = some r) (hin : vp_in i n) (hd : decode cc pc = .ok (.aastore, 1)) (h : PR M (pc + 1) lv st (rput ω a (.inl (vC (mV M) t, n, .inr (.inr (.inr (.inr (va_up f i.toNatClampNeg (some v)))))))) kn) : PR M pc lv (.ref v :: .int i :: .ref a :: st) ω kn := by
  obtain ⟨p, l, e, R, s, m, args, below, meth, c, V, nL, Q⟩ := M
  intro ls H locs hl hG hS
  obtain ⟨q0, hq⟩ := rc_at ha
  obtain ⟨q1, hq1⟩ := rc_at hv
  have hq0 := hq
  rw [hc] at hq
  rw [hcv] at hq1
  refine va_astq (D := vD V) C.1 C.2.1 C.2.2.2.2.2.2.2.1 hG.1 hG.2 hS q0 t q1 ci hq htt hq1 hcl hin hd (fun H1 locs1 hP hD hS => ?_)
  rw [rc_put hG.2 hq0] at hP hD
  exact h ls H1 locs1 hl ⟨hP, hD⟩ hS
theorem Z_objInit (C : Cx M cc ret own Ts rm mc ms Qc) {idx a : Nat} (h1 : Cond.methodLink own idx Lib.objectInit ∈ Ts) (h2 : Cond.instanceMethod Lib.objectInit ∈ Ts) (h3 : Cond.code Lib.objectInit ⟨#[0xb1]⟩ 1 none ∈ Ts) (hst : (st.map fun v => v.category).sum + 12 ≤ rm.locals) (hfr : 1 ≤ rm.frames) (hd : decode cc pc = .ok (.invokespecial idx, 3)) (h : PR M (pc + 3) lv st ω kn) : PR M pc lv (.ref a :: st) ω kn := by
  obtain ⟨p, l, e, R, s, m, args, below, meth, c, V, nL, Q⟩ := M
  intro ls H locs hl hG hS
  obtain ⟨hx, hb, hml, hown, hts, hr, hlk, hK, rfl, rfl, hw, hX⟩ := C
  refine W.objInit hx hb hown (hts _ h1) (hts _ h2) (hts _ h3) rfl (by rw [hml]; exact hl.1) rfl hd hfr (by show 2 * 0 + _ + 12 ≤ _; omega) ?_
  exact W.eq (g2 := F0 m (pc + 3) ls st) rfl (h ls H locs hl hG hS)
/-- a constructor is called -/
noncomputable def KI (own : String) (Ts : List Cond) (rm : Room) (idx : Nat) (y : MethodName) (ws : List Cond) (rc : Room) (n : Nat) : Prop :=
  ∃ (bytes : ByteArray) (maxL : Nat) (ws' : List Cond), GoodIn Ts ws ∧ ws = Cond.code y bytes maxL none :: ws' ∧ Cond.initialized y.cls ∈ Ts ∧ Cond.methodLink own idx y ∈ Ts ∧ Cond.instanceMethod y ∈ Ts ∧ y.name = "<init>" ∧ (y.cls ≠ "java/lang/invoke/MethodHandle" ∧ y.cls ≠ "java/lang/invoke/VarHandle" ∧ (parseMethodDescriptor y.desc).map (fun d => d.parameters.length) = some n) ∧ (rc.frames + 1 ≤ rm.frames ∧ 8 + (maxL + 11) + rc.locals ≤ rm.locals)
theorem Z_ci {Qk : RWd → Prop} {idx n b : Nat} {y : MethodName} {ws : List Cond} {As : List Value} (C : Cx M cc ret own Ts rm mc ms Qc) (k : KI own Ts rm idx y ws rc0 n) (hn : As.length = n) (hst : (st.map fun v => v.category).sum ≤ 8) (hd : decode cc pc = .ok (.invokespecial idx, 3)) (hf : kn.1 + rc0.cells ≤ rm.cells ∧ kn.2 + rc0.slots ≤ rm.slots) (hM : Kr (mL M) (mV M) y ws rc0 rc0.cells rc0.slots (.ref b :: As) ω (QRV (mV M) Qk)) (h : ∀ ω', Qk ω' → PR M (pc + 3) lv st ω' (kn.1 + rc0.cells, kn.2 + rc0.slots)) : PR M pc lv (As.reverse ++ .ref b :: st) ω kn := by
  obtain ⟨p, l, e, R, s, m, args, below, meth, c, V, nL, Q⟩ := M
  intro ls H locs hl hG hS
  obtain ⟨hx, hb, hml, hown, hts, hr, hlk, hK, rfl, rfl, hw, hX⟩ := C
  obtain ⟨bytes, maxL, ws', k1, k2, k3, k4, k5, k6, k7, k8⟩ := k
  have hst2 : 2 * (F0 m pc ls (As.reverse ++ .ref b :: st)).monitorRoom + (st.map fun v => v.category).sum ≤ 8 := by show 2 * 0 + _ ≤ 8; omega
  exact va_callv (va_runI (As := As) (b := b) ⟨hx, hb, hml, hown, hts⟩ hM (cwI n hts k1 k2 rfl rfl (hts _ k3) (hts _ k4) (hts _ k5) k6 k7 k8) ⟨GRRblind, fun U hU hW => ⟨rfl, GRR_mk hU hG hK hw hX hS hW⟩⟩ rfl hn hl.1 rfl hst2 hd hf) hS (fun _ _ h => h) (fun _ h => h) (fun u t H1 locs1 ht hvm hq hB hz hk hS1 => by subst ht; exact h u hq ls _ locs1 hl hB.1 hS1)
theorem Z_vret {Qk : RWd → Prop} (C : Cx M cc none own Ts rm mc ms (QRV (mV M) Qk)) (hd : decode cc pc = .ok (.return_, 1)) (h : Qk ω) : PR M pc lv [] ω (mc, ms) := by
  obtain ⟨p, l, e, R, s, m, args, below, meth, c, V, nL, Q⟩ := M
  intro ls H locs hl hG hS
  obtain ⟨hx, hb, hml, hown, hts, hr, hlk, hK, hR, hQ, hw, hX⟩ := C
  have hQ : Q = MQ below (QRV V Qk) args s mc ms (vA V) := hQ
  subst hQ
  exact W.vret hx hb hr (fun t ht hW => ⟨⟨ω, rfl, h, GRR_mk ht hG hK hw hX hS hW⟩, hS.F ht⟩) hS.2.2 hd hlk
theorem Z_aret {Qk : Nat → RWd → Prop} {rt : FieldType} (C : Cx M cc (some rt) own Ts rm mc ms (QRR (mV M) Qk)) (hrt : (∃ n, rt = .object n) ∨ ∃ t, rt = .array t) {x : Nat} (hd : decode cc pc = .ok (.areturn, 1)) (h : Qk x ω) : PR M pc lv [.ref x] ω (mc, ms) := by
  obtain ⟨p, l, e, R, s, m, args, below, meth, c, V, nL, Q⟩ := M
  intro ls H locs hl hG hS
  obtain ⟨hx, hb, hml, hown, hts, hr, hlk, hK, hR, hQ, hw, hX⟩ := C
  have hQ : Q = MQ below (QRR V Qk) args s mc ms (vA V) := hQ
  subst hQ
  exact W.aret (v := .ref x) hx hb hr hrt (Or.inr ⟨_, rfl⟩) (fun t ht hW => ⟨⟨(x, ω), x, rfl, h, rfl, GRR_mk ht hG hK hw hX hS hW⟩, hS.F ht⟩) hS.2.2 hd hlk
end RulesR
/-- the state's cells, raw -/
noncomputable def rwd (V : Vx) (σ : Sg) : RWd := ((ids V).map (va V), fun a => match (ids V).find? (fun i => va V i == a) with
  | some i => ct V σ i
  | none => .inl (0, 0, .inl fun _ => 0))
theorem rwd_ct {V : Vx} {σ : Sg} {A : Nat → Prop} (hD : va_D A (cells V σ)) {id : Nat} (hi : id ∈ ids V) : (rwd V σ).2 (va V id) = ct V σ id := by
  show (match (ids V).find? (fun i => va V i == va V id) with
    | some i => ct V σ i
    | none => _) = _
  cases hf : (ids V).find? (fun i => va V i == va V id) with
  | none => exact absurd (List.find?_eq_none.mp hf id hi) (by simp)
  | some i =>
    have h1 := List.find?_some hf
    have h2 := List.mem_of_find?_eq_some hf
    have h3 : va V i = va V id := by simpa using h1
    rw [va_D_inj hD h2 hi h3]
theorem rwd_rc {V : Vx} {σ : Sg} {A : Nat → Prop} (hD : va_D A (cells V σ)) : rc (rwd V σ) = cells V σ := by
  unfold rc cells
  rw [show (rwd V σ).1 = (ids V).map (va V) from rfl, List.map_map]
  apply List.map_congr_left
  intro id hi
  show (va V id, (rwd V σ).2 (va V id)) = _
  rw [rwd_ct hD hi]
/-! what a constructor does, beside what it has made -/
section RulesY
variable {M : Mx} {cc : ByteArray} {ret : Option FieldType} {own : String} {Ts : List Cond} {rm rc0 : Room} {mc ms : Nat} {Qc : Array Value → State → Outcome → State → Prop} {pc : Nat} {lv lv' : List (Nat × Value)} {st : List Value} {ω0 ω : RWd} {kn : Nat × Nat} {h : Nat} {P : List (Nat × va_E)}
theorem Y_putF (C : Cx M cc ret own Ts rm mc ms Qc) (hI : mI M) {idx ci k : Nat} {rn : String} {ty : FieldType} (hf : PF own Ts idx ci k rn ty) {fs : List Value} (b : BT ω0 ω h P) (hc : ω.2 h = .inr (ci, fs)) {v : Value} (hn : narrow ty v = v) (hfit : fits ty v = true) (hl9 : k < fs.length) (hd : decode cc pc = .ok (.putfield idx, 3)) (kk : ∀ ω', BT ω0 ω' h P → ω'.2 h = .inr (ci, fs.set k v) → PR M (pc + 3) lv st ω' kn) : PR M pc lv (v :: .ref h :: st) ω kn := by
  have q := BT_put (e := .inr (ci, fs.set k v)) b
  exact Z_putF C hI hf (BT_h b) hc hn hfit hl9 hd (kk _ q.1 q.2)
theorem Y_put (C : Cx M cc ret own Ts rm mc ms Qc) {idx ci k : Nat} {rn : String} {ty : FieldType} (hf : PA own Ts idx ci k rn ty) {fs : List Value} (b : BT ω0 ω h P) (hc : ω.2 h = .inr (ci, fs)) {v : Value} (hn : narrow ty v = v) (hfit : fits ty v = true) (hl9 : k < fs.length) (hd : decode cc pc = .ok (.putfield idx, 3)) (kk : ∀ ω', BT ω0 ω' h P → ω'.2 h = .inr (ci, fs.set k v) → PR M (pc + 3) lv st ω' kn) : PR M pc lv (v :: .ref h :: st) ω kn := by
  have q := BT_put (e := .inr (ci, fs.set k v)) b
  exact Z_put C hf (BT_h b) hc hn hfit hl9 hd (kk _ q.1 q.2)
theorem Y_putP (C : Cx M cc ret own Ts rm mc ms Qc) {idx ci k i a : Nat} {rn : String} {ty : FieldType} (hf : PA own Ts idx ci k rn ty) {fs : List Value} (b : BT ω0 ω h P) (hi : P[i]? = some (a, .inr (ci, fs))) {v : Value} (hn : narrow ty v = v) (hfit : fits ty v = true) (hl9 : k < fs.length) (hd : decode cc pc = .ok (.putfield idx, 3)) (kk : ∀ ω', BT ω0 ω' h (P.set i (a, .inr (ci, fs.set k v))) → ω'.2 h = ω.2 h → PR M (pc + 3) lv st ω' kn) : PR M pc lv (v :: .ref a :: st) ω kn := by
  obtain ⟨q1, q2, q3, q4⟩ := BT_set (e' := .inr (ci, fs.set k v)) b hi
  exact Z_put C hf q4 q3 hn hfit hl9 hd (kk _ q1 q2)
theorem Y_newa (C : Cx M cc ret own Ts rm mc ms Qc) (hU : UPV (mV M)) (b : BT ω0 ω h P) {atype : ArrayType} {ty : FieldType} {t : Nat} (harr : Cond.arrayClass ty ∈ Ts) (hty : newarray.typeOf atype = ty) (htt : (tysV (mV M))[t]? = some (vC (mV M) t, ty)) (hra : ∀ (U : State) (cA : ClassId), va_RA U cA ty → U.vm.findClass ("[" ++ ty.toString) = some cA) {n : Int32} {N' : Nat} {a0 : vp_A} (ha : ∀ cA : ClassId, vp_cell cA a0 = arrV cA N' (fun _ => defaultValue ty)) (hn : ¬ n < 0) (hN : n.toNatClampNeg = N') (hby : N' * componentBytes ty ≤ 536870912) (hc : kn.1 + 1 ≤ rm.cells) (hs : kn.2 + N' ≤ rm.slots) (hd : decode cc pc = .ok (.newarray atype, 2)) (kk : ∀ q ω', BT ω0 ω' h (P ++ [(q, .inl (vC (mV M) t, a0))]) → ω'.2 h = ω.2 h → PR M (pc + 2) lv (.ref q :: st) ω' (kn.1 + 1, kn.2 + N')) : PR M pc lv (.int n :: st) ω kn :=
  Z_newa C hU harr hty htt hra ha hn hN hby hc hs hd (fun q hq => kk q _ (BT_new b hq).1 (BT_new b hq).2)
theorem Y_newq (C : Cx M cc ret own Ts rm mc ms Qc) (hU : UPV (mV M)) (b : BT ω0 ω h P) {idx t : Nat} {Cn : String} (hAO : ∀ U, vX (mV M) U → va_AO Cn U) (htt : (tysV (mV M))[t]? = some (vC (mV M) t, .object Cn)) (h1 : Cond.classLink own idx Cn ∈ Ts) {n : Int32} {N' : Nat} (hn : ¬ n < 0) (hN : n.toNatClampNeg = N') (hby : N' * 4 ≤ 536870912) (hc : kn.1 + 1 ≤ rm.cells) (hs : kn.2 + N' ≤ rm.slots) (hd : decode cc pc = .ok (.anewarray idx, 3)) (kk : ∀ q ω', BT ω0 ω' h (P ++ [(q, .inl (vC (mV M) t, N', .inr (.inr (.inr (.inr (fun _ => none))))))]) → ω'.2 h = ω.2 h → PR M (pc + 3) lv (.ref q :: st) ω' (kn.1 + 1, kn.2 + N')) : PR M pc lv (.int n :: st) ω kn :=
  Z_newq C hU hAO htt h1 hn hN hby hc hs hd (fun q hq => kk q _ (BT_new b hq).1 (BT_new b hq).2)
theorem Y_iast (C : Cx M cc ret own Ts rm mc ms Qc) {a n k : Nat} {f : Nat → Int32} {i x : Int32} (b : BT ω0 ω h P) (hi : P[k]? = some (a, .inl (vC (mV M) 0, n, .inl f))) (hin : vp_in i n) (hd : decode cc pc = .ok (.iastore, 1)) (kk : ∀ ω', BT ω0 ω' h (P.set k (a, .inl (vC (mV M) 0, n, .inl (upd f i.toNatClampNeg x)))) → ω'.2 h = ω.2 h → PR M (pc + 1) lv st ω' kn) : PR M pc lv (.int x :: .int i :: .ref a :: st) ω kn := by
  obtain ⟨q1, q2, q3, q4⟩ := BT_set (e' := .inl (vC (mV M) 0, n, .inl (upd f i.toNatClampNeg x))) b hi
  exact Z_iast C q4 q3 hin hd (kk _ q1 q2)
theorem Y_aast (C : Cx M cc ret own Ts rm mc ms Qc) {a n t ci v k k2 : Nat} {r : vw_C} {vs : List Value} {f : Nat → Option Nat} {i : Int32} (b : BT ω0 ω h P) (hi : P[k]? = some (a, .inl (vC (mV M) t, n, .inr (.inr (.inr (.inr f)))))) (htt : (tysV (mV M))[t]? = some (vC (mV M) t, .object r.1)) (hj : P[k2]? = some (v, .inr (ci, vs))) (hcl : vwCl[ci]? = some r) (hin : vp_in i n) (hd : decode cc pc = .ok (.aastore, 1)) (kk : ∀ ω', BT ω0 ω' h (P.set k (a, .inl (vC (mV M) t, n, .inr (.inr (.inr (.inr (va_up f i.toNatClampNeg (some v)))))))) → ω'.2 h = ω.2 h → PR M (pc + 1) lv st ω' kn) : PR M pc lv (.ref v :: .int i :: .ref a :: st) ω kn := by
  obtain ⟨q1, q2, q3, q4⟩ := BT_set (e' := .inl (vC (mV M) t, n, .inr (.inr (.inr (.inr (va_up f i.toNatClampNeg (some v))))))) b hi
  have q5 := b.2.2.2 _ (List.mem_of_getElem? hj)
  exact Z_aast C q4 q3 htt q5.1 q5.2.2 hcl hin hd (kk _ q1 q2)
theorem Y_get (C : Cx M cc ret own Ts rm mc ms Qc) {idx ci k : Nat} {rn : String} (hf : FA own Ts idx ci k rn) {fs : List Value} (b : BT ω0 ω h P) (hc : ω.2 h = .inr (ci, fs)) {v : Value} (hv : fs[k]? = some v) (hd : decode cc pc = .ok (.getfield idx, 3)) (kk : PR M (pc + 3) lv (v :: st) ω kn) : PR M pc lv (.ref h :: st) ω kn :=
  Z_get C hf (BT_h b) hc hv hd kk
end RulesY
noncomputable def rmr (d c s : Nat) : Room := { frames := d, cells := c, slots := s, locals := 40 * d }
noncomputable def ints (V : Vx) (n : Nat) : va_E := .inl (vC V 0, n, .inl (fun _ => 0))
/-- the links to private constructors -/
noncomputable def NWU (U : State) : Prop := va_Nw (.methodLinkNest RX11 11 yX1_init "NineMowers") U ∧ va_Nw (.methodLinkNest RX11 70 yX2_init "NineMowers") U ∧ va_Nw (.methodLinkNest RX11 75 yX9_init "NineMowers") U
theorem NWU_w {s U : State} (hW : s.WarmedH U.vm) (h : NWU s) : NWU U := ⟨va_Nw.warmM hW h.1, va_Nw.warmM hW h.2.1, va_Nw.warmM hW h.2.2⟩
noncomputable def mNW (M : Mx) : Prop := match M with
  | (p, l, e, R, s, m, args, below, meth, c, V, nL, Q) => NWU s
noncomputable abbrev KrN (l : Launch) (V : Vx) (y : MethodName) (ws : List Cond) (rm : Room) (mc ms : Nat) (as : List Value) (ω : RWd) (Qc : Array Value → State → Outcome → State → Prop) : Prop := Met l y ws rm (va_Pc as (fun U => GRR V ω U ∧ NWU U)) Qc mc ms (vA V)
theorem NWU_c {U : State} {g mk a} (h : NWU U) : NWU (U.calling g mk a) := ⟨va_Nw.same rfl rfl h.1, va_Nw.same rfl rfl h.2.1, va_Nw.same rfl rfl h.2.2⟩
theorem GRRblindN {V : Vx} {av : List Value} {ω : RWd} : FrameBlind (va_Pc av (fun U => GRR V ω U ∧ NWU U)) := fun a U g mk q => by
  obtain ⟨q0, ⟨q1, q2, q3, q4, q5⟩, q6⟩ := q
  exact ⟨q0, ⟨q1, va_K.moved (u := U) (U := U.calling g mk a) (Vm.Alike.refl U.vm) q2, q4.1 U _ (Or.inr rfl) (Nat.le_refl _) (fun _ _ _ => rfl) q3, q4, q5⟩, NWU_c q6⟩
theorem KrN_of {l : Launch} {V : Vx} {y : MethodName} {ws ws' : List Cond} {rm : Room} {mc ms : Nat} {cc : ByteArray} {maxL : Nat} {ret : Option FieldType} {own : String} {as : List Value} {ω : RWd} {Qc : Array Value → State → Outcome → State → Prop}
    (hy : plainName y.cls = true) (hw : ws = Cond.code y cc maxL ret :: ws') (ho : y.cls = own) (hlen : (lg_sl as).length ≤ maxL)
    (h : ∀ M : Mx, mL M = l → mV M = V → mN M = maxL → Cx M cc ret own ws rm mc ms Qc → mNW M → (y.name = "<init>" → mI M) → PR M 0 (lv_args 0 as) [] ω (0, 0)) : KrN l V y ws rm mc ms as ω Qc := by
  refine Met.ofW (cc := cc) (maxL := maxL) (ret := ret) hy hw ?_
  intro p e s m args below meth c s1 B hml hv
  obtain ⟨rfl, ⟨hG, hK, hX, hC, hwf⟩, hNW⟩ := hv
  have hown : s.vm.findClass own = some m.cls := by rw [← ho]; exact findClass_of_methodNamed B.named
  have hl := lv_entry as (n := maxL) hlen
  rw [lg_entry_eq]
  exact h (p, l, e, rm, s, m, _, below, meth, c, V, maxL, _) rfl rfl rfl ⟨B.exec, B.bytes, hml, hown, atoms_spec (ws := ws) B.pre, B.returns, B.notSynchronized, hK, rfl, rfl, hwf, hX, hC⟩ hNW (fun hi => (name_of_methodNamed B.named B.method).1.trans hi) _ _ _ hl hG va_S.rf
/-- a private constructor is called -/
noncomputable def KIN (Ts : List Cond) (rm : Room) (y : MethodName) (ws : List Cond) (rc : Room) (n : Nat) : Prop :=
  ∃ (bytes : ByteArray) (maxL : Nat) (ws' : List Cond), GoodIn Ts ws ∧ ws = Cond.code y bytes maxL none :: ws' ∧ Cond.initialized y.cls ∈ Ts ∧ Cond.instanceMethod y ∈ Ts ∧ y.name = "<init>" ∧ (y.cls ≠ "java/lang/invoke/MethodHandle" ∧ y.cls ≠ "java/lang/invoke/VarHandle" ∧ (parseMethodDescriptor y.desc).map (fun d => d.parameters.length) = some n) ∧ (rc.frames + 1 ≤ rm.frames ∧ 8 + (maxL + 11) + rc.locals ≤ rm.locals)
theorem Z_ciN {M : Mx} {cc : ByteArray} {ret : Option FieldType} {own : String} {Ts : List Cond} {rm rc0 : Room} {mc ms : Nat} {Qc : Array Value → State → Outcome → State → Prop} {pc : Nat} {lv : List (Nat × Value)} {st : List Value} {ω : RWd} {kn : Nat × Nat} {Qk : RWd → Prop} {idx n b : Nat} {y : MethodName} {ws : List Cond} {As : List Value} (C : Cx M cc ret own Ts rm mc ms Qc) (k : KIN Ts rm y ws rc0 n) (hl9 : mNW M → match M with | (p, l, e, R, s, m, args, below, meth, c, V, nL, Q) => va_Nw (.methodLinkNest own idx y "NineMowers") s) (hNW : mNW M) (hn : As.length = n) (hst : (st.map fun v => v.category).sum ≤ 8) (hd : decode cc pc = .ok (.invokespecial idx, 3)) (hf : kn.1 + rc0.cells ≤ rm.cells ∧ kn.2 + rc0.slots ≤ rm.slots) (hM : Kr (mL M) (mV M) y ws rc0 rc0.cells rc0.slots (.ref b :: As) ω (QRV (mV M) Qk)) (h : ∀ ω', Qk ω' → PR M (pc + 3) lv st ω' (kn.1 + rc0.cells, kn.2 + rc0.slots)) : PR M pc lv (As.reverse ++ .ref b :: st) ω kn := by
  obtain ⟨p, l, e, R, s, m, args, below, meth, c, V, nL, Q⟩ := M
  intro ls H locs hl hG hS
  have hlk0 := hl9 hNW
  obtain ⟨hx, hb, hml, hown, hts, hr, hlk, hK, rfl, rfl, hw, hX⟩ := C
  obtain ⟨bytes, maxL, ws', k1, k2, k3, k5, k6, k7, k8⟩ := k
  have hst2 : 2 * (F0 m pc ls (As.reverse ++ .ref b :: st)).monitorRoom + (st.map fun v => v.category).sum ≤ 8 := by show 2 * 0 + _ ≤ 8; omega
  exact va_callv (va_runIN (As := As) (b := b) ⟨hx, hb, hml, hown, hts⟩ hM ⟨va_cnB n hts k1 k2 rfl rfl hlk0 (hts _ k3) k7 k8, k6, hts _ k5⟩ ⟨GRRblind, fun U hU hW => ⟨rfl, GRR_mk hU hG hK hw hX hS hW⟩⟩ rfl hn hl.1 rfl hst2 hd hf) hS (fun _ _ h => h) (fun _ h => h) (fun u t H1 locs1 ht hvm hq hB hz hk hS1 => by subst ht; exact h u hq ls _ locs1 hl hB.1 hS1)
theorem dfX0 : ∀ j, j < 3 → defaultValue (tyX0 j) = vp_V [.int 0, .int 0, .int 0] j := fun j hj => by
  match j, hj with
  | 0, _ => rfl
  | 1, _ => rfl
  | 2, _ => rfl
  | n + 3, h => exact absurd h (by omega)
theorem dfX1 : ∀ j, j < 17 → defaultValue (tyX1 j) = vp_V [.null, .int 0, .null, .int 0, .null, .null, .null, .null, .null, .int 0, .null, .int 0, .null, .null, .null, .null, .null] j := fun j hj => by
  match j, hj with
  | 0, _ => rfl
  | 1, _ => rfl
  | 2, _ => rfl
  | 3, _ => rfl
  | 4, _ => rfl
  | 5, _ => rfl
  | 6, _ => rfl
  | 7, _ => rfl
  | 8, _ => rfl
  | 9, _ => rfl
  | 10, _ => rfl
  | 11, _ => rfl
  | 12, _ => rfl
  | 13, _ => rfl
  | 14, _ => rfl
  | 15, _ => rfl
  | 16, _ => rfl
  | n + 17, h => exact absurd h (by omega)
theorem dfX2 : ∀ j, j < 12 → defaultValue (tyX2 j) = vp_V [.int 0, .int 0, .int 0, .null, .int 0, .null, .null, .null, .int 0, .null, .int 0, .int 0] j := fun j hj => by
  match j, hj with
  | 0, _ => rfl
  | 1, _ => rfl
  | 2, _ => rfl
  | 3, _ => rfl
  | 4, _ => rfl
  | 5, _ => rfl
  | 6, _ => rfl
  | 7, _ => rfl
  | 8, _ => rfl
  | 9, _ => rfl
  | 10, _ => rfl
  | 11, _ => rfl
  | n + 12, h => exact absurd h (by omega)
theorem dfX3 : ∀ j, j < 3 → defaultValue (tyX3 j) = vp_V [.int 0, .int 0, .int 0] j := fun j hj => by
  match j, hj with
  | 0, _ => rfl
  | 1, _ => rfl
  | 2, _ => rfl
  | n + 3, h => exact absurd h (by omega)
theorem dfX4 : ∀ j, j < 3 → defaultValue (tyX4 j) = vp_V [.int 0, .int 0, .int 0] j := fun j hj => by
  match j, hj with
  | 0, _ => rfl
  | 1, _ => rfl
  | 2, _ => rfl
  | n + 3, h => exact absurd h (by omega)
theorem dfX5 : ∀ j, j < 2 → defaultValue (tyX5 j) = vp_V [.null, .int 0] j := fun j hj => by
  match j, hj with
  | 0, _ => rfl
  | 1, _ => rfl
  | n + 2, h => exact absurd h (by omega)
theorem dfX6 : ∀ j, j < 3 → defaultValue (tyX6 j) = vp_V [.int 0, .int 0, .int 0] j := fun j hj => by
  match j, hj with
  | 0, _ => rfl
  | 1, _ => rfl
  | 2, _ => rfl
  | n + 3, h => exact absurd h (by omega)
theorem dfX7 : ∀ j, j < 3 → defaultValue (tyX7 j) = vp_V [.int 0, .int 0, .int 0] j := fun j hj => by
  match j, hj with
  | 0, _ => rfl
  | 1, _ => rfl
  | 2, _ => rfl
  | n + 3, h => exact absurd h (by omega)
theorem dfX8 : ∀ j, j < 3 → defaultValue (tyX8 j) = vp_V [.int 0, .int 0, .int 0] j := fun j hj => by
  match j, hj with
  | 0, _ => rfl
  | 1, _ => rfl
  | 2, _ => rfl
  | n + 3, h => exact absurd h (by omega)
theorem dfX9 : ∀ j, j < 3 → defaultValue (tyX9 j) = vp_V [.null, .int 0, .int 0] j := fun j hj => by
  match j, hj with
  | 0, _ => rfl
  | 1, _ => rfl
  | 2, _ => rfl
  | n + 3, h => exact absurd h (by omega)
theorem dfX10 : ∀ j, j < 3 → defaultValue (tyX10 j) = vp_V [.int 0, .int 0, .int 0] j := fun j hj => by
  match j, hj with
  | 0, _ => rfl
  | 1, _ => rfl
  | 2, _ => rfl
  | n + 3, h => exact absurd h (by omega)
theorem dfX11 : ∀ j, j < 13 → defaultValue (tyX11 j) = vp_V [.null, .null, .null, .int 0, .null, .int 0, .null, .int 0, .null, .null, .null, .null, .null] j := fun j hj => by
  match j, hj with
  | 0, _ => rfl
  | 1, _ => rfl
  | 2, _ => rfl
  | 3, _ => rfl
  | 4, _ => rfl
  | 5, _ => rfl
  | 6, _ => rfl
  | 7, _ => rfl
  | 8, _ => rfl
  | 9, _ => rfl
  | 10, _ => rfl
  | 11, _ => rfl
  | 12, _ => rfl
  | n + 13, h => exact absurd h (by omega)
theorem dfX12 : ∀ j, j < 75 → defaultValue (tyX12 j) = vp_V [.int 0, .int 0, .int 0, .null, .null, .null, .null, .null, .null, .null, .null, .int 0, .int 0, .int 0, .int 0, .int 0, .null, .null, .null, .null, .null, .null, .null, .null, .int 0, .int 0, .int 0, .null, .int 0, .null, .int 0, .null, .null, .int 0, .null, .null, .null, .null, .null, .null, .null, .int 0, .null, .null, .null, .int 0, .int 0, .null, .null, .int 0, .int 0, .int 0, .int 0, .int 0, .int 0, .int 0, .null, .null, .null, .null, .null, .null, .null, .null, .null, .null, .null, .null, .null, .int 0, .null, .null, .null, .null, .null] j := fun j hj => by
  match j, hj with
  | 0, _ => rfl
  | 1, _ => rfl
  | 2, _ => rfl
  | 3, _ => rfl
  | 4, _ => rfl
  | 5, _ => rfl
  | 6, _ => rfl
  | 7, _ => rfl
  | 8, _ => rfl
  | 9, _ => rfl
  | 10, _ => rfl
  | 11, _ => rfl
  | 12, _ => rfl
  | 13, _ => rfl
  | 14, _ => rfl
  | 15, _ => rfl
  | 16, _ => rfl
  | 17, _ => rfl
  | 18, _ => rfl
  | 19, _ => rfl
  | 20, _ => rfl
  | 21, _ => rfl
  | 22, _ => rfl
  | 23, _ => rfl
  | 24, _ => rfl
  | 25, _ => rfl
  | 26, _ => rfl
  | 27, _ => rfl
  | 28, _ => rfl
  | 29, _ => rfl
  | 30, _ => rfl
  | 31, _ => rfl
  | 32, _ => rfl
  | 33, _ => rfl
  | 34, _ => rfl
  | 35, _ => rfl
  | 36, _ => rfl
  | 37, _ => rfl
  | 38, _ => rfl
  | 39, _ => rfl
  | 40, _ => rfl
  | 41, _ => rfl
  | 42, _ => rfl
  | 43, _ => rfl
  | 44, _ => rfl
  | 45, _ => rfl
  | 46, _ => rfl
  | 47, _ => rfl
  | 48, _ => rfl
  | 49, _ => rfl
  | 50, _ => rfl
  | 51, _ => rfl
  | 52, _ => rfl
  | 53, _ => rfl
  | 54, _ => rfl
  | 55, _ => rfl
  | 56, _ => rfl
  | 57, _ => rfl
  | 58, _ => rfl
  | 59, _ => rfl
  | 60, _ => rfl
  | 61, _ => rfl
  | 62, _ => rfl
  | 63, _ => rfl
  | 64, _ => rfl
  | 65, _ => rfl
  | 66, _ => rfl
  | 67, _ => rfl
  | 68, _ => rfl
  | 69, _ => rfl
  | 70, _ => rfl
  | 71, _ => rfl
  | 72, _ => rfl
  | 73, _ => rfl
  | 74, _ => rfl
  | n + 75, h => exact absurd h (by omega)
theorem pf_X4_init_7_0 : PF RX4 wsX4_init 7 0 0 "NineMowers$Mower" .int := by
  show _ ∧ _ ∧ _ ∧ _ ∧ _ ∧ _ ∧ _ ∧ _ ∧ _
  exact ⟨by decide +kernel, fun _ h => List.mem_cons_of_mem _ (List.mem_append_left _ (List.mem_append_left _ (List.mem_append_left _ (List.mem_append_left _ (List.mem_append_left _ (List.mem_append_left _ (List.mem_append_right _ h))))))), List.mem_of_getElem? (i := 4) rfl, rfl, rfl, rfl, by decide +kernel, ⟨tyX0, tyX0_ok⟩, nmX0⟩
theorem pf_X4_init_13_0 : PF RX4 wsX4_init 13 0 1 "NineMowers$Mower" .int := by
  show _ ∧ _ ∧ _ ∧ _ ∧ _ ∧ _ ∧ _ ∧ _ ∧ _
  exact ⟨by decide +kernel, fun _ h => List.mem_cons_of_mem _ (List.mem_append_left _ (List.mem_append_left _ (List.mem_append_left _ (List.mem_append_left _ (List.mem_append_left _ (List.mem_append_left _ (List.mem_append_right _ h))))))), List.mem_of_getElem? (i := 5) rfl, rfl, rfl, rfl, by decide +kernel, ⟨tyX0, tyX0_ok⟩, nmX0⟩
theorem pf_X4_init_16_0 : PF RX4 wsX4_init 16 0 2 "NineMowers$Mower" .int := by
  show _ ∧ _ ∧ _ ∧ _ ∧ _ ∧ _ ∧ _ ∧ _ ∧ _
  exact ⟨by decide +kernel, fun _ h => List.mem_cons_of_mem _ (List.mem_append_left _ (List.mem_append_left _ (List.mem_append_left _ (List.mem_append_left _ (List.mem_append_left _ (List.mem_append_left _ (List.mem_append_right _ h))))))), List.mem_of_getElem? (i := 6) rfl, rfl, rfl, rfl, by decide +kernel, ⟨tyX0, tyX0_ok⟩, nmX0⟩
theorem pf_X4_init_7_3 : PF RX4 wsX4_init 7 3 0 "NineMowers$Mower" .int := by
  show _ ∧ _ ∧ _ ∧ _ ∧ _ ∧ _ ∧ _ ∧ _ ∧ _
  exact ⟨by decide +kernel, fun _ h => List.mem_cons_of_mem _ (List.mem_append_left _ (List.mem_append_left _ (List.mem_append_left _ (List.mem_append_left _ (List.mem_append_left _ (List.mem_append_right _ h)))))), List.mem_of_getElem? (i := 4) rfl, rfl, rfl, rfl, by decide +kernel, ⟨tyX3, tyX3_ok⟩, nmX3⟩
theorem pf_X4_init_13_3 : PF RX4 wsX4_init 13 3 1 "NineMowers$Mower" .int := by
  show _ ∧ _ ∧ _ ∧ _ ∧ _ ∧ _ ∧ _ ∧ _ ∧ _
  exact ⟨by decide +kernel, fun _ h => List.mem_cons_of_mem _ (List.mem_append_left _ (List.mem_append_left _ (List.mem_append_left _ (List.mem_append_left _ (List.mem_append_left _ (List.mem_append_right _ h)))))), List.mem_of_getElem? (i := 5) rfl, rfl, rfl, rfl, by decide +kernel, ⟨tyX3, tyX3_ok⟩, nmX3⟩
theorem pf_X4_init_16_3 : PF RX4 wsX4_init 16 3 2 "NineMowers$Mower" .int := by
  show _ ∧ _ ∧ _ ∧ _ ∧ _ ∧ _ ∧ _ ∧ _ ∧ _
  exact ⟨by decide +kernel, fun _ h => List.mem_cons_of_mem _ (List.mem_append_left _ (List.mem_append_left _ (List.mem_append_left _ (List.mem_append_left _ (List.mem_append_left _ (List.mem_append_right _ h)))))), List.mem_of_getElem? (i := 6) rfl, rfl, rfl, rfl, by decide +kernel, ⟨tyX3, tyX3_ok⟩, nmX3⟩
theorem pf_X4_init_7_4 : PF RX4 wsX4_init 7 4 0 "NineMowers$Mower" .int := by
  show _ ∧ _ ∧ _ ∧ _ ∧ _ ∧ _ ∧ _ ∧ _ ∧ _
  exact ⟨by decide +kernel, fun _ h => List.mem_cons_of_mem _ (List.mem_append_left _ (List.mem_append_left _ (List.mem_append_left _ (List.mem_append_left _ (List.mem_append_right _ h))))), List.mem_of_getElem? (i := 4) rfl, rfl, rfl, rfl, by decide +kernel, ⟨tyX4, tyX4_ok⟩, nmX4⟩
theorem pf_X4_init_13_4 : PF RX4 wsX4_init 13 4 1 "NineMowers$Mower" .int := by
  show _ ∧ _ ∧ _ ∧ _ ∧ _ ∧ _ ∧ _ ∧ _ ∧ _
  exact ⟨by decide +kernel, fun _ h => List.mem_cons_of_mem _ (List.mem_append_left _ (List.mem_append_left _ (List.mem_append_left _ (List.mem_append_left _ (List.mem_append_right _ h))))), List.mem_of_getElem? (i := 5) rfl, rfl, rfl, rfl, by decide +kernel, ⟨tyX4, tyX4_ok⟩, nmX4⟩
theorem pf_X4_init_16_4 : PF RX4 wsX4_init 16 4 2 "NineMowers$Mower" .int := by
  show _ ∧ _ ∧ _ ∧ _ ∧ _ ∧ _ ∧ _ ∧ _ ∧ _
  exact ⟨by decide +kernel, fun _ h => List.mem_cons_of_mem _ (List.mem_append_left _ (List.mem_append_left _ (List.mem_append_left _ (List.mem_append_left _ (List.mem_append_right _ h))))), List.mem_of_getElem? (i := 6) rfl, rfl, rfl, rfl, by decide +kernel, ⟨tyX4, tyX4_ok⟩, nmX4⟩
theorem pf_X4_init_7_6 : PF RX4 wsX4_init 7 6 0 "NineMowers$Mower" .int := by
  show _ ∧ _ ∧ _ ∧ _ ∧ _ ∧ _ ∧ _ ∧ _ ∧ _
  exact ⟨by decide +kernel, fun _ h => List.mem_cons_of_mem _ (List.mem_append_left _ (List.mem_append_left _ (List.mem_append_left _ (List.mem_append_right _ h)))), List.mem_of_getElem? (i := 4) rfl, rfl, rfl, rfl, by decide +kernel, ⟨tyX6, tyX6_ok⟩, nmX6⟩
theorem pf_X4_init_13_6 : PF RX4 wsX4_init 13 6 1 "NineMowers$Mower" .int := by
  show _ ∧ _ ∧ _ ∧ _ ∧ _ ∧ _ ∧ _ ∧ _ ∧ _
  exact ⟨by decide +kernel, fun _ h => List.mem_cons_of_mem _ (List.mem_append_left _ (List.mem_append_left _ (List.mem_append_left _ (List.mem_append_right _ h)))), List.mem_of_getElem? (i := 5) rfl, rfl, rfl, rfl, by decide +kernel, ⟨tyX6, tyX6_ok⟩, nmX6⟩
theorem pf_X4_init_16_6 : PF RX4 wsX4_init 16 6 2 "NineMowers$Mower" .int := by
  show _ ∧ _ ∧ _ ∧ _ ∧ _ ∧ _ ∧ _ ∧ _ ∧ _
  exact ⟨by decide +kernel, fun _ h => List.mem_cons_of_mem _ (List.mem_append_left _ (List.mem_append_left _ (List.mem_append_left _ (List.mem_append_right _ h)))), List.mem_of_getElem? (i := 6) rfl, rfl, rfl, rfl, by decide +kernel, ⟨tyX6, tyX6_ok⟩, nmX6⟩
theorem pf_X4_init_7_7 : PF RX4 wsX4_init 7 7 0 "NineMowers$Mower" .int := by
  show _ ∧ _ ∧ _ ∧ _ ∧ _ ∧ _ ∧ _ ∧ _ ∧ _
  exact ⟨by decide +kernel, fun _ h => List.mem_cons_of_mem _ (List.mem_append_left _ (List.mem_append_left _ (List.mem_append_right _ h))), List.mem_of_getElem? (i := 4) rfl, rfl, rfl, rfl, by decide +kernel, ⟨tyX7, tyX7_ok⟩, nmX7⟩
theorem pf_X4_init_13_7 : PF RX4 wsX4_init 13 7 1 "NineMowers$Mower" .int := by
  show _ ∧ _ ∧ _ ∧ _ ∧ _ ∧ _ ∧ _ ∧ _ ∧ _
  exact ⟨by decide +kernel, fun _ h => List.mem_cons_of_mem _ (List.mem_append_left _ (List.mem_append_left _ (List.mem_append_right _ h))), List.mem_of_getElem? (i := 5) rfl, rfl, rfl, rfl, by decide +kernel, ⟨tyX7, tyX7_ok⟩, nmX7⟩
theorem pf_X4_init_16_7 : PF RX4 wsX4_init 16 7 2 "NineMowers$Mower" .int := by
  show _ ∧ _ ∧ _ ∧ _ ∧ _ ∧ _ ∧ _ ∧ _ ∧ _
  exact ⟨by decide +kernel, fun _ h => List.mem_cons_of_mem _ (List.mem_append_left _ (List.mem_append_left _ (List.mem_append_right _ h))), List.mem_of_getElem? (i := 6) rfl, rfl, rfl, rfl, by decide +kernel, ⟨tyX7, tyX7_ok⟩, nmX7⟩
theorem pf_X4_init_7_8 : PF RX4 wsX4_init 7 8 0 "NineMowers$Mower" .int := by
  show _ ∧ _ ∧ _ ∧ _ ∧ _ ∧ _ ∧ _ ∧ _ ∧ _
  exact ⟨by decide +kernel, fun _ h => List.mem_cons_of_mem _ (List.mem_append_left _ (List.mem_append_right _ h)), List.mem_of_getElem? (i := 4) rfl, rfl, rfl, rfl, by decide +kernel, ⟨tyX8, tyX8_ok⟩, nmX8⟩
theorem pf_X4_init_13_8 : PF RX4 wsX4_init 13 8 1 "NineMowers$Mower" .int := by
  show _ ∧ _ ∧ _ ∧ _ ∧ _ ∧ _ ∧ _ ∧ _ ∧ _
  exact ⟨by decide +kernel, fun _ h => List.mem_cons_of_mem _ (List.mem_append_left _ (List.mem_append_right _ h)), List.mem_of_getElem? (i := 5) rfl, rfl, rfl, rfl, by decide +kernel, ⟨tyX8, tyX8_ok⟩, nmX8⟩
theorem pf_X4_init_16_8 : PF RX4 wsX4_init 16 8 2 "NineMowers$Mower" .int := by
  show _ ∧ _ ∧ _ ∧ _ ∧ _ ∧ _ ∧ _ ∧ _ ∧ _
  exact ⟨by decide +kernel, fun _ h => List.mem_cons_of_mem _ (List.mem_append_left _ (List.mem_append_right _ h)), List.mem_of_getElem? (i := 6) rfl, rfl, rfl, rfl, by decide +kernel, ⟨tyX8, tyX8_ok⟩, nmX8⟩
theorem pf_X4_init_7_10 : PF RX4 wsX4_init 7 10 0 "NineMowers$Mower" .int := by
  show _ ∧ _ ∧ _ ∧ _ ∧ _ ∧ _ ∧ _ ∧ _ ∧ _
  exact ⟨by decide +kernel, fun _ h => List.mem_cons_of_mem _ (List.mem_append_right _ h), List.mem_of_getElem? (i := 4) rfl, rfl, rfl, rfl, by decide +kernel, ⟨tyX10, tyX10_ok⟩, nmX10⟩
theorem pf_X4_init_13_10 : PF RX4 wsX4_init 13 10 1 "NineMowers$Mower" .int := by
  show _ ∧ _ ∧ _ ∧ _ ∧ _ ∧ _ ∧ _ ∧ _ ∧ _
  exact ⟨by decide +kernel, fun _ h => List.mem_cons_of_mem _ (List.mem_append_right _ h), List.mem_of_getElem? (i := 5) rfl, rfl, rfl, rfl, by decide +kernel, ⟨tyX10, tyX10_ok⟩, nmX10⟩
theorem pf_X4_init_16_10 : PF RX4 wsX4_init 16 10 2 "NineMowers$Mower" .int := by
  show _ ∧ _ ∧ _ ∧ _ ∧ _ ∧ _ ∧ _ ∧ _ ∧ _
  exact ⟨by decide +kernel, fun _ h => List.mem_cons_of_mem _ (List.mem_append_right _ h), List.mem_of_getElem? (i := 6) rfl, rfl, rfl, rfl, by decide +kernel, ⟨tyX10, tyX10_ok⟩, nmX10⟩
theorem pf_X4_init_7 {ci : Nat} (h : isMc ci) : PF RX4 wsX4_init 7 ci 0 "NineMowers$Mower" .int := by
  rcases h with rfl | rfl | rfl | rfl | rfl | rfl | rfl
  · exact pf_X4_init_7_0
  · exact pf_X4_init_7_3
  · exact pf_X4_init_7_4
  · exact pf_X4_init_7_6
  · exact pf_X4_init_7_7
  · exact pf_X4_init_7_8
  · exact pf_X4_init_7_10
theorem pf_X4_init_13 {ci : Nat} (h : isMc ci) : PF RX4 wsX4_init 13 ci 1 "NineMowers$Mower" .int := by
  rcases h with rfl | rfl | rfl | rfl | rfl | rfl | rfl
  · exact pf_X4_init_13_0
  · exact pf_X4_init_13_3
  · exact pf_X4_init_13_4
  · exact pf_X4_init_13_6
  · exact pf_X4_init_13_7
  · exact pf_X4_init_13_8
  · exact pf_X4_init_13_10
theorem pf_X4_init_16 {ci : Nat} (h : isMc ci) : PF RX4 wsX4_init 16 ci 2 "NineMowers$Mower" .int := by
  rcases h with rfl | rfl | rfl | rfl | rfl | rfl | rfl
  · exact pf_X4_init_16_0
  · exact pf_X4_init_16_3
  · exact pf_X4_init_16_4
  · exact pf_X4_init_16_6
  · exact pf_X4_init_16_7
  · exact pf_X4_init_16_8
  · exact pf_X4_init_16_10
/-- a mower is set up -/
noncomputable def KB (ci : Nat) (k n v : Int32) (ω0 : RWd) (h : Nat) (ω : RWd) : Prop := BT ω0 ω h [] ∧ ω.2 h = .inr (ci, [.int k, .int n, .int v])
set_option maxRecDepth 100000 in
set_option maxHeartbeats 8000000 in
theorem k_X4_init {l : Launch} {V : Vx} {h ci : Nat} {ω0 : RWd} {k n v : Int32} (hm : h ∈ ω0.1) (hci : isMc ci) (c0 : ω0.2 h = .inr (ci, [.int 0, .int 0, .int 0])) : Kr l V yX4_init wsX4_init (rmr 1 0 0) 0 0 [.ref h, .int k, .int n, .int v] ω0 (QRV V (KB ci k n v ω0 h)) := by
  refine Kr_of (by decide +kernel) rfl rfl (Nat.le_of_ble_eq_true rfl) (fun M hl hV hN C hI => ?_)
  subst hl
  subst hV
  replace hI := hI rfl
  have b0 := BT_0 hm
  show PR M 0 [(0, .ref h), (1, .int k), (2, .int n), (3, .int v)] [] ω0 (0, 0)
  refine Z_aload_n C dX4_init_0 0 rfl ?_
  refine Z_objInit C (List.mem_of_getElem? (i := 1) rfl) (List.mem_of_getElem? (i := 2) rfl) (List.mem_of_getElem? (i := 3) rfl) (Nat.le_of_ble_eq_true rfl) (Nat.le_of_ble_eq_true rfl) dX4_init_1 ?_
  refine Z_aload_n C dX4_init_4 0 rfl ?_
  refine Z_iload_n C dX4_init_5 1 rfl ?_
  refine Y_putF C hI (pf_X4_init_7 hci) b0 c0 rfl rfl (Nat.le_of_ble_eq_true rfl) dX4_init_6 (fun ω1 b1 c1 => ?_)
  have c1 : ω1.2 h = .inr (ci, [.int k, .int 0, .int 0]) := c1
  refine Z_aload_n C dX4_init_9 0 rfl ?_
  refine Z_iload_n C dX4_init_10 2 rfl ?_
  refine Y_putF C hI (pf_X4_init_13 hci) b1 c1 rfl rfl (Nat.le_of_ble_eq_true rfl) dX4_init_11 (fun ω2 b2 c2 => ?_)
  have c2 : ω2.2 h = .inr (ci, [.int k, .int n, .int 0]) := c2
  refine Z_aload_n C dX4_init_14 0 rfl ?_
  refine Z_iload_n C dX4_init_15 3 rfl ?_
  refine Y_putF C hI (pf_X4_init_16 hci) b2 c2 rfl rfl (Nat.le_of_ble_eq_true rfl) dX4_init_16 (fun ω3 b3 c3 => ?_)
  have c3 : ω3.2 h = .inr (ci, [.int k, .int n, .int v]) := c3
  exact Z_vret C dX4_init_19 ⟨b3, c3⟩
theorem ki_X8_init_X4_init_1 {c s c2 s2 : Nat} : KI RX8 wsX8_init (rmr 2 c s) 1 yX4_init wsX4_init (rmr 1 c2 s2) 3 := ⟨_, _, _, gX8_init_X4_init, rfl, (List.mem_of_getElem? (i := 3) rfl), (List.mem_of_getElem? (i := 1) rfl), (List.mem_of_getElem? (i := 2) rfl), rfl, by decide +kernel, Nat.le_of_ble_eq_true rfl, Nat.le_of_ble_eq_true rfl⟩
set_option maxRecDepth 100000 in
set_option maxHeartbeats 8000000 in
theorem k_X8_init {l : Launch} {V : Vx} {h ci : Nat} {ω0 : RWd} {k n v : Int32} (hm : h ∈ ω0.1) (hci : isMc ci) (c0 : ω0.2 h = .inr (ci, [.int 0, .int 0, .int 0])) : Kr l V yX8_init wsX8_init (rmr 2 0 0) 0 0 [.ref h, .int k, .int n, .int v] ω0 (QRV V (KB ci k n v ω0 h)) := by
  refine Kr_of (by decide +kernel) rfl rfl (Nat.le_of_ble_eq_true rfl) (fun M hl hV hN C hI => ?_)
  subst hl
  subst hV
  replace hI := hI rfl
  have b0 := BT_0 hm
  show PR M 0 [(0, .ref h), (1, .int k), (2, .int n), (3, .int v)] [] ω0 (0, 0)
  refine Z_aload_n C dX8_init_0 0 rfl ?_
  refine Z_iload_n C dX8_init_1 1 rfl ?_
  refine Z_iload_n C dX8_init_2 2 rfl ?_
  refine Z_iload_n C dX8_init_3 3 rfl ?_
  refine Z_ci (rc0 := rmr 1 0 0) (Qk := KB ci k n v ω0 h) (b := h) (As := [.int k, .int n, .int v]) C ki_X8_init_X4_init_1 rfl (Nat.le_of_ble_eq_true rfl) dX8_init_4 ⟨Nat.le_refl _, Nat.le_refl _⟩ (k_X4_init hm hci c0) (fun ω1 h1 => ?_)
  exact Z_vret C dX8_init_7 h1
theorem ki_X3_init_X4_init_1 {c s c2 s2 : Nat} : KI RX3 wsX3_init (rmr 2 c s) 1 yX4_init wsX4_init (rmr 1 c2 s2) 3 := ⟨_, _, _, gX3_init_X4_init, rfl, (List.mem_of_getElem? (i := 3) rfl), (List.mem_of_getElem? (i := 1) rfl), (List.mem_of_getElem? (i := 2) rfl), rfl, by decide +kernel, Nat.le_of_ble_eq_true rfl, Nat.le_of_ble_eq_true rfl⟩
set_option maxRecDepth 100000 in
set_option maxHeartbeats 8000000 in
theorem k_X3_init {l : Launch} {V : Vx} {h ci : Nat} {ω0 : RWd} {k n v : Int32} (hm : h ∈ ω0.1) (hci : isMc ci) (c0 : ω0.2 h = .inr (ci, [.int 0, .int 0, .int 0])) : Kr l V yX3_init wsX3_init (rmr 2 0 0) 0 0 [.ref h, .int k, .int n, .int v] ω0 (QRV V (KB ci k n v ω0 h)) := by
  refine Kr_of (by decide +kernel) rfl rfl (Nat.le_of_ble_eq_true rfl) (fun M hl hV hN C hI => ?_)
  subst hl
  subst hV
  replace hI := hI rfl
  have b0 := BT_0 hm
  show PR M 0 [(0, .ref h), (1, .int k), (2, .int n), (3, .int v)] [] ω0 (0, 0)
  refine Z_aload_n C dX3_init_0 0 rfl ?_
  refine Z_iload_n C dX3_init_1 1 rfl ?_
  refine Z_iload_n C dX3_init_2 2 rfl ?_
  refine Z_iload_n C dX3_init_3 3 rfl ?_
  refine Z_ci (rc0 := rmr 1 0 0) (Qk := KB ci k n v ω0 h) (b := h) (As := [.int k, .int n, .int v]) C ki_X3_init_X4_init_1 rfl (Nat.le_of_ble_eq_true rfl) dX3_init_4 ⟨Nat.le_refl _, Nat.le_refl _⟩ (k_X4_init hm hci c0) (fun ω1 h1 => ?_)
  exact Z_vret C dX3_init_7 h1
theorem ki_X0_init_X4_init_1 {c s c2 s2 : Nat} : KI RX0 wsX0_init (rmr 2 c s) 1 yX4_init wsX4_init (rmr 1 c2 s2) 3 := ⟨_, _, _, gX0_init_X4_init, rfl, (List.mem_of_getElem? (i := 3) rfl), (List.mem_of_getElem? (i := 1) rfl), (List.mem_of_getElem? (i := 2) rfl), rfl, by decide +kernel, Nat.le_of_ble_eq_true rfl, Nat.le_of_ble_eq_true rfl⟩
set_option maxRecDepth 100000 in
set_option maxHeartbeats 8000000 in
theorem k_X0_init {l : Launch} {V : Vx} {h ci : Nat} {ω0 : RWd} {k n v : Int32} (hm : h ∈ ω0.1) (hci : isMc ci) (c0 : ω0.2 h = .inr (ci, [.int 0, .int 0, .int 0])) : Kr l V yX0_init wsX0_init (rmr 2 0 0) 0 0 [.ref h, .int k, .int n, .int v] ω0 (QRV V (KB ci k n v ω0 h)) := by
  refine Kr_of (by decide +kernel) rfl rfl (Nat.le_of_ble_eq_true rfl) (fun M hl hV hN C hI => ?_)
  subst hl
  subst hV
  replace hI := hI rfl
  have b0 := BT_0 hm
  show PR M 0 [(0, .ref h), (1, .int k), (2, .int n), (3, .int v)] [] ω0 (0, 0)
  refine Z_aload_n C dX0_init_0 0 rfl ?_
  refine Z_iload_n C dX0_init_1 1 rfl ?_
  refine Z_iload_n C dX0_init_2 2 rfl ?_
  refine Z_iload_n C dX0_init_3 3 rfl ?_
  refine Z_ci (rc0 := rmr 1 0 0) (Qk := KB ci k n v ω0 h) (b := h) (As := [.int k, .int n, .int v]) C ki_X0_init_X4_init_1 rfl (Nat.le_of_ble_eq_true rfl) dX0_init_4 ⟨Nat.le_refl _, Nat.le_refl _⟩ (k_X4_init hm hci c0) (fun ω1 h1 => ?_)
  exact Z_vret C dX0_init_7 h1
theorem ki_X6_init_X8_init_1 {c s c2 s2 : Nat} : KI RX6 wsX6_init (rmr 3 c s) 1 yX8_init wsX8_init (rmr 2 c2 s2) 3 := ⟨_, _, _, gX6_init_X8_init, rfl, (List.mem_of_getElem? (i := 3) rfl), (List.mem_of_getElem? (i := 1) rfl), (List.mem_of_getElem? (i := 2) rfl), rfl, by decide +kernel, Nat.le_of_ble_eq_true rfl, Nat.le_of_ble_eq_true rfl⟩
set_option maxRecDepth 100000 in
set_option maxHeartbeats 8000000 in
theorem k_X6_init {l : Launch} {V : Vx} {h ci : Nat} {ω0 : RWd} {k n v : Int32} (hm : h ∈ ω0.1) (hci : isMc ci) (c0 : ω0.2 h = .inr (ci, [.int 0, .int 0, .int 0])) : Kr l V yX6_init wsX6_init (rmr 3 0 0) 0 0 [.ref h, .int k, .int n, .int v] ω0 (QRV V (KB ci k n v ω0 h)) := by
  refine Kr_of (by decide +kernel) rfl rfl (Nat.le_of_ble_eq_true rfl) (fun M hl hV hN C hI => ?_)
  subst hl
  subst hV
  replace hI := hI rfl
  have b0 := BT_0 hm
  show PR M 0 [(0, .ref h), (1, .int k), (2, .int n), (3, .int v)] [] ω0 (0, 0)
  refine Z_aload_n C dX6_init_0 0 rfl ?_
  refine Z_iload_n C dX6_init_1 1 rfl ?_
  refine Z_iload_n C dX6_init_2 2 rfl ?_
  refine Z_iload_n C dX6_init_3 3 rfl ?_
  refine Z_ci (rc0 := rmr 2 0 0) (Qk := KB ci k n v ω0 h) (b := h) (As := [.int k, .int n, .int v]) C ki_X6_init_X8_init_1 rfl (Nat.le_of_ble_eq_true rfl) dX6_init_4 ⟨Nat.le_refl _, Nat.le_refl _⟩ (k_X8_init hm hci c0) (fun ω1 h1 => ?_)
  exact Z_vret C dX6_init_7 h1
theorem ki_X7_init_X3_init_1 {c s c2 s2 : Nat} : KI RX7 wsX7_init (rmr 3 c s) 1 yX3_init wsX3_init (rmr 2 c2 s2) 3 := ⟨_, _, _, gX7_init_X3_init, rfl, (List.mem_of_getElem? (i := 3) rfl), (List.mem_of_getElem? (i := 1) rfl), (List.mem_of_getElem? (i := 2) rfl), rfl, by decide +kernel, Nat.le_of_ble_eq_true rfl, Nat.le_of_ble_eq_true rfl⟩
set_option maxRecDepth 100000 in
set_option maxHeartbeats 8000000 in
theorem k_X7_init {l : Launch} {V : Vx} {h ci : Nat} {ω0 : RWd} {k n v : Int32} (hm : h ∈ ω0.1) (hci : isMc ci) (c0 : ω0.2 h = .inr (ci, [.int 0, .int 0, .int 0])) : Kr l V yX7_init wsX7_init (rmr 3 0 0) 0 0 [.ref h, .int k, .int n, .int v] ω0 (QRV V (KB ci k n v ω0 h)) := by
  refine Kr_of (by decide +kernel) rfl rfl (Nat.le_of_ble_eq_true rfl) (fun M hl hV hN C hI => ?_)
  subst hl
  subst hV
  replace hI := hI rfl
  have b0 := BT_0 hm
  show PR M 0 [(0, .ref h), (1, .int k), (2, .int n), (3, .int v)] [] ω0 (0, 0)
  refine Z_aload_n C dX7_init_0 0 rfl ?_
  refine Z_iload_n C dX7_init_1 1 rfl ?_
  refine Z_iload_n C dX7_init_2 2 rfl ?_
  refine Z_iload_n C dX7_init_3 3 rfl ?_
  refine Z_ci (rc0 := rmr 2 0 0) (Qk := KB ci k n v ω0 h) (b := h) (As := [.int k, .int n, .int v]) C ki_X7_init_X3_init_1 rfl (Nat.le_of_ble_eq_true rfl) dX7_init_4 ⟨Nat.le_refl _, Nat.le_refl _⟩ (k_X3_init hm hci c0) (fun ω1 h1 => ?_)
  exact Z_vret C dX7_init_7 h1
theorem ki_X10_init_X0_init_1 {c s c2 s2 : Nat} : KI RX10 wsX10_init (rmr 3 c s) 1 yX0_init wsX0_init (rmr 2 c2 s2) 3 := ⟨_, _, _, gX10_init_X0_init, rfl, (List.mem_of_getElem? (i := 3) rfl), (List.mem_of_getElem? (i := 1) rfl), (List.mem_of_getElem? (i := 2) rfl), rfl, by decide +kernel, Nat.le_of_ble_eq_true rfl, Nat.le_of_ble_eq_true rfl⟩
set_option maxRecDepth 100000 in
set_option maxHeartbeats 8000000 in
theorem k_X10_init {l : Launch} {V : Vx} {h ci : Nat} {ω0 : RWd} {k n v : Int32} (hm : h ∈ ω0.1) (hci : isMc ci) (c0 : ω0.2 h = .inr (ci, [.int 0, .int 0, .int 0])) : Kr l V yX10_init wsX10_init (rmr 3 0 0) 0 0 [.ref h, .int k, .int n, .int v] ω0 (QRV V (KB ci k n v ω0 h)) := by
  refine Kr_of (by decide +kernel) rfl rfl (Nat.le_of_ble_eq_true rfl) (fun M hl hV hN C hI => ?_)
  subst hl
  subst hV
  replace hI := hI rfl
  have b0 := BT_0 hm
  show PR M 0 [(0, .ref h), (1, .int k), (2, .int n), (3, .int v)] [] ω0 (0, 0)
  refine Z_aload_n C dX10_init_0 0 rfl ?_
  refine Z_iload_n C dX10_init_1 1 rfl ?_
  refine Z_iload_n C dX10_init_2 2 rfl ?_
  refine Z_iload_n C dX10_init_3 3 rfl ?_
  refine Z_ci (rc0 := rmr 2 0 0) (Qk := KB ci k n v ω0 h) (b := h) (As := [.int k, .int n, .int v]) C ki_X10_init_X0_init_1 rfl (Nat.le_of_ble_eq_true rfl) dX10_init_4 ⟨Nat.le_refl _, Nat.le_refl _⟩ (k_X0_init hm hci c0) (fun ω1 h1 => ?_)
  exact Z_vret C dX10_init_7 h1
/-- a number's kind among the kinds of objects -/
noncomputable def kci (k : Int32) : Nat := if k.toInt = 1 then 8 else if k.toInt = 2 then 3 else if k.toInt = 3 then 0 else if k.toInt = 4 then 6 else if k.toInt = 5 then 7 else if k.toInt = 6 then 10 else 4
theorem kci_mc (k : Int32) : isMc (kci k) := by
  unfold kci
  repeat' split
  all_goals decide
theorem kci_0 {k : Int32} (h : k.toInt < 1 ∨ 6 < k.toInt) : kci k = 4 := by
  unfold kci
  rw [if_neg (by omega), if_neg (by omega), if_neg (by omega), if_neg (by omega), if_neg (by omega), if_neg (by omega)]
theorem kci_1 {k : Int32} (h : k.toInt = 1) : kci k = 8 := by
  unfold kci
  rw [if_pos h]
theorem kci_2 {k : Int32} (h : k.toInt = 2) : kci k = 3 := by
  unfold kci
  rw [if_neg (by omega), if_pos h]
theorem kci_3 {k : Int32} (h : k.toInt = 3) : kci k = 0 := by
  unfold kci
  rw [if_neg (by omega), if_neg (by omega), if_pos h]
theorem kci_4 {k : Int32} (h : k.toInt = 4) : kci k = 6 := by
  unfold kci
  rw [if_neg (by omega), if_neg (by omega), if_neg (by omega), if_pos h]
theorem kci_5 {k : Int32} (h : k.toInt = 5) : kci k = 7 := by
  unfold kci
  rw [if_neg (by omega), if_neg (by omega), if_neg (by omega), if_neg (by omega), if_pos h]
theorem kci_6 {k : Int32} (h : k.toInt = 6) : kci k = 10 := by
  unfold kci
  rw [if_neg (by omega), if_neg (by omega), if_neg (by omega), if_neg (by omega), if_neg (by omega), if_pos h]
/-- a mower is made: it is there, apart from all that was, which stays -/
noncomputable def GB (k n v : Int32) (ω0 : RWd) (q : Nat) (ω : RWd) : Prop := q ∉ ω0.1 ∧ q ∈ ω.1 ∧ (∀ a ∈ ω0.1, a ∈ ω.1 ∧ ω.2 a = ω0.2 a) ∧ ω.2 q = .inr (kci k, [.int k, .int n, .int v])
theorem GB_mk {ω0 ω : RWd} {q ci : Nat} {k n v : Int32} (hq : q ∉ ω0.1) (h : KB ci k n v (rnew ω0 q (.inr (ci, [.int 0, .int 0, .int 0]))) q ω) (hk : kci k = ci) : GB k n v ω0 q ω := by
  obtain ⟨⟨b1, b2, b3, b4⟩, c⟩ := h
  refine ⟨hq, (b2 q b1).1, fun a ha => ?_, by rw [hk]; exact c⟩
  have hne : a ≠ q := fun z => hq (z ▸ ha)
  have h2 := b2 a (List.mem_append_left _ ha)
  refine ⟨h2.1, (h2.2 hne).trans ?_⟩
  show va_up ω0.2 q _ a = _
  rw [va_up_ne _ _ hne]
theorem ki_X11_made_X4_init_109 {c s c2 s2 : Nat} : KI RX11 wsX11_made (rmr 4 c s) 109 yX4_init wsX4_init (rmr 1 c2 s2) 3 := ⟨_, _, _, gX11_made_X4_init, rfl, (List.mem_of_getElem? (i := 21) rfl), (List.mem_of_getElem? (i := 54) rfl), (List.mem_of_getElem? (i := 26) rfl), rfl, by decide +kernel, Nat.le_of_ble_eq_true rfl, Nat.le_of_ble_eq_true rfl⟩
theorem ki_X11_made_X8_init_89 {c s c2 s2 : Nat} : KI RX11 wsX11_made (rmr 4 c s) 89 yX8_init wsX8_init (rmr 2 c2 s2) 3 := ⟨_, _, _, gX11_made_X8_init, rfl, (List.mem_of_getElem? (i := 3) rfl), (List.mem_of_getElem? (i := 22) rfl), (List.mem_of_getElem? (i := 23) rfl), rfl, by decide +kernel, Nat.le_of_ble_eq_true rfl, Nat.le_of_ble_eq_true rfl⟩
theorem ki_X11_made_X3_init_94 {c s c2 s2 : Nat} : KI RX11 wsX11_made (rmr 4 c s) 94 yX3_init wsX3_init (rmr 2 c2 s2) 3 := ⟨_, _, _, gX11_made_X3_init, rfl, (List.mem_of_getElem? (i := 6) rfl), (List.mem_of_getElem? (i := 34) rfl), (List.mem_of_getElem? (i := 35) rfl), rfl, by decide +kernel, Nat.le_of_ble_eq_true rfl, Nat.le_of_ble_eq_true rfl⟩
theorem ki_X11_made_X0_init_97 {c s c2 s2 : Nat} : KI RX11 wsX11_made (rmr 4 c s) 97 yX0_init wsX0_init (rmr 2 c2 s2) 3 := ⟨_, _, _, gX11_made_X0_init, rfl, (List.mem_of_getElem? (i := 9) rfl), (List.mem_of_getElem? (i := 38) rfl), (List.mem_of_getElem? (i := 39) rfl), rfl, by decide +kernel, Nat.le_of_ble_eq_true rfl, Nat.le_of_ble_eq_true rfl⟩
theorem ki_X11_made_X6_init_100 {c s c2 s2 : Nat} : KI RX11 wsX11_made (rmr 4 c s) 100 yX6_init wsX6_init (rmr 3 c2 s2) 3 := ⟨_, _, _, gX11_made_X6_init, rfl, (List.mem_of_getElem? (i := 12) rfl), (List.mem_of_getElem? (i := 42) rfl), (List.mem_of_getElem? (i := 43) rfl), rfl, by decide +kernel, Nat.le_of_ble_eq_true rfl, Nat.le_of_ble_eq_true rfl⟩
theorem ki_X11_made_X7_init_103 {c s c2 s2 : Nat} : KI RX11 wsX11_made (rmr 4 c s) 103 yX7_init wsX7_init (rmr 3 c2 s2) 3 := ⟨_, _, _, gX11_made_X7_init, rfl, (List.mem_of_getElem? (i := 15) rfl), (List.mem_of_getElem? (i := 46) rfl), (List.mem_of_getElem? (i := 47) rfl), rfl, by decide +kernel, Nat.le_of_ble_eq_true rfl, Nat.le_of_ble_eq_true rfl⟩
theorem ki_X11_made_X10_init_106 {c s c2 s2 : Nat} : KI RX11 wsX11_made (rmr 4 c s) 106 yX10_init wsX10_init (rmr 3 c2 s2) 3 := ⟨_, _, _, gX11_made_X10_init, rfl, (List.mem_of_getElem? (i := 18) rfl), (List.mem_of_getElem? (i := 50) rfl), (List.mem_of_getElem? (i := 51) rfl), rfl, by decide +kernel, Nat.le_of_ble_eq_true rfl, Nat.le_of_ble_eq_true rfl⟩
set_option maxRecDepth 100000 in
set_option maxHeartbeats 8000000 in
theorem k_X11_made {l : Launch} {V : Vx} {ω0 : RWd} {k n v : Int32} (hU : UPV V) : Kr l V yX11_made wsX11_made (rmr 4 1 3) 1 3 [.int k, .int n, .int v] ω0 (QRR V (GB k n v ω0)) := by
  refine Kr_of (by decide +kernel) rfl rfl (Nat.le_of_ble_eq_true rfl) (fun M hl hV hN C _ => ?_)
  subst hl
  subst hV
  show PR M 0 [(0, .int k), (1, .int n), (2, .int v)] [] ω0 (0, 0)
  refine Z_iload_n C dX11_made_0 0 rfl ?_
  refine Z_tsw C dX11_made_1 106 (by decide +kernel) (fun hk => ?_) (by decide +kernel) (fun i off ho hk => ?_)
  · refine Z_new (fs := [.int 0, .int 0, .int 0]) C hU (ci := 4) rfl (fun _ h => List.mem_cons_of_mem _ (List.mem_append_right _ h)) tyX4_ok (List.mem_of_getElem? (i := 19) rfl) (List.mem_of_getElem? (i := 20) rfl) (List.mem_of_getElem? (i := 21) rfl) dfX4 (Nat.le_of_ble_eq_true rfl) (Nat.le_of_ble_eq_true rfl) dX11_made_106 (fun q hq => ?_)
    refine Z_dup C dX11_made_109 rfl ?_
    refine Z_iload_n C dX11_made_110 0 rfl ?_
    refine Z_iload_n C dX11_made_111 1 rfl ?_
    refine Z_iload_n C dX11_made_112 2 rfl ?_
    refine Z_ci (rc0 := rmr 1 0 0) (Qk := KB 4 k n v (rnew ω0 q (.inr (4, [.int 0, .int 0, .int 0]))) q) (b := q) (As := [.int k, .int n, .int v]) C ki_X11_made_X4_init_109 rfl (Nat.le_of_ble_eq_true rfl) dX11_made_113 ⟨Nat.le_of_ble_eq_true rfl, Nat.le_of_ble_eq_true rfl⟩ (k_X4_init (List.mem_append_right _ (List.mem_singleton.mpr rfl)) (by decide +kernel) (va_up_self _ _ _)) (fun ω1 h1 => ?_)
    refine Z_aret C (Or.inl ⟨_, rfl⟩) dX11_made_116 ?_
    exact GB_mk hq h1 (kci_0 hk)
  · rcases i with _ | _ | _ | _ | _ | _ | i
    · obtain rfl : (39 : Int) = off := Option.some.inj ho
      refine ⟨?_, by decide +kernel⟩
      show PR M 40 _ _ _ _
      have hk : k.toInt = 1 := by simp at hk; omega
      refine Z_new (fs := [.int 0, .int 0, .int 0]) C hU (ci := 8) rfl (fun _ h => List.mem_cons_of_mem _ (List.mem_append_left _ (List.mem_append_left _ (List.mem_append_left _ (List.mem_append_left _ (List.mem_append_left _ (List.mem_append_left _ (List.mem_append_right _ h)))))))) tyX8_ok (List.mem_of_getElem? (i := 1) rfl) (List.mem_of_getElem? (i := 2) rfl) (List.mem_of_getElem? (i := 3) rfl) dfX8 (Nat.le_of_ble_eq_true rfl) (Nat.le_of_ble_eq_true rfl) dX11_made_40 (fun q hq => ?_)
      refine Z_dup C dX11_made_43 rfl ?_
      refine Z_iload_n C dX11_made_44 0 rfl ?_
      refine Z_iload_n C dX11_made_45 1 rfl ?_
      refine Z_iload_n C dX11_made_46 2 rfl ?_
      refine Z_ci (rc0 := rmr 2 0 0) (Qk := KB 8 k n v (rnew ω0 q (.inr (8, [.int 0, .int 0, .int 0]))) q) (b := q) (As := [.int k, .int n, .int v]) C ki_X11_made_X8_init_89 rfl (Nat.le_of_ble_eq_true rfl) dX11_made_47 ⟨Nat.le_of_ble_eq_true rfl, Nat.le_of_ble_eq_true rfl⟩ (k_X8_init (List.mem_append_right _ (List.mem_singleton.mpr rfl)) (by decide +kernel) (va_up_self _ _ _)) (fun ω1 h1 => ?_)
      refine Z_aret C (Or.inl ⟨_, rfl⟩) dX11_made_50 ?_
      exact GB_mk hq h1 (kci_1 hk)
    · obtain rfl : (50 : Int) = off := Option.some.inj ho
      refine ⟨?_, by decide +kernel⟩
      show PR M 51 _ _ _ _
      have hk : k.toInt = 2 := by simp at hk; omega
      refine Z_new (fs := [.int 0, .int 0, .int 0]) C hU (ci := 3) rfl (fun _ h => List.mem_cons_of_mem _ (List.mem_append_left _ (List.mem_append_left _ (List.mem_append_left _ (List.mem_append_left _ (List.mem_append_left _ (List.mem_append_right _ h))))))) tyX3_ok (List.mem_of_getElem? (i := 4) rfl) (List.mem_of_getElem? (i := 5) rfl) (List.mem_of_getElem? (i := 6) rfl) dfX3 (Nat.le_of_ble_eq_true rfl) (Nat.le_of_ble_eq_true rfl) dX11_made_51 (fun q hq => ?_)
      refine Z_dup C dX11_made_54 rfl ?_
      refine Z_iload_n C dX11_made_55 0 rfl ?_
      refine Z_iload_n C dX11_made_56 1 rfl ?_
      refine Z_iload_n C dX11_made_57 2 rfl ?_
      refine Z_ci (rc0 := rmr 2 0 0) (Qk := KB 3 k n v (rnew ω0 q (.inr (3, [.int 0, .int 0, .int 0]))) q) (b := q) (As := [.int k, .int n, .int v]) C ki_X11_made_X3_init_94 rfl (Nat.le_of_ble_eq_true rfl) dX11_made_58 ⟨Nat.le_of_ble_eq_true rfl, Nat.le_of_ble_eq_true rfl⟩ (k_X3_init (List.mem_append_right _ (List.mem_singleton.mpr rfl)) (by decide +kernel) (va_up_self _ _ _)) (fun ω1 h1 => ?_)
      refine Z_aret C (Or.inl ⟨_, rfl⟩) dX11_made_61 ?_
      exact GB_mk hq h1 (kci_2 hk)
    · obtain rfl : (61 : Int) = off := Option.some.inj ho
      refine ⟨?_, by decide +kernel⟩
      show PR M 62 _ _ _ _
      have hk : k.toInt = 3 := by simp at hk; omega
      refine Z_new (fs := [.int 0, .int 0, .int 0]) C hU (ci := 0) rfl (fun _ h => List.mem_cons_of_mem _ (List.mem_append_left _ (List.mem_append_left _ (List.mem_append_left _ (List.mem_append_left _ (List.mem_append_right _ h)))))) tyX0_ok (List.mem_of_getElem? (i := 7) rfl) (List.mem_of_getElem? (i := 8) rfl) (List.mem_of_getElem? (i := 9) rfl) dfX0 (Nat.le_of_ble_eq_true rfl) (Nat.le_of_ble_eq_true rfl) dX11_made_62 (fun q hq => ?_)
      refine Z_dup C dX11_made_65 rfl ?_
      refine Z_iload_n C dX11_made_66 0 rfl ?_
      refine Z_iload_n C dX11_made_67 1 rfl ?_
      refine Z_iload_n C dX11_made_68 2 rfl ?_
      refine Z_ci (rc0 := rmr 2 0 0) (Qk := KB 0 k n v (rnew ω0 q (.inr (0, [.int 0, .int 0, .int 0]))) q) (b := q) (As := [.int k, .int n, .int v]) C ki_X11_made_X0_init_97 rfl (Nat.le_of_ble_eq_true rfl) dX11_made_69 ⟨Nat.le_of_ble_eq_true rfl, Nat.le_of_ble_eq_true rfl⟩ (k_X0_init (List.mem_append_right _ (List.mem_singleton.mpr rfl)) (by decide +kernel) (va_up_self _ _ _)) (fun ω1 h1 => ?_)
      refine Z_aret C (Or.inl ⟨_, rfl⟩) dX11_made_72 ?_
      exact GB_mk hq h1 (kci_3 hk)
    · obtain rfl : (72 : Int) = off := Option.some.inj ho
      refine ⟨?_, by decide +kernel⟩
      show PR M 73 _ _ _ _
      have hk : k.toInt = 4 := by simp at hk; omega
      refine Z_new (fs := [.int 0, .int 0, .int 0]) C hU (ci := 6) rfl (fun _ h => List.mem_cons_of_mem _ (List.mem_append_left _ (List.mem_append_left _ (List.mem_append_left _ (List.mem_append_right _ h))))) tyX6_ok (List.mem_of_getElem? (i := 10) rfl) (List.mem_of_getElem? (i := 11) rfl) (List.mem_of_getElem? (i := 12) rfl) dfX6 (Nat.le_of_ble_eq_true rfl) (Nat.le_of_ble_eq_true rfl) dX11_made_73 (fun q hq => ?_)
      refine Z_dup C dX11_made_76 rfl ?_
      refine Z_iload_n C dX11_made_77 0 rfl ?_
      refine Z_iload_n C dX11_made_78 1 rfl ?_
      refine Z_iload_n C dX11_made_79 2 rfl ?_
      refine Z_ci (rc0 := rmr 3 0 0) (Qk := KB 6 k n v (rnew ω0 q (.inr (6, [.int 0, .int 0, .int 0]))) q) (b := q) (As := [.int k, .int n, .int v]) C ki_X11_made_X6_init_100 rfl (Nat.le_of_ble_eq_true rfl) dX11_made_80 ⟨Nat.le_of_ble_eq_true rfl, Nat.le_of_ble_eq_true rfl⟩ (k_X6_init (List.mem_append_right _ (List.mem_singleton.mpr rfl)) (by decide +kernel) (va_up_self _ _ _)) (fun ω1 h1 => ?_)
      refine Z_aret C (Or.inl ⟨_, rfl⟩) dX11_made_83 ?_
      exact GB_mk hq h1 (kci_4 hk)
    · obtain rfl : (83 : Int) = off := Option.some.inj ho
      refine ⟨?_, by decide +kernel⟩
      show PR M 84 _ _ _ _
      have hk : k.toInt = 5 := by simp at hk; omega
      refine Z_new (fs := [.int 0, .int 0, .int 0]) C hU (ci := 7) rfl (fun _ h => List.mem_cons_of_mem _ (List.mem_append_left _ (List.mem_append_left _ (List.mem_append_right _ h)))) tyX7_ok (List.mem_of_getElem? (i := 13) rfl) (List.mem_of_getElem? (i := 14) rfl) (List.mem_of_getElem? (i := 15) rfl) dfX7 (Nat.le_of_ble_eq_true rfl) (Nat.le_of_ble_eq_true rfl) dX11_made_84 (fun q hq => ?_)
      refine Z_dup C dX11_made_87 rfl ?_
      refine Z_iload_n C dX11_made_88 0 rfl ?_
      refine Z_iload_n C dX11_made_89 1 rfl ?_
      refine Z_iload_n C dX11_made_90 2 rfl ?_
      refine Z_ci (rc0 := rmr 3 0 0) (Qk := KB 7 k n v (rnew ω0 q (.inr (7, [.int 0, .int 0, .int 0]))) q) (b := q) (As := [.int k, .int n, .int v]) C ki_X11_made_X7_init_103 rfl (Nat.le_of_ble_eq_true rfl) dX11_made_91 ⟨Nat.le_of_ble_eq_true rfl, Nat.le_of_ble_eq_true rfl⟩ (k_X7_init (List.mem_append_right _ (List.mem_singleton.mpr rfl)) (by decide +kernel) (va_up_self _ _ _)) (fun ω1 h1 => ?_)
      refine Z_aret C (Or.inl ⟨_, rfl⟩) dX11_made_94 ?_
      exact GB_mk hq h1 (kci_5 hk)
    · obtain rfl : (94 : Int) = off := Option.some.inj ho
      refine ⟨?_, by decide +kernel⟩
      show PR M 95 _ _ _ _
      have hk : k.toInt = 6 := by simp at hk; omega
      refine Z_new (fs := [.int 0, .int 0, .int 0]) C hU (ci := 10) rfl (fun _ h => List.mem_cons_of_mem _ (List.mem_append_left _ (List.mem_append_right _ h))) tyX10_ok (List.mem_of_getElem? (i := 16) rfl) (List.mem_of_getElem? (i := 17) rfl) (List.mem_of_getElem? (i := 18) rfl) dfX10 (Nat.le_of_ble_eq_true rfl) (Nat.le_of_ble_eq_true rfl) dX11_made_95 (fun q hq => ?_)
      refine Z_dup C dX11_made_98 rfl ?_
      refine Z_iload_n C dX11_made_99 0 rfl ?_
      refine Z_iload_n C dX11_made_100 1 rfl ?_
      refine Z_iload_n C dX11_made_101 2 rfl ?_
      refine Z_ci (rc0 := rmr 3 0 0) (Qk := KB 10 k n v (rnew ω0 q (.inr (10, [.int 0, .int 0, .int 0]))) q) (b := q) (As := [.int k, .int n, .int v]) C ki_X11_made_X10_init_106 rfl (Nat.le_of_ble_eq_true rfl) dX11_made_102 ⟨Nat.le_of_ble_eq_true rfl, Nat.le_of_ble_eq_true rfl⟩ (k_X10_init (List.mem_append_right _ (List.mem_singleton.mpr rfl)) (by decide +kernel) (va_up_self _ _ _)) (fun ω1 h1 => ?_)
      refine Z_aret C (Or.inl ⟨_, rfl⟩) dX11_made_105 ?_
      exact GB_mk hq h1 (kci_6 hk)
    · exact absurd (Array.getElem?_eq_some_iff.mp ho).1 (Nat.not_lt.mpr (by show 6 ≤ _; omega))
noncomputable def NB (V : Vx) (N9 : Nat) (ω0 : RWd) (h : Nat) (ω : RWd) : Prop := ∃ q4 : Nat, BT ω0 ω h [(q4, .inl (vC V 0, (N9, .inl (fun _ => 0))))] ∧ ω.2 h = .inr (5, [.ref q4, .int (0 : Int32)])
theorem pa_X5_init_7 : PA RX5 wsX5_init 7 5 1 "NineMowers$Numbers" .int := by
  show _ ∧ _ ∧ _ ∧ _ ∧ _ ∧ _ ∧ _ ∧ _
  exact ⟨by decide +kernel, fun _ h => List.mem_cons_of_mem _ (List.mem_append_right _ h), List.mem_of_getElem? (i := 4) rfl, rfl, rfl, by decide +kernel, ⟨tyX5, tyX5_ok⟩, nmX5⟩
theorem pf_X5_init_13 : PF RX5 wsX5_init 13 5 0 "NineMowers$Numbers" (.array .int) := by
  show _ ∧ _ ∧ _ ∧ _ ∧ _ ∧ _ ∧ _ ∧ _ ∧ _
  exact ⟨by decide +kernel, fun _ h => List.mem_cons_of_mem _ (List.mem_append_right _ h), List.mem_of_getElem? (i := 6) rfl, rfl, rfl, rfl, by decide +kernel, ⟨tyX5, tyX5_ok⟩, nmX5⟩
set_option maxRecDepth 100000 in
set_option maxHeartbeats 8000000 in
theorem k_X5_init {l : Launch} {V : Vx} {h : Nat} {ω0 : RWd} {n9 : Int32} {N9 : Nat} (hU : UPV V) (hm : h ∈ ω0.1) (c0 : ω0.2 h = .inr (5, [.null, .int 0])) (hn9 : ¬ n9 < 0) (hN9 : n9.toNatClampNeg = N9) (hm9 : N9 ≤ 1000) : Kr l V yX5_init wsX5_init (rmr 1 (0 + 1) (0 + N9)) (0 + 1) (0 + N9) [.ref h, .int n9] ω0 (QRV V (NB V N9 ω0 h)) := by
  refine Kr_of (by decide +kernel) rfl rfl (Nat.le_of_ble_eq_true rfl) (fun M hl hV hN C hI => ?_)
  subst hl
  subst hV
  replace hI := hI rfl
  have b0 := BT_0 hm
  show PR M 0 [(0, .ref h), (1, .int n9)] [] ω0 (0, 0)
  refine Z_aload_n C dX5_init_0 0 rfl ?_
  refine Z_objInit C (List.mem_of_getElem? (i := 1) rfl) (List.mem_of_getElem? (i := 2) rfl) (List.mem_of_getElem? (i := 3) rfl) (Nat.le_of_ble_eq_true rfl) (Nat.le_of_ble_eq_true rfl) dX5_init_1 ?_
  refine Z_aload_n C dX5_init_4 0 rfl ?_
  refine Z_iconst C dX5_init_5 (v := (0 : Int32)) (by decide +kernel) ?_
  refine Y_put C pa_X5_init_7 b0 c0 rfl rfl (Nat.le_of_ble_eq_true rfl) dX5_init_6 (fun ω1 bZ cZ => ?_)
  have b2 := bZ
  clear bZ 
  have c3 : ω1.2 h = .inr (5, [.null, .int (0 : Int32)]) := cZ
  clear cZ
  refine Z_aload_n C dX5_init_9 0 rfl ?_
  refine Z_iload_n C dX5_init_10 1 rfl ?_
  refine Y_newa (t := 0) (a0 := (N9, .inl (fun _ => 0))) C hU b2 (List.mem_of_getElem? (i := 5) rfl) rfl rfl (fun _ _ q => q) (fun _ => rfl) hn9 hN9 (by rw [show componentBytes .int = 4 from rfl]; omega) (Nat.le_refl _) (Nat.le_refl _) dX5_init_11 (fun q4 ω5 bZ eZ => ?_)
  have b6 := bZ
  clear bZ b2
  have cZ := eZ.trans c3
  have c7 := cZ
  clear cZ eZ
  refine Y_putF C hI pf_X5_init_13 b6 c7 rfl rfl (Nat.le_of_ble_eq_true rfl) dX5_init_13 (fun ω8 bZ cZ => ?_)
  have b9 := bZ
  clear bZ b6
  have c10 : ω8.2 h = .inr (5, [.ref q4, .int (0 : Int32)]) := cZ
  clear cZ
  exact Z_vret C dX5_init_16 ⟨q4, b9, c10⟩
noncomputable def TB (V : Vx) (ω0 : RWd) (h : Nat) (ω : RWd) : Prop := ∃ q1 : Nat, BT ω0 ω h [(q1, .inl (vC V 3, (60, .inr (.inl (fun _ => 0)))))] ∧ ω.2 h = .inr (9, [.ref q1, .int (-1 : Int32), .int (0 : Int32)])
theorem pf_X9_init_9 : PF RX9 wsX9_init 9 9 0 "NineMowers$Tape" (.array .long) := by
  show _ ∧ _ ∧ _ ∧ _ ∧ _ ∧ _ ∧ _ ∧ _ ∧ _
  exact ⟨by decide +kernel, fun _ h => List.mem_cons_of_mem _ (List.mem_append_right _ h), List.mem_of_getElem? (i := 5) rfl, rfl, rfl, rfl, by decide +kernel, ⟨tyX9, tyX9_ok⟩, nmX9⟩
theorem pa_X9_init_13 : PA RX9 wsX9_init 13 9 1 "NineMowers$Tape" .int := by
  show _ ∧ _ ∧ _ ∧ _ ∧ _ ∧ _ ∧ _ ∧ _
  exact ⟨by decide +kernel, fun _ h => List.mem_cons_of_mem _ (List.mem_append_right _ h), List.mem_of_getElem? (i := 6) rfl, rfl, rfl, by decide +kernel, ⟨tyX9, tyX9_ok⟩, nmX9⟩
theorem pa_X9_init_17 : PA RX9 wsX9_init 17 9 2 "NineMowers$Tape" .int := by
  show _ ∧ _ ∧ _ ∧ _ ∧ _ ∧ _ ∧ _ ∧ _
  exact ⟨by decide +kernel, fun _ h => List.mem_cons_of_mem _ (List.mem_append_right _ h), List.mem_of_getElem? (i := 7) rfl, rfl, rfl, by decide +kernel, ⟨tyX9, tyX9_ok⟩, nmX9⟩
set_option maxRecDepth 100000 in
set_option maxHeartbeats 8000000 in
theorem k_X9_init {l : Launch} {V : Vx} {h : Nat} {ω0 : RWd} (hU : UPV V) (hm : h ∈ ω0.1) (c0 : ω0.2 h = .inr (9, [.null, .int 0, .int 0])) : Kr l V yX9_init wsX9_init (rmr 1 1 (60)) 1 (60) [.ref h] ω0 (QRV V (TB V ω0 h)) := by
  refine Kr_of (by decide +kernel) rfl rfl (Nat.le_of_ble_eq_true rfl) (fun M hl hV hN C hI => ?_)
  subst hl
  subst hV
  replace hI := hI rfl
  have b0 := BT_0 hm
  show PR M 0 [(0, .ref h)] [] ω0 (0, 0)
  refine Z_aload_n C dX9_init_0 0 rfl ?_
  refine Z_objInit C (List.mem_of_getElem? (i := 1) rfl) (List.mem_of_getElem? (i := 2) rfl) (List.mem_of_getElem? (i := 3) rfl) (Nat.le_of_ble_eq_true rfl) (Nat.le_of_ble_eq_true rfl) dX9_init_1 ?_
  refine Z_aload_n C dX9_init_4 0 rfl ?_
  refine Z_bipush C dX9_init_5 (v := (60 : Int32)) (by decide +kernel) ?_
  refine Y_newa (t := 3) (a0 := (60, .inr (.inl (fun _ => 0)))) C hU b0 (List.mem_of_getElem? (i := 4) rfl) rfl rfl (fun _ _ q => q) (fun _ => rfl) (by decide +kernel) rfl (by decide +kernel) (Nat.le_of_ble_eq_true rfl) (Nat.le_of_ble_eq_true rfl) dX9_init_7 (fun q1 ω2 bZ eZ => ?_)
  have b3 := bZ
  clear bZ 
  have cZ := eZ.trans c0
  have c4 := cZ
  clear cZ eZ
  show PR M 9 [(0, .ref h)] [.ref q1, .ref h] ω2 (1, 60)
  refine Y_putF C hI pf_X9_init_9 b3 c4 rfl rfl (Nat.le_of_ble_eq_true rfl) dX9_init_9 (fun ω5 bZ cZ => ?_)
  have b6 := bZ
  clear bZ b3
  have c7 : ω5.2 h = .inr (9, [.ref q1, .int 0, .int 0]) := cZ
  clear cZ
  refine Z_aload_n C dX9_init_12 0 rfl ?_
  refine Z_iconst C dX9_init_13 (v := (-1 : Int32)) (by decide +kernel) ?_
  refine Y_put C pa_X9_init_13 b6 c7 rfl rfl (Nat.le_of_ble_eq_true rfl) dX9_init_14 (fun ω8 bZ cZ => ?_)
  have b9 := bZ
  clear bZ b6
  have c10 : ω8.2 h = .inr (9, [.ref q1, .int (-1 : Int32), .int 0]) := cZ
  clear cZ
  refine Z_aload_n C dX9_init_17 0 rfl ?_
  refine Z_iconst C dX9_init_18 (v := (0 : Int32)) (by decide +kernel) ?_
  refine Y_put C pa_X9_init_17 b9 c10 rfl rfl (Nat.le_of_ble_eq_true rfl) dX9_init_19 (fun ω11 bZ cZ => ?_)
  have b12 := bZ
  clear bZ b9
  have c13 : ω11.2 h = .inr (9, [.ref q1, .int (-1 : Int32), .int (0 : Int32)]) := cZ
  clear cZ
  exact Z_vret C dX9_init_22 ⟨q1, b12, c13⟩
noncomputable def FB (V : Vx) (ω0 : RWd) (h : Nat) (ω : RWd) : Prop := ∃ q10 q20 q27 q34 : Nat, BT ω0 ω h [(q10, .inl (vC V 0, (100, .inl (fun _ => 0)))), (q20, .inl (vC V 0, (10, .inl (fun _ => 0)))), (q27, .inl (vC V 0, (10, .inl (fun _ => 0)))), (q34, .inl (vC V 0, (10, .inl (fun _ => 0))))] ∧ ω.2 h = .inr (2, [.int (2 : Int32), .int (1 : Int32), .int (60 : Int32), .ref q10, .int (0 : Int32), .ref q20, .ref q27, .ref q34, .int (0 : Int32), .null, .int (0 : Int32), .int (0 : Int32)])
theorem pa_X2_init_9 : PA RX2 wsX2_init 9 2 0 "NineMowers$Field" .int := by
  show _ ∧ _ ∧ _ ∧ _ ∧ _ ∧ _ ∧ _ ∧ _
  exact ⟨by decide +kernel, fun _ h => List.mem_cons_of_mem _ (List.mem_append_right _ h), List.mem_of_getElem? (i := 4) rfl, rfl, rfl, by decide +kernel, ⟨tyX2, tyX2_ok⟩, nmX2⟩
theorem pa_X2_init_15 : PA RX2 wsX2_init 15 2 1 "NineMowers$Field" .int := by
  show _ ∧ _ ∧ _ ∧ _ ∧ _ ∧ _ ∧ _ ∧ _
  exact ⟨by decide +kernel, fun _ h => List.mem_cons_of_mem _ (List.mem_append_right _ h), List.mem_of_getElem? (i := 5) rfl, rfl, rfl, by decide +kernel, ⟨tyX2, tyX2_ok⟩, nmX2⟩
theorem pa_X2_init_18 : PA RX2 wsX2_init 18 2 2 "NineMowers$Field" .int := by
  show _ ∧ _ ∧ _ ∧ _ ∧ _ ∧ _ ∧ _ ∧ _
  exact ⟨by decide +kernel, fun _ h => List.mem_cons_of_mem _ (List.mem_append_right _ h), List.mem_of_getElem? (i := 6) rfl, rfl, rfl, by decide +kernel, ⟨tyX2, tyX2_ok⟩, nmX2⟩
theorem pf_X2_init_21 : PF RX2 wsX2_init 21 2 3 "NineMowers$Field" (.array .int) := by
  show _ ∧ _ ∧ _ ∧ _ ∧ _ ∧ _ ∧ _ ∧ _ ∧ _
  exact ⟨by decide +kernel, fun _ h => List.mem_cons_of_mem _ (List.mem_append_right _ h), List.mem_of_getElem? (i := 8) rfl, rfl, rfl, rfl, by decide +kernel, ⟨tyX2, tyX2_ok⟩, nmX2⟩
theorem pa_X2_init_25 : PA RX2 wsX2_init 25 2 4 "NineMowers$Field" .int := by
  show _ ∧ _ ∧ _ ∧ _ ∧ _ ∧ _ ∧ _ ∧ _
  exact ⟨by decide +kernel, fun _ h => List.mem_cons_of_mem _ (List.mem_append_right _ h), List.mem_of_getElem? (i := 9) rfl, rfl, rfl, by decide +kernel, ⟨tyX2, tyX2_ok⟩, nmX2⟩
theorem pf_X2_init_28 : PF RX2 wsX2_init 28 2 5 "NineMowers$Field" (.array .int) := by
  show _ ∧ _ ∧ _ ∧ _ ∧ _ ∧ _ ∧ _ ∧ _ ∧ _
  exact ⟨by decide +kernel, fun _ h => List.mem_cons_of_mem _ (List.mem_append_right _ h), List.mem_of_getElem? (i := 10) rfl, rfl, rfl, rfl, by decide +kernel, ⟨tyX2, tyX2_ok⟩, nmX2⟩
theorem pf_X2_init_31 : PF RX2 wsX2_init 31 2 6 "NineMowers$Field" (.array .int) := by
  show _ ∧ _ ∧ _ ∧ _ ∧ _ ∧ _ ∧ _ ∧ _ ∧ _
  exact ⟨by decide +kernel, fun _ h => List.mem_cons_of_mem _ (List.mem_append_right _ h), List.mem_of_getElem? (i := 11) rfl, rfl, rfl, rfl, by decide +kernel, ⟨tyX2, tyX2_ok⟩, nmX2⟩
theorem pf_X2_init_34 : PF RX2 wsX2_init 34 2 7 "NineMowers$Field" (.array .int) := by
  show _ ∧ _ ∧ _ ∧ _ ∧ _ ∧ _ ∧ _ ∧ _ ∧ _
  exact ⟨by decide +kernel, fun _ h => List.mem_cons_of_mem _ (List.mem_append_right _ h), List.mem_of_getElem? (i := 12) rfl, rfl, rfl, rfl, by decide +kernel, ⟨tyX2, tyX2_ok⟩, nmX2⟩
theorem pa_X2_init_37 : PA RX2 wsX2_init 37 2 8 "NineMowers$Field" .int := by
  show _ ∧ _ ∧ _ ∧ _ ∧ _ ∧ _ ∧ _ ∧ _
  exact ⟨by decide +kernel, fun _ h => List.mem_cons_of_mem _ (List.mem_append_right _ h), List.mem_of_getElem? (i := 13) rfl, rfl, rfl, by decide +kernel, ⟨tyX2, tyX2_ok⟩, nmX2⟩
theorem pa_X2_init_40 : PA RX2 wsX2_init 40 2 9 "NineMowers$Field" (.array .byte) := by
  show _ ∧ _ ∧ _ ∧ _ ∧ _ ∧ _ ∧ _ ∧ _
  exact ⟨by decide +kernel, fun _ h => List.mem_cons_of_mem _ (List.mem_append_right _ h), List.mem_of_getElem? (i := 14) rfl, rfl, rfl, by decide +kernel, ⟨tyX2, tyX2_ok⟩, nmX2⟩
theorem pa_X2_init_44 : PA RX2 wsX2_init 44 2 10 "NineMowers$Field" .int := by
  show _ ∧ _ ∧ _ ∧ _ ∧ _ ∧ _ ∧ _ ∧ _
  exact ⟨by decide +kernel, fun _ h => List.mem_cons_of_mem _ (List.mem_append_right _ h), List.mem_of_getElem? (i := 15) rfl, rfl, rfl, by decide +kernel, ⟨tyX2, tyX2_ok⟩, nmX2⟩
theorem pa_X2_init_47 : PA RX2 wsX2_init 47 2 11 "NineMowers$Field" .int := by
  show _ ∧ _ ∧ _ ∧ _ ∧ _ ∧ _ ∧ _ ∧ _
  exact ⟨by decide +kernel, fun _ h => List.mem_cons_of_mem _ (List.mem_append_right _ h), List.mem_of_getElem? (i := 16) rfl, rfl, rfl, by decide +kernel, ⟨tyX2, tyX2_ok⟩, nmX2⟩
set_option maxRecDepth 100000 in
set_option maxHeartbeats 8000000 in
theorem k_X2_init {l : Launch} {V : Vx} {h : Nat} {ω0 : RWd} (hU : UPV V) (hm : h ∈ ω0.1) (c0 : ω0.2 h = .inr (2, [.int 0, .int 0, .int 0, .null, .int 0, .null, .null, .null, .int 0, .null, .int 0, .int 0])) : Kr l V yX2_init wsX2_init (rmr 1 4 (130)) 4 (130) [.ref h] ω0 (QRV V (FB V ω0 h)) := by
  refine Kr_of (by decide +kernel) rfl rfl (Nat.le_of_ble_eq_true rfl) (fun M hl hV hN C hI => ?_)
  subst hl
  subst hV
  replace hI := hI rfl
  have b0 := BT_0 hm
  show PR M 0 [(0, .ref h)] [] ω0 (0, 0)
  refine Z_aload_n C dX2_init_0 0 rfl ?_
  refine Z_objInit C (List.mem_of_getElem? (i := 1) rfl) (List.mem_of_getElem? (i := 2) rfl) (List.mem_of_getElem? (i := 3) rfl) (Nat.le_of_ble_eq_true rfl) (Nat.le_of_ble_eq_true rfl) dX2_init_1 ?_
  refine Z_aload_n C dX2_init_4 0 rfl ?_
  refine Z_iconst C dX2_init_5 (v := (2 : Int32)) (by decide +kernel) ?_
  refine Y_put C pa_X2_init_9 b0 c0 rfl rfl (Nat.le_of_ble_eq_true rfl) dX2_init_6 (fun ω1 bZ cZ => ?_)
  have b2 := bZ
  clear bZ 
  have c3 : ω1.2 h = .inr (2, [.int (2 : Int32), .int 0, .int 0, .null, .int 0, .null, .null, .null, .int 0, .null, .int 0, .int 0]) := cZ
  clear cZ
  refine Z_aload_n C dX2_init_9 0 rfl ?_
  refine Z_iconst C dX2_init_10 (v := (1 : Int32)) (by decide +kernel) ?_
  refine Y_put C pa_X2_init_15 b2 c3 rfl rfl (Nat.le_of_ble_eq_true rfl) dX2_init_11 (fun ω4 bZ cZ => ?_)
  have b5 := bZ
  clear bZ b2
  have c6 : ω4.2 h = .inr (2, [.int (2 : Int32), .int (1 : Int32), .int 0, .null, .int 0, .null, .null, .null, .int 0, .null, .int 0, .int 0]) := cZ
  clear cZ
  refine Z_aload_n C dX2_init_14 0 rfl ?_
  refine Z_bipush C dX2_init_15 (v := (60 : Int32)) (by decide +kernel) ?_
  refine Y_put C pa_X2_init_18 b5 c6 rfl rfl (Nat.le_of_ble_eq_true rfl) dX2_init_17 (fun ω7 bZ cZ => ?_)
  have b8 := bZ
  clear bZ b5
  have c9 : ω7.2 h = .inr (2, [.int (2 : Int32), .int (1 : Int32), .int (60 : Int32), .null, .int 0, .null, .null, .null, .int 0, .null, .int 0, .int 0]) := cZ
  clear cZ
  refine Z_aload_n C dX2_init_20 0 rfl ?_
  refine Z_bipush C dX2_init_21 (v := (100 : Int32)) (by decide +kernel) ?_
  refine Y_newa (t := 0) (a0 := (100, .inl (fun _ => 0))) C hU b8 (List.mem_of_getElem? (i := 7) rfl) rfl rfl (fun _ _ q => q) (fun _ => rfl) (by decide +kernel) rfl (by decide +kernel) (Nat.le_of_ble_eq_true rfl) (Nat.le_of_ble_eq_true rfl) dX2_init_23 (fun q10 ω11 bZ eZ => ?_)
  have b12 := bZ
  clear bZ b8
  have cZ := eZ.trans c9
  have c13 := cZ
  clear cZ eZ
  show PR M 25 [(0, .ref h)] [.ref q10, .ref h] ω11 (1, 100)
  refine Y_putF C hI pf_X2_init_21 b12 c13 rfl rfl (Nat.le_of_ble_eq_true rfl) dX2_init_25 (fun ω14 bZ cZ => ?_)
  have b15 := bZ
  clear bZ b12
  have c16 : ω14.2 h = .inr (2, [.int (2 : Int32), .int (1 : Int32), .int (60 : Int32), .ref q10, .int 0, .null, .null, .null, .int 0, .null, .int 0, .int 0]) := cZ
  clear cZ
  refine Z_aload_n C dX2_init_28 0 rfl ?_
  refine Z_iconst C dX2_init_29 (v := (0 : Int32)) (by decide +kernel) ?_
  refine Y_put C pa_X2_init_25 b15 c16 rfl rfl (Nat.le_of_ble_eq_true rfl) dX2_init_30 (fun ω17 bZ cZ => ?_)
  have b18 := bZ
  clear bZ b15
  have c19 : ω17.2 h = .inr (2, [.int (2 : Int32), .int (1 : Int32), .int (60 : Int32), .ref q10, .int (0 : Int32), .null, .null, .null, .int 0, .null, .int 0, .int 0]) := cZ
  clear cZ
  refine Z_aload_n C dX2_init_33 0 rfl ?_
  refine Z_bipush C dX2_init_34 (v := (10 : Int32)) (by decide +kernel) ?_
  refine Y_newa (t := 0) (a0 := (10, .inl (fun _ => 0))) C hU b18 (List.mem_of_getElem? (i := 7) rfl) rfl rfl (fun _ _ q => q) (fun _ => rfl) (by decide +kernel) rfl (by decide +kernel) (Nat.le_of_ble_eq_true rfl) (Nat.le_of_ble_eq_true rfl) dX2_init_36 (fun q20 ω21 bZ eZ => ?_)
  have b22 := bZ
  clear bZ b18
  have cZ := eZ.trans c19
  have c23 := cZ
  clear cZ eZ
  show PR M 38 [(0, .ref h)] [.ref q20, .ref h] ω21 (2, 110)
  refine Y_putF C hI pf_X2_init_28 b22 c23 rfl rfl (Nat.le_of_ble_eq_true rfl) dX2_init_38 (fun ω24 bZ cZ => ?_)
  have b25 := bZ
  clear bZ b22
  have c26 : ω24.2 h = .inr (2, [.int (2 : Int32), .int (1 : Int32), .int (60 : Int32), .ref q10, .int (0 : Int32), .ref q20, .null, .null, .int 0, .null, .int 0, .int 0]) := cZ
  clear cZ
  refine Z_aload_n C dX2_init_41 0 rfl ?_
  refine Z_bipush C dX2_init_42 (v := (10 : Int32)) (by decide +kernel) ?_
  refine Y_newa (t := 0) (a0 := (10, .inl (fun _ => 0))) C hU b25 (List.mem_of_getElem? (i := 7) rfl) rfl rfl (fun _ _ q => q) (fun _ => rfl) (by decide +kernel) rfl (by decide +kernel) (Nat.le_of_ble_eq_true rfl) (Nat.le_of_ble_eq_true rfl) dX2_init_44 (fun q27 ω28 bZ eZ => ?_)
  have b29 := bZ
  clear bZ b25
  have cZ := eZ.trans c26
  have c30 := cZ
  clear cZ eZ
  show PR M 46 [(0, .ref h)] [.ref q27, .ref h] ω28 (3, 120)
  refine Y_putF C hI pf_X2_init_31 b29 c30 rfl rfl (Nat.le_of_ble_eq_true rfl) dX2_init_46 (fun ω31 bZ cZ => ?_)
  have b32 := bZ
  clear bZ b29
  have c33 : ω31.2 h = .inr (2, [.int (2 : Int32), .int (1 : Int32), .int (60 : Int32), .ref q10, .int (0 : Int32), .ref q20, .ref q27, .null, .int 0, .null, .int 0, .int 0]) := cZ
  clear cZ
  refine Z_aload_n C dX2_init_49 0 rfl ?_
  refine Z_bipush C dX2_init_50 (v := (10 : Int32)) (by decide +kernel) ?_
  refine Y_newa (t := 0) (a0 := (10, .inl (fun _ => 0))) C hU b32 (List.mem_of_getElem? (i := 7) rfl) rfl rfl (fun _ _ q => q) (fun _ => rfl) (by decide +kernel) rfl (by decide +kernel) (Nat.le_of_ble_eq_true rfl) (Nat.le_of_ble_eq_true rfl) dX2_init_52 (fun q34 ω35 bZ eZ => ?_)
  have b36 := bZ
  clear bZ b32
  have cZ := eZ.trans c33
  have c37 := cZ
  clear cZ eZ
  show PR M 54 [(0, .ref h)] [.ref q34, .ref h] ω35 (4, 130)
  refine Y_putF C hI pf_X2_init_34 b36 c37 rfl rfl (Nat.le_of_ble_eq_true rfl) dX2_init_54 (fun ω38 bZ cZ => ?_)
  have b39 := bZ
  clear bZ b36
  have c40 : ω38.2 h = .inr (2, [.int (2 : Int32), .int (1 : Int32), .int (60 : Int32), .ref q10, .int (0 : Int32), .ref q20, .ref q27, .ref q34, .int 0, .null, .int 0, .int 0]) := cZ
  clear cZ
  refine Z_aload_n C dX2_init_57 0 rfl ?_
  refine Z_iconst C dX2_init_58 (v := (0 : Int32)) (by decide +kernel) ?_
  refine Y_put C pa_X2_init_37 b39 c40 rfl rfl (Nat.le_of_ble_eq_true rfl) dX2_init_59 (fun ω41 bZ cZ => ?_)
  have b42 := bZ
  clear bZ b39
  have c43 : ω41.2 h = .inr (2, [.int (2 : Int32), .int (1 : Int32), .int (60 : Int32), .ref q10, .int (0 : Int32), .ref q20, .ref q27, .ref q34, .int (0 : Int32), .null, .int 0, .int 0]) := cZ
  clear cZ
  refine Z_aload_n C dX2_init_62 0 rfl ?_
  refine Z_null C dX2_init_63 ?_
  refine Y_put C pa_X2_init_40 b42 c43 rfl rfl (Nat.le_of_ble_eq_true rfl) dX2_init_64 (fun ω44 bZ cZ => ?_)
  have b45 := bZ
  clear bZ b42
  have c46 : ω44.2 h = .inr (2, [.int (2 : Int32), .int (1 : Int32), .int (60 : Int32), .ref q10, .int (0 : Int32), .ref q20, .ref q27, .ref q34, .int (0 : Int32), .null, .int 0, .int 0]) := cZ
  clear cZ
  refine Z_aload_n C dX2_init_67 0 rfl ?_
  refine Z_iconst C dX2_init_68 (v := (0 : Int32)) (by decide +kernel) ?_
  refine Y_put C pa_X2_init_44 b45 c46 rfl rfl (Nat.le_of_ble_eq_true rfl) dX2_init_69 (fun ω47 bZ cZ => ?_)
  have b48 := bZ
  clear bZ b45
  have c49 : ω47.2 h = .inr (2, [.int (2 : Int32), .int (1 : Int32), .int (60 : Int32), .ref q10, .int (0 : Int32), .ref q20, .ref q27, .ref q34, .int (0 : Int32), .null, .int (0 : Int32), .int 0]) := cZ
  clear cZ
  refine Z_aload_n C dX2_init_72 0 rfl ?_
  refine Z_iconst C dX2_init_73 (v := (0 : Int32)) (by decide +kernel) ?_
  refine Y_put C pa_X2_init_47 b48 c49 rfl rfl (Nat.le_of_ble_eq_true rfl) dX2_init_74 (fun ω50 bZ cZ => ?_)
  have b51 := bZ
  clear bZ b48
  have c52 : ω50.2 h = .inr (2, [.int (2 : Int32), .int (1 : Int32), .int (60 : Int32), .ref q10, .int (0 : Int32), .ref q20, .ref q27, .ref q34, .int (0 : Int32), .null, .int (0 : Int32), .int (0 : Int32)]) := cZ
  clear cZ
  exact Z_vret C dX2_init_77 ⟨q10, q20, q27, q34, b51, c52⟩
noncomputable def CB (V : Vx) (ω0 : RWd) (h : Nat) (ω : RWd) : Prop := ∃ q1 q11 q21 q28 q35 q42 q49 q65 q67 q73 q75 q81 q83 q89 q96 : Nat, BT ω0 ω h [(q1, .inl (vC V 4, 6, .inr (.inr (.inr (.inr (fun _ => none)))))), (q11, .inl (vC V 0, (6, .inl (fun _ => 0)))), (q21, .inl (vC V 0, (6, .inl (fun _ => 0)))), (q28, .inl (vC V 0, (6, .inl (fun _ => 0)))), (q35, .inl (vC V 0, (6, .inl (fun _ => 0)))), (q42, .inl (vC V 0, (6, .inl (fun _ => 0)))), (q49, .inl (vC V 0, (24, .inl (fun _ => 0)))), (q65, .inr (5, [.ref q67, .int (0 : Int32)])), (q67, .inl (vC V 0, (18, .inl (fun _ => 0)))), (q73, .inr (5, [.ref q75, .int (0 : Int32)])), (q75, .inl (vC V 0, (10, .inl (fun _ => 0)))), (q81, .inr (5, [.ref q83, .int (0 : Int32)])), (q83, .inl (vC V 0, (8, .inl (fun _ => 0)))), (q89, .inl (vC V 0, (6, .inl (fun _ => 0)))), (q96, .inl (vC V 0, (6, .inl (fun _ => 0))))] ∧ ω.2 h = .inr (1, [.ref q1, .int (0 : Int32), .ref q11, .int (0 : Int32), .ref q21, .ref q28, .ref q35, .ref q42, .ref q49, .int (0 : Int32), .null, .int (-1 : Int32), .ref q65, .ref q73, .ref q81, .ref q89, .ref q96])
theorem pf_X1_init_11 : PF RX1 wsX1_init 11 1 0 "NineMowers$Course" (.array (.object "NineMowers$Mower")) := by
  show _ ∧ _ ∧ _ ∧ _ ∧ _ ∧ _ ∧ _ ∧ _ ∧ _
  exact ⟨by decide +kernel, fun _ h => List.mem_cons_of_mem _ (List.mem_append_left _ (List.mem_append_right _ h)), List.mem_of_getElem? (i := 5) rfl, rfl, rfl, rfl, by decide +kernel, ⟨tyX1, tyX1_ok⟩, nmX1⟩
theorem pa_X1_init_17 : PA RX1 wsX1_init 17 1 1 "NineMowers$Course" .int := by
  show _ ∧ _ ∧ _ ∧ _ ∧ _ ∧ _ ∧ _ ∧ _
  exact ⟨by decide +kernel, fun _ h => List.mem_cons_of_mem _ (List.mem_append_left _ (List.mem_append_right _ h)), List.mem_of_getElem? (i := 6) rfl, rfl, rfl, by decide +kernel, ⟨tyX1, tyX1_ok⟩, nmX1⟩
theorem pf_X1_init_21 : PF RX1 wsX1_init 21 1 2 "NineMowers$Course" (.array .int) := by
  show _ ∧ _ ∧ _ ∧ _ ∧ _ ∧ _ ∧ _ ∧ _ ∧ _
  exact ⟨by decide +kernel, fun _ h => List.mem_cons_of_mem _ (List.mem_append_left _ (List.mem_append_right _ h)), List.mem_of_getElem? (i := 8) rfl, rfl, rfl, rfl, by decide +kernel, ⟨tyX1, tyX1_ok⟩, nmX1⟩
theorem pa_X1_init_25 : PA RX1 wsX1_init 25 1 3 "NineMowers$Course" .int := by
  show _ ∧ _ ∧ _ ∧ _ ∧ _ ∧ _ ∧ _ ∧ _
  exact ⟨by decide +kernel, fun _ h => List.mem_cons_of_mem _ (List.mem_append_left _ (List.mem_append_right _ h)), List.mem_of_getElem? (i := 9) rfl, rfl, rfl, by decide +kernel, ⟨tyX1, tyX1_ok⟩, nmX1⟩
theorem pf_X1_init_28 : PF RX1 wsX1_init 28 1 4 "NineMowers$Course" (.array .int) := by
  show _ ∧ _ ∧ _ ∧ _ ∧ _ ∧ _ ∧ _ ∧ _ ∧ _
  exact ⟨by decide +kernel, fun _ h => List.mem_cons_of_mem _ (List.mem_append_left _ (List.mem_append_right _ h)), List.mem_of_getElem? (i := 10) rfl, rfl, rfl, rfl, by decide +kernel, ⟨tyX1, tyX1_ok⟩, nmX1⟩
theorem pf_X1_init_31 : PF RX1 wsX1_init 31 1 5 "NineMowers$Course" (.array .int) := by
  show _ ∧ _ ∧ _ ∧ _ ∧ _ ∧ _ ∧ _ ∧ _ ∧ _
  exact ⟨by decide +kernel, fun _ h => List.mem_cons_of_mem _ (List.mem_append_left _ (List.mem_append_right _ h)), List.mem_of_getElem? (i := 11) rfl, rfl, rfl, rfl, by decide +kernel, ⟨tyX1, tyX1_ok⟩, nmX1⟩
theorem pf_X1_init_34 : PF RX1 wsX1_init 34 1 6 "NineMowers$Course" (.array .int) := by
  show _ ∧ _ ∧ _ ∧ _ ∧ _ ∧ _ ∧ _ ∧ _ ∧ _
  exact ⟨by decide +kernel, fun _ h => List.mem_cons_of_mem _ (List.mem_append_left _ (List.mem_append_right _ h)), List.mem_of_getElem? (i := 12) rfl, rfl, rfl, rfl, by decide +kernel, ⟨tyX1, tyX1_ok⟩, nmX1⟩
theorem pf_X1_init_37 : PF RX1 wsX1_init 37 1 7 "NineMowers$Course" (.array .int) := by
  show _ ∧ _ ∧ _ ∧ _ ∧ _ ∧ _ ∧ _ ∧ _ ∧ _
  exact ⟨by decide +kernel, fun _ h => List.mem_cons_of_mem _ (List.mem_append_left _ (List.mem_append_right _ h)), List.mem_of_getElem? (i := 13) rfl, rfl, rfl, rfl, by decide +kernel, ⟨tyX1, tyX1_ok⟩, nmX1⟩
theorem pf_X1_init_40 : PF RX1 wsX1_init 40 1 8 "NineMowers$Course" (.array .int) := by
  show _ ∧ _ ∧ _ ∧ _ ∧ _ ∧ _ ∧ _ ∧ _ ∧ _
  exact ⟨by decide +kernel, fun _ h => List.mem_cons_of_mem _ (List.mem_append_left _ (List.mem_append_right _ h)), List.mem_of_getElem? (i := 14) rfl, rfl, rfl, rfl, by decide +kernel, ⟨tyX1, tyX1_ok⟩, nmX1⟩
theorem pa_X1_init_43 : PA RX1 wsX1_init 43 1 9 "NineMowers$Course" .int := by
  show _ ∧ _ ∧ _ ∧ _ ∧ _ ∧ _ ∧ _ ∧ _
  exact ⟨by decide +kernel, fun _ h => List.mem_cons_of_mem _ (List.mem_append_left _ (List.mem_append_right _ h)), List.mem_of_getElem? (i := 15) rfl, rfl, rfl, by decide +kernel, ⟨tyX1, tyX1_ok⟩, nmX1⟩
theorem pa_X1_init_46 : PA RX1 wsX1_init 46 1 10 "NineMowers$Course" (.object "NineMowers$Field") := by
  show _ ∧ _ ∧ _ ∧ _ ∧ _ ∧ _ ∧ _ ∧ _
  exact ⟨by decide +kernel, fun _ h => List.mem_cons_of_mem _ (List.mem_append_left _ (List.mem_append_right _ h)), List.mem_of_getElem? (i := 16) rfl, rfl, rfl, by decide +kernel, ⟨tyX1, tyX1_ok⟩, nmX1⟩
theorem pa_X1_init_50 : PA RX1 wsX1_init 50 1 11 "NineMowers$Course" .int := by
  show _ ∧ _ ∧ _ ∧ _ ∧ _ ∧ _ ∧ _ ∧ _
  exact ⟨by decide +kernel, fun _ h => List.mem_cons_of_mem _ (List.mem_append_left _ (List.mem_append_right _ h)), List.mem_of_getElem? (i := 17) rfl, rfl, rfl, by decide +kernel, ⟨tyX1, tyX1_ok⟩, nmX1⟩
theorem ki_X1_init_X5_init_55 {c s c2 s2 : Nat} : KI RX1 wsX1_init (rmr 2 c s) 55 yX5_init wsX5_init (rmr 1 c2 s2) 1 := ⟨_, _, _, gX1_init_X5_init, rfl, (List.mem_of_getElem? (i := 20) rfl), (List.mem_of_getElem? (i := 26) rfl), (List.mem_of_getElem? (i := 27) rfl), rfl, by decide +kernel, Nat.le_of_ble_eq_true rfl, Nat.le_of_ble_eq_true rfl⟩
theorem pf_X1_init_58 : PF RX1 wsX1_init 58 1 12 "NineMowers$Course" (.object "NineMowers$Numbers") := by
  show _ ∧ _ ∧ _ ∧ _ ∧ _ ∧ _ ∧ _ ∧ _ ∧ _
  exact ⟨by decide +kernel, fun _ h => List.mem_cons_of_mem _ (List.mem_append_left _ (List.mem_append_right _ h)), List.mem_of_getElem? (i := 21) rfl, rfl, rfl, rfl, by decide +kernel, ⟨tyX1, tyX1_ok⟩, nmX1⟩
theorem pf_X1_init_62 : PF RX1 wsX1_init 62 1 13 "NineMowers$Course" (.object "NineMowers$Numbers") := by
  show _ ∧ _ ∧ _ ∧ _ ∧ _ ∧ _ ∧ _ ∧ _ ∧ _
  exact ⟨by decide +kernel, fun _ h => List.mem_cons_of_mem _ (List.mem_append_left _ (List.mem_append_right _ h)), List.mem_of_getElem? (i := 22) rfl, rfl, rfl, rfl, by decide +kernel, ⟨tyX1, tyX1_ok⟩, nmX1⟩
theorem pf_X1_init_65 : PF RX1 wsX1_init 65 1 14 "NineMowers$Course" (.object "NineMowers$Numbers") := by
  show _ ∧ _ ∧ _ ∧ _ ∧ _ ∧ _ ∧ _ ∧ _ ∧ _
  exact ⟨by decide +kernel, fun _ h => List.mem_cons_of_mem _ (List.mem_append_left _ (List.mem_append_right _ h)), List.mem_of_getElem? (i := 23) rfl, rfl, rfl, rfl, by decide +kernel, ⟨tyX1, tyX1_ok⟩, nmX1⟩
theorem pf_X1_init_68 : PF RX1 wsX1_init 68 1 15 "NineMowers$Course" (.array .int) := by
  show _ ∧ _ ∧ _ ∧ _ ∧ _ ∧ _ ∧ _ ∧ _ ∧ _
  exact ⟨by decide +kernel, fun _ h => List.mem_cons_of_mem _ (List.mem_append_left _ (List.mem_append_right _ h)), List.mem_of_getElem? (i := 24) rfl, rfl, rfl, rfl, by decide +kernel, ⟨tyX1, tyX1_ok⟩, nmX1⟩
theorem pf_X1_init_71 : PF RX1 wsX1_init 71 1 16 "NineMowers$Course" (.array .int) := by
  show _ ∧ _ ∧ _ ∧ _ ∧ _ ∧ _ ∧ _ ∧ _ ∧ _
  exact ⟨by decide +kernel, fun _ h => List.mem_cons_of_mem _ (List.mem_append_left _ (List.mem_append_right _ h)), List.mem_of_getElem? (i := 25) rfl, rfl, rfl, rfl, by decide +kernel, ⟨tyX1, tyX1_ok⟩, nmX1⟩
set_option maxRecDepth 100000 in
set_option maxHeartbeats 8000000 in
theorem k_X1_init {l : Launch} {V : Vx} {h : Nat} {ω0 : RWd} (hU : UPV V) (hm : h ∈ ω0.1) (c0 : ω0.2 h = .inr (1, [.null, .int 0, .null, .int 0, .null, .null, .null, .null, .null, .int 0, .null, .int 0, .null, .null, .null, .null, .null])) : Kr l V yX1_init wsX1_init (rmr 2 15 (114)) 15 (114) [.ref h] ω0 (QRV V (CB V ω0 h)) := by
  refine Kr_of (by decide +kernel) rfl rfl (Nat.le_of_ble_eq_true rfl) (fun M hl hV hN C hI => ?_)
  subst hl
  subst hV
  replace hI := hI rfl
  have b0 := BT_0 hm
  show PR M 0 [(0, .ref h)] [] ω0 (0, 0)
  refine Z_aload_n C dX1_init_0 0 rfl ?_
  refine Z_objInit C (List.mem_of_getElem? (i := 1) rfl) (List.mem_of_getElem? (i := 2) rfl) (List.mem_of_getElem? (i := 3) rfl) (Nat.le_of_ble_eq_true rfl) (Nat.le_of_ble_eq_true rfl) dX1_init_1 ?_
  refine Z_aload_n C dX1_init_4 0 rfl ?_
  refine Z_bipush C dX1_init_5 (v := (6 : Int32)) (by decide +kernel) ?_
  refine Y_newq (t := 4) C hU b0 (fun U h => (hU U h).2.1) rfl (List.mem_of_getElem? (i := 4) rfl) (by decide +kernel) rfl (by decide +kernel) (Nat.le_of_ble_eq_true rfl) (Nat.le_of_ble_eq_true rfl) dX1_init_7 (fun q1 ω2 bZ eZ => ?_)
  have b3 := bZ
  clear bZ 
  have c4 := eZ.trans c0
  clear eZ
  show PR M 10 [(0, .ref h)] [.ref q1, .ref h] ω2 (1, 6)
  refine Y_putF C hI pf_X1_init_11 b3 c4 rfl rfl (Nat.le_of_ble_eq_true rfl) dX1_init_10 (fun ω5 bZ cZ => ?_)
  have b6 := bZ
  clear bZ b3
  have c7 : ω5.2 h = .inr (1, [.ref q1, .int 0, .null, .int 0, .null, .null, .null, .null, .null, .int 0, .null, .int 0, .null, .null, .null, .null, .null]) := cZ
  clear cZ
  refine Z_aload_n C dX1_init_13 0 rfl ?_
  refine Z_iconst C dX1_init_14 (v := (0 : Int32)) (by decide +kernel) ?_
  refine Y_put C pa_X1_init_17 b6 c7 rfl rfl (Nat.le_of_ble_eq_true rfl) dX1_init_15 (fun ω8 bZ cZ => ?_)
  have b9 := bZ
  clear bZ b6
  have c10 : ω8.2 h = .inr (1, [.ref q1, .int (0 : Int32), .null, .int 0, .null, .null, .null, .null, .null, .int 0, .null, .int 0, .null, .null, .null, .null, .null]) := cZ
  clear cZ
  refine Z_aload_n C dX1_init_18 0 rfl ?_
  refine Z_bipush C dX1_init_19 (v := (6 : Int32)) (by decide +kernel) ?_
  refine Y_newa (t := 0) (a0 := (6, .inl (fun _ => 0))) C hU b9 (List.mem_of_getElem? (i := 7) rfl) rfl rfl (fun _ _ q => q) (fun _ => rfl) (by decide +kernel) rfl (by decide +kernel) (Nat.le_of_ble_eq_true rfl) (Nat.le_of_ble_eq_true rfl) dX1_init_21 (fun q11 ω12 bZ eZ => ?_)
  have b13 := bZ
  clear bZ b9
  have cZ := eZ.trans c10
  have c14 := cZ
  clear cZ eZ
  show PR M 23 [(0, .ref h)] [.ref q11, .ref h] ω12 (2, 12)
  refine Y_putF C hI pf_X1_init_21 b13 c14 rfl rfl (Nat.le_of_ble_eq_true rfl) dX1_init_23 (fun ω15 bZ cZ => ?_)
  have b16 := bZ
  clear bZ b13
  have c17 : ω15.2 h = .inr (1, [.ref q1, .int (0 : Int32), .ref q11, .int 0, .null, .null, .null, .null, .null, .int 0, .null, .int 0, .null, .null, .null, .null, .null]) := cZ
  clear cZ
  refine Z_aload_n C dX1_init_26 0 rfl ?_
  refine Z_iconst C dX1_init_27 (v := (0 : Int32)) (by decide +kernel) ?_
  refine Y_put C pa_X1_init_25 b16 c17 rfl rfl (Nat.le_of_ble_eq_true rfl) dX1_init_28 (fun ω18 bZ cZ => ?_)
  have b19 := bZ
  clear bZ b16
  have c20 : ω18.2 h = .inr (1, [.ref q1, .int (0 : Int32), .ref q11, .int (0 : Int32), .null, .null, .null, .null, .null, .int 0, .null, .int 0, .null, .null, .null, .null, .null]) := cZ
  clear cZ
  refine Z_aload_n C dX1_init_31 0 rfl ?_
  refine Z_bipush C dX1_init_32 (v := (6 : Int32)) (by decide +kernel) ?_
  refine Y_newa (t := 0) (a0 := (6, .inl (fun _ => 0))) C hU b19 (List.mem_of_getElem? (i := 7) rfl) rfl rfl (fun _ _ q => q) (fun _ => rfl) (by decide +kernel) rfl (by decide +kernel) (Nat.le_of_ble_eq_true rfl) (Nat.le_of_ble_eq_true rfl) dX1_init_34 (fun q21 ω22 bZ eZ => ?_)
  have b23 := bZ
  clear bZ b19
  have cZ := eZ.trans c20
  have c24 := cZ
  clear cZ eZ
  show PR M 36 [(0, .ref h)] [.ref q21, .ref h] ω22 (3, 18)
  refine Y_putF C hI pf_X1_init_28 b23 c24 rfl rfl (Nat.le_of_ble_eq_true rfl) dX1_init_36 (fun ω25 bZ cZ => ?_)
  have b26 := bZ
  clear bZ b23
  have c27 : ω25.2 h = .inr (1, [.ref q1, .int (0 : Int32), .ref q11, .int (0 : Int32), .ref q21, .null, .null, .null, .null, .int 0, .null, .int 0, .null, .null, .null, .null, .null]) := cZ
  clear cZ
  refine Z_aload_n C dX1_init_39 0 rfl ?_
  refine Z_bipush C dX1_init_40 (v := (6 : Int32)) (by decide +kernel) ?_
  refine Y_newa (t := 0) (a0 := (6, .inl (fun _ => 0))) C hU b26 (List.mem_of_getElem? (i := 7) rfl) rfl rfl (fun _ _ q => q) (fun _ => rfl) (by decide +kernel) rfl (by decide +kernel) (Nat.le_of_ble_eq_true rfl) (Nat.le_of_ble_eq_true rfl) dX1_init_42 (fun q28 ω29 bZ eZ => ?_)
  have b30 := bZ
  clear bZ b26
  have cZ := eZ.trans c27
  have c31 := cZ
  clear cZ eZ
  show PR M 44 [(0, .ref h)] [.ref q28, .ref h] ω29 (4, 24)
  refine Y_putF C hI pf_X1_init_31 b30 c31 rfl rfl (Nat.le_of_ble_eq_true rfl) dX1_init_44 (fun ω32 bZ cZ => ?_)
  have b33 := bZ
  clear bZ b30
  have c34 : ω32.2 h = .inr (1, [.ref q1, .int (0 : Int32), .ref q11, .int (0 : Int32), .ref q21, .ref q28, .null, .null, .null, .int 0, .null, .int 0, .null, .null, .null, .null, .null]) := cZ
  clear cZ
  refine Z_aload_n C dX1_init_47 0 rfl ?_
  refine Z_bipush C dX1_init_48 (v := (6 : Int32)) (by decide +kernel) ?_
  refine Y_newa (t := 0) (a0 := (6, .inl (fun _ => 0))) C hU b33 (List.mem_of_getElem? (i := 7) rfl) rfl rfl (fun _ _ q => q) (fun _ => rfl) (by decide +kernel) rfl (by decide +kernel) (Nat.le_of_ble_eq_true rfl) (Nat.le_of_ble_eq_true rfl) dX1_init_50 (fun q35 ω36 bZ eZ => ?_)
  have b37 := bZ
  clear bZ b33
  have cZ := eZ.trans c34
  have c38 := cZ
  clear cZ eZ
  show PR M 52 [(0, .ref h)] [.ref q35, .ref h] ω36 (5, 30)
  refine Y_putF C hI pf_X1_init_34 b37 c38 rfl rfl (Nat.le_of_ble_eq_true rfl) dX1_init_52 (fun ω39 bZ cZ => ?_)
  have b40 := bZ
  clear bZ b37
  have c41 : ω39.2 h = .inr (1, [.ref q1, .int (0 : Int32), .ref q11, .int (0 : Int32), .ref q21, .ref q28, .ref q35, .null, .null, .int 0, .null, .int 0, .null, .null, .null, .null, .null]) := cZ
  clear cZ
  refine Z_aload_n C dX1_init_55 0 rfl ?_
  refine Z_bipush C dX1_init_56 (v := (6 : Int32)) (by decide +kernel) ?_
  refine Y_newa (t := 0) (a0 := (6, .inl (fun _ => 0))) C hU b40 (List.mem_of_getElem? (i := 7) rfl) rfl rfl (fun _ _ q => q) (fun _ => rfl) (by decide +kernel) rfl (by decide +kernel) (Nat.le_of_ble_eq_true rfl) (Nat.le_of_ble_eq_true rfl) dX1_init_58 (fun q42 ω43 bZ eZ => ?_)
  have b44 := bZ
  clear bZ b40
  have cZ := eZ.trans c41
  have c45 := cZ
  clear cZ eZ
  show PR M 60 [(0, .ref h)] [.ref q42, .ref h] ω43 (6, 36)
  refine Y_putF C hI pf_X1_init_37 b44 c45 rfl rfl (Nat.le_of_ble_eq_true rfl) dX1_init_60 (fun ω46 bZ cZ => ?_)
  have b47 := bZ
  clear bZ b44
  have c48 : ω46.2 h = .inr (1, [.ref q1, .int (0 : Int32), .ref q11, .int (0 : Int32), .ref q21, .ref q28, .ref q35, .ref q42, .null, .int 0, .null, .int 0, .null, .null, .null, .null, .null]) := cZ
  clear cZ
  refine Z_aload_n C dX1_init_63 0 rfl ?_
  refine Z_bipush C dX1_init_64 (v := (24 : Int32)) (by decide +kernel) ?_
  refine Y_newa (t := 0) (a0 := (24, .inl (fun _ => 0))) C hU b47 (List.mem_of_getElem? (i := 7) rfl) rfl rfl (fun _ _ q => q) (fun _ => rfl) (by decide +kernel) rfl (by decide +kernel) (Nat.le_of_ble_eq_true rfl) (Nat.le_of_ble_eq_true rfl) dX1_init_66 (fun q49 ω50 bZ eZ => ?_)
  have b51 := bZ
  clear bZ b47
  have cZ := eZ.trans c48
  have c52 := cZ
  clear cZ eZ
  show PR M 68 [(0, .ref h)] [.ref q49, .ref h] ω50 (7, 60)
  refine Y_putF C hI pf_X1_init_40 b51 c52 rfl rfl (Nat.le_of_ble_eq_true rfl) dX1_init_68 (fun ω53 bZ cZ => ?_)
  have b54 := bZ
  clear bZ b51
  have c55 : ω53.2 h = .inr (1, [.ref q1, .int (0 : Int32), .ref q11, .int (0 : Int32), .ref q21, .ref q28, .ref q35, .ref q42, .ref q49, .int 0, .null, .int 0, .null, .null, .null, .null, .null]) := cZ
  clear cZ
  refine Z_aload_n C dX1_init_71 0 rfl ?_
  refine Z_iconst C dX1_init_72 (v := (0 : Int32)) (by decide +kernel) ?_
  refine Y_put C pa_X1_init_43 b54 c55 rfl rfl (Nat.le_of_ble_eq_true rfl) dX1_init_73 (fun ω56 bZ cZ => ?_)
  have b57 := bZ
  clear bZ b54
  have c58 : ω56.2 h = .inr (1, [.ref q1, .int (0 : Int32), .ref q11, .int (0 : Int32), .ref q21, .ref q28, .ref q35, .ref q42, .ref q49, .int (0 : Int32), .null, .int 0, .null, .null, .null, .null, .null]) := cZ
  clear cZ
  refine Z_aload_n C dX1_init_76 0 rfl ?_
  refine Z_null C dX1_init_77 ?_
  refine Y_put C pa_X1_init_46 b57 c58 rfl rfl (Nat.le_of_ble_eq_true rfl) dX1_init_78 (fun ω59 bZ cZ => ?_)
  have b60 := bZ
  clear bZ b57
  have c61 : ω59.2 h = .inr (1, [.ref q1, .int (0 : Int32), .ref q11, .int (0 : Int32), .ref q21, .ref q28, .ref q35, .ref q42, .ref q49, .int (0 : Int32), .null, .int 0, .null, .null, .null, .null, .null]) := cZ
  clear cZ
  refine Z_aload_n C dX1_init_81 0 rfl ?_
  refine Z_iconst C dX1_init_82 (v := (-1 : Int32)) (by decide +kernel) ?_
  refine Y_put C pa_X1_init_50 b60 c61 rfl rfl (Nat.le_of_ble_eq_true rfl) dX1_init_83 (fun ω62 bZ cZ => ?_)
  have b63 := bZ
  clear bZ b60
  have c64 : ω62.2 h = .inr (1, [.ref q1, .int (0 : Int32), .ref q11, .int (0 : Int32), .ref q21, .ref q28, .ref q35, .ref q42, .ref q49, .int (0 : Int32), .null, .int (-1 : Int32), .null, .null, .null, .null, .null]) := cZ
  clear cZ
  refine Z_aload_n C dX1_init_86 0 rfl ?_
  refine Z_new (fs := [.null, .int 0]) C hU (ci := 5) rfl (fun _ h => List.mem_cons_of_mem _ (List.mem_append_right _ h)) tyX5_ok (List.mem_of_getElem? (i := 18) rfl) (List.mem_of_getElem? (i := 19) rfl) (List.mem_of_getElem? (i := 20) rfl) dfX5 (Nat.le_of_ble_eq_true rfl) (Nat.le_of_ble_eq_true rfl) dX1_init_87 (fun q65 hq65 => ?_)
  show PR M 90 [(0, .ref h)] [.ref q65, .ref h] (rnew ω62 q65 (.inr (5, [.null, .int 0]))) (8, 62)
  refine Z_dup C dX1_init_90 rfl ?_
  refine Z_bipush C dX1_init_91 (v := (18 : Int32)) (by decide +kernel) ?_
  refine Z_ci (rc0 := (rmr 1 (0 + 1) (0 + 18))) (Qk := NB (mV M) 18 (rnew ω62 q65 (.inr (5, [.null, .int 0]))) q65) (b := q65) (As := [.int (18 : Int32)]) C ki_X1_init_X5_init_55  rfl (Nat.le_of_ble_eq_true rfl) dX1_init_93 ⟨Nat.le_of_ble_eq_true rfl, Nat.le_of_ble_eq_true rfl⟩ (k_X5_init hU (List.mem_append_right _ (List.mem_singleton.mpr rfl)) (va_up_self _ _ _) (by decide +kernel) rfl (by decide +kernel)) (fun ω66 bZ => ?_)
  obtain ⟨q67, bZ, cZ⟩ := bZ
  obtain ⟨bZ, eZ⟩ := BT_call b63 hq65 bZ cZ
  have b68 := bZ
  clear bZ b63
  have c69 := eZ.trans c64
  clear cZ eZ
  show PR M 96 [(0, .ref h)] [.ref q65, .ref h] ω66 (9, 80)
  refine Y_putF C hI pf_X1_init_58 b68 c69 rfl rfl (Nat.le_of_ble_eq_true rfl) dX1_init_96 (fun ω70 bZ cZ => ?_)
  have b71 := bZ
  clear bZ b68
  have c72 : ω70.2 h = .inr (1, [.ref q1, .int (0 : Int32), .ref q11, .int (0 : Int32), .ref q21, .ref q28, .ref q35, .ref q42, .ref q49, .int (0 : Int32), .null, .int (-1 : Int32), .ref q65, .null, .null, .null, .null]) := cZ
  clear cZ
  refine Z_aload_n C dX1_init_99 0 rfl ?_
  refine Z_new (fs := [.null, .int 0]) C hU (ci := 5) rfl (fun _ h => List.mem_cons_of_mem _ (List.mem_append_right _ h)) tyX5_ok (List.mem_of_getElem? (i := 18) rfl) (List.mem_of_getElem? (i := 19) rfl) (List.mem_of_getElem? (i := 20) rfl) dfX5 (Nat.le_of_ble_eq_true rfl) (Nat.le_of_ble_eq_true rfl) dX1_init_100 (fun q73 hq73 => ?_)
  show PR M 103 [(0, .ref h)] [.ref q73, .ref h] (rnew ω70 q73 (.inr (5, [.null, .int 0]))) (10, 82)
  refine Z_dup C dX1_init_103 rfl ?_
  refine Z_bipush C dX1_init_104 (v := (10 : Int32)) (by decide +kernel) ?_
  refine Z_ci (rc0 := (rmr 1 (0 + 1) (0 + 10))) (Qk := NB (mV M) 10 (rnew ω70 q73 (.inr (5, [.null, .int 0]))) q73) (b := q73) (As := [.int (10 : Int32)]) C ki_X1_init_X5_init_55  rfl (Nat.le_of_ble_eq_true rfl) dX1_init_106 ⟨Nat.le_of_ble_eq_true rfl, Nat.le_of_ble_eq_true rfl⟩ (k_X5_init hU (List.mem_append_right _ (List.mem_singleton.mpr rfl)) (va_up_self _ _ _) (by decide +kernel) rfl (by decide +kernel)) (fun ω74 bZ => ?_)
  obtain ⟨q75, bZ, cZ⟩ := bZ
  obtain ⟨bZ, eZ⟩ := BT_call b71 hq73 bZ cZ
  have b76 := bZ
  clear bZ b71
  have c77 := eZ.trans c72
  clear cZ eZ
  show PR M 109 [(0, .ref h)] [.ref q73, .ref h] ω74 (11, 92)
  refine Y_putF C hI pf_X1_init_62 b76 c77 rfl rfl (Nat.le_of_ble_eq_true rfl) dX1_init_109 (fun ω78 bZ cZ => ?_)
  have b79 := bZ
  clear bZ b76
  have c80 : ω78.2 h = .inr (1, [.ref q1, .int (0 : Int32), .ref q11, .int (0 : Int32), .ref q21, .ref q28, .ref q35, .ref q42, .ref q49, .int (0 : Int32), .null, .int (-1 : Int32), .ref q65, .ref q73, .null, .null, .null]) := cZ
  clear cZ
  refine Z_aload_n C dX1_init_112 0 rfl ?_
  refine Z_new (fs := [.null, .int 0]) C hU (ci := 5) rfl (fun _ h => List.mem_cons_of_mem _ (List.mem_append_right _ h)) tyX5_ok (List.mem_of_getElem? (i := 18) rfl) (List.mem_of_getElem? (i := 19) rfl) (List.mem_of_getElem? (i := 20) rfl) dfX5 (Nat.le_of_ble_eq_true rfl) (Nat.le_of_ble_eq_true rfl) dX1_init_113 (fun q81 hq81 => ?_)
  show PR M 116 [(0, .ref h)] [.ref q81, .ref h] (rnew ω78 q81 (.inr (5, [.null, .int 0]))) (12, 94)
  refine Z_dup C dX1_init_116 rfl ?_
  refine Z_bipush C dX1_init_117 (v := (8 : Int32)) (by decide +kernel) ?_
  refine Z_ci (rc0 := (rmr 1 (0 + 1) (0 + 8))) (Qk := NB (mV M) 8 (rnew ω78 q81 (.inr (5, [.null, .int 0]))) q81) (b := q81) (As := [.int (8 : Int32)]) C ki_X1_init_X5_init_55  rfl (Nat.le_of_ble_eq_true rfl) dX1_init_119 ⟨Nat.le_of_ble_eq_true rfl, Nat.le_of_ble_eq_true rfl⟩ (k_X5_init hU (List.mem_append_right _ (List.mem_singleton.mpr rfl)) (va_up_self _ _ _) (by decide +kernel) rfl (by decide +kernel)) (fun ω82 bZ => ?_)
  obtain ⟨q83, bZ, cZ⟩ := bZ
  obtain ⟨bZ, eZ⟩ := BT_call b79 hq81 bZ cZ
  have b84 := bZ
  clear bZ b79
  have c85 := eZ.trans c80
  clear cZ eZ
  show PR M 122 [(0, .ref h)] [.ref q81, .ref h] ω82 (13, 102)
  refine Y_putF C hI pf_X1_init_65 b84 c85 rfl rfl (Nat.le_of_ble_eq_true rfl) dX1_init_122 (fun ω86 bZ cZ => ?_)
  have b87 := bZ
  clear bZ b84
  have c88 : ω86.2 h = .inr (1, [.ref q1, .int (0 : Int32), .ref q11, .int (0 : Int32), .ref q21, .ref q28, .ref q35, .ref q42, .ref q49, .int (0 : Int32), .null, .int (-1 : Int32), .ref q65, .ref q73, .ref q81, .null, .null]) := cZ
  clear cZ
  refine Z_aload_n C dX1_init_125 0 rfl ?_
  refine Z_bipush C dX1_init_126 (v := (6 : Int32)) (by decide +kernel) ?_
  refine Y_newa (t := 0) (a0 := (6, .inl (fun _ => 0))) C hU b87 (List.mem_of_getElem? (i := 7) rfl) rfl rfl (fun _ _ q => q) (fun _ => rfl) (by decide +kernel) rfl (by decide +kernel) (Nat.le_of_ble_eq_true rfl) (Nat.le_of_ble_eq_true rfl) dX1_init_128 (fun q89 ω90 bZ eZ => ?_)
  have b91 := bZ
  clear bZ b87
  have cZ := eZ.trans c88
  have c92 := cZ
  clear cZ eZ
  show PR M 130 [(0, .ref h)] [.ref q89, .ref h] ω90 (14, 108)
  refine Y_putF C hI pf_X1_init_68 b91 c92 rfl rfl (Nat.le_of_ble_eq_true rfl) dX1_init_130 (fun ω93 bZ cZ => ?_)
  have b94 := bZ
  clear bZ b91
  have c95 : ω93.2 h = .inr (1, [.ref q1, .int (0 : Int32), .ref q11, .int (0 : Int32), .ref q21, .ref q28, .ref q35, .ref q42, .ref q49, .int (0 : Int32), .null, .int (-1 : Int32), .ref q65, .ref q73, .ref q81, .ref q89, .null]) := cZ
  clear cZ
  refine Z_aload_n C dX1_init_133 0 rfl ?_
  refine Z_bipush C dX1_init_134 (v := (6 : Int32)) (by decide +kernel) ?_
  refine Y_newa (t := 0) (a0 := (6, .inl (fun _ => 0))) C hU b94 (List.mem_of_getElem? (i := 7) rfl) rfl rfl (fun _ _ q => q) (fun _ => rfl) (by decide +kernel) rfl (by decide +kernel) (Nat.le_of_ble_eq_true rfl) (Nat.le_of_ble_eq_true rfl) dX1_init_136 (fun q96 ω97 bZ eZ => ?_)
  have b98 := bZ
  clear bZ b94
  have cZ := eZ.trans c95
  have c99 := cZ
  clear cZ eZ
  show PR M 138 [(0, .ref h)] [.ref q96, .ref h] ω97 (15, 114)
  refine Y_putF C hI pf_X1_init_71 b98 c99 rfl rfl (Nat.le_of_ble_eq_true rfl) dX1_init_138 (fun ω100 bZ cZ => ?_)
  have b101 := bZ
  clear bZ b98
  have c102 : ω100.2 h = .inr (1, [.ref q1, .int (0 : Int32), .ref q11, .int (0 : Int32), .ref q21, .ref q28, .ref q35, .ref q42, .ref q49, .int (0 : Int32), .null, .int (-1 : Int32), .ref q65, .ref q73, .ref q81, .ref q89, .ref q96]) := cZ
  clear cZ
  exact Z_vret C dX1_init_141 ⟨q1, q11, q21, q28, q35, q42, q49, q65, q67, q73, q75, q81, q83, q89, q96, b101, c102⟩
