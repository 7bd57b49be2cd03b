set_option maxRecDepth 100000 in
set_option maxHeartbeats 4000000 in
theorem k_X11_on {l : Launch} {V : Vx} {a1 : Int32} {a2 : Int32} {σ0 : Sg} {Qk : Int32 → Sg → Prop} (m0 : XI V σ0) (nn_1 : NN σ0 1) (pre0 : (gi σ0 1 9).toInt ≤ 9999) (h9ret : ∀ (r : Int32) (σ' : Sg), XI V σ' → FX (fun id => id = 34 ∨ id = 35 ∨ id = 36 ∨ id = 37 ∨ id = 38 ∨ id = 39 ∨ id = 40 ∨ id = 47 ∨ id = 48) (fun id k => (id = 33 ∧ k = 1) ∨ (id = 33 ∧ k = 3) ∨ (id = 33 ∧ k = 9) ∨ (id = 33 ∧ k = 10) ∨ (id = 33 ∧ k = 11)) σ0 σ' → (NN σ' 1) → Qk r σ') : K_X11_on l V a1 a2 σ0 Qk := by
  refine e_X11_on (fun M hl hV hN C => ?_)
  subst hl
  subst hV
  have T : ∀ n : Nat, (∀ (x1 : Int32) (x2 : Int32) (z0 : Int32) (σ : Sg), XI (mV M) σ → FX (fun id => id = 34 ∨ id = 35 ∨ id = 36 ∨ id = 37 ∨ id = 38 ∨ id = 39 ∨ id = 40 ∨ id = 47 ∨ id = 48) (fun id k => (id = 33 ∧ k = 1) ∨ (id = 33 ∧ k = 3) ∨ (id = 33 ∧ k = 9) ∨ (id = 33 ∧ k = 10) ∨ (id = 33 ∧ k = 11)) σ0 σ → NN σ 1 → (z0.toInt = 0 ∨ (10 ≤ x2.toInt ∧ x2.toInt < 10 + (gi σ 1 1).toInt)) → 3 < n → PS M 22 [(0, .ref 0), (1, .int x1), (2, .int x2)] [.int z0] σ (0, 0)) ∧ (∀ (x1 : Int32) (x2 : Int32) (x3 : Int32) (z0 : Int32) (σ : Sg), XI (mV M) σ → FX (fun id => id = 34 ∨ id = 35 ∨ id = 36 ∨ id = 37 ∨ id = 38 ∨ id = 39 ∨ id = 40 ∨ id = 47 ∨ id = 48) (fun id k => (id = 33 ∧ k = 1) ∨ (id = 33 ∧ k = 3) ∨ (id = 33 ∧ k = 9) ∨ (id = 33 ∧ k = 10) ∨ (id = 33 ∧ k = 11)) σ0 σ → NN σ 1 → (x3.toInt = 0 ∨ (10 ≤ x2.toInt ∧ x2.toInt < 10 + (gi σ 1 1).toInt)) → (z0.toInt = 0 ∨ (20 ≤ x2.toInt ∧ x2.toInt < 20 + (gi σ 1 1).toInt)) → 2 < n → PS M 45 [(0, .ref 0), (1, .int x1), (2, .int x2), (3, .int x3)] [.int z0] σ (0, 0)) ∧ (∀ (x1 : Int32) (x2 : Int32) (x3 : Int32) (x4 : Int32) (σ : Sg), XI (mV M) σ → FX (fun id => id = 34 ∨ id = 35 ∨ id = 36 ∨ id = 37 ∨ id = 38 ∨ id = 39 ∨ id = 40 ∨ id = 47 ∨ id = 48) (fun id k => (id = 33 ∧ k = 1) ∨ (id = 33 ∧ k = 3) ∨ (id = 33 ∧ k = 9) ∨ (id = 33 ∧ k = 10) ∨ (id = 33 ∧ k = 11)) σ0 σ → NN σ 1 → (x3.toInt = 0 ∨ (10 ≤ x2.toInt ∧ x2.toInt < 10 + (gi σ 1 1).toInt)) → (x4.toInt = 0 ∨ (20 ≤ x2.toInt ∧ x2.toInt < 20 + (gi σ 1 1).toInt)) → 1 < n → PS M 62 [(0, .ref 0), (1, .int x1), (2, .int x2), (3, .int x3), (4, .int x4)] [] σ (0, 0)) := by
    intro n
    induction n with
    | zero => exact ⟨fun _ _ _ _ _ _ _ _ h8 => absurd h8 (Nat.not_lt_zero _), fun _ _ _ _ _ _ _ _ _ _ h8 => absurd h8 (Nat.not_lt_zero _), fun _ _ _ _ _ _ _ _ _ _ h8 => absurd h8 (Nat.not_lt_zero _)⟩
    | succ n ih =>
      obtain ⟨ih22, ih45, ih62⟩ := ih
      refine ⟨?_, ?_, ?_⟩
      · intro x1 x2 z0 σ mσ fσ nσ_1 i0 hmu
        have k_1 : (gi σ 1 1).toInt = (gi σ0 1 1).toInt := congrArg Int32.toInt (FX_i fσ (show ¬ (1 = 34 ∨ 1 = 35 ∨ 1 = 36 ∨ 1 = 37 ∨ 1 = 38 ∨ 1 = 39 ∨ 1 = 40 ∨ 1 = 47 ∨ 1 = 48) from by omega) (show ¬ ((1 = 33 ∧ 1 = 1) ∨ (1 = 33 ∧ 1 = 3) ∨ (1 = 33 ∧ 1 = 9) ∨ (1 = 33 ∧ 1 = 10) ∨ (1 = 33 ∧ 1 = 11)) from by omega))
        have t_2 := XI_c1 mσ (id := 1) (k := 1) (lim_C0_1 (Or.inl rfl))
        have k_3 : (gi σ 1 9).toInt = (gi σ0 1 9).toInt := congrArg Int32.toInt (FX_i fσ (show ¬ (1 = 34 ∨ 1 = 35 ∨ 1 = 36 ∨ 1 = 37 ∨ 1 = 38 ∨ 1 = 39 ∨ 1 = 40 ∨ 1 = 47 ∨ 1 = 48) from by omega) (show ¬ ((1 = 33 ∧ 9 = 1) ∨ (1 = 33 ∧ 9 = 3) ∨ (1 = 33 ∧ 9 = 9) ∨ (1 = 33 ∧ 9 = 10) ∨ (1 = 33 ∧ 9 = 11)) from by omega))
        have t_4 := XI_c1 mσ (id := 1) (k := 9) (lim_C0_9 (Or.inl rfl))
        refine s_X11_on_22 C hN  ?_
        refine ⟨?_, ?_⟩
        · intro q_5
          have w_6 := Int32.toInt_lt x2
          have w_7 := Int32.le_toInt x2
          have b_8 : x2.toInt < 20 := Int32.lt_iff_toInt_lt.mp q_5
          have w_9 := Int32.toInt_lt x1
          have w_10 := Int32.le_toInt x1
          have w_11 := Int32.toInt_lt z0
          have w_12 := Int32.le_toInt z0
          have z_13 : (0 : Int32).toInt = 0 := rfl
          exact ih45 x1 x2 z0 (0 : Int32) σ mσ fσ nσ_1 (by first | omega | assumption | rfl) (by first | omega | assumption | rfl) (by omega)
        · intro q_5
          have w_14 := Int32.toInt_lt x2
          have w_15 := Int32.le_toInt x2
          have b_16 : ¬ x2.toInt < 20 := fun h9 => q_5 (Int32.lt_iff_toInt_lt.mpr h9)
          try have t_17 : (x2 - (20 : Int32)).toInt = x2.toInt - 20 := i_sub (x := x2) (y := (20 : Int32)) (by show (_ : Int) ≤ x2.toInt - 20; omega) (by show x2.toInt - 20 ≤ (_ : Int); omega)
          refine k_X11_isMower  mσ   (fun r3 σ2 mσ2 cσ2 plσ2 phσ2 (pσ2_0 : (r3.toInt = 1 ∧ 0 ≤ (x2 - (20 : Int32)).toInt ∧ (x2 - (20 : Int32)).toInt < (gi σ 1 1).toInt) ∨ (r3.toInt = 0 ∧ ((x2 - (20 : Int32)).toInt < 0 ∨ (gi σ 1 1).toInt ≤ (x2 - (20 : Int32)).toInt))) => ?_)
          obtain rfl := FX_nil cσ2
          refine ⟨?_, ?_⟩
          · intro q_18
            have b_19 : r3.toInt = 0 := congrArg Int32.toInt q_18
            have w_20 := Int32.toInt_lt x1
            have w_21 := Int32.le_toInt x1
            have w_22 := Int32.toInt_lt z0
            have w_23 := Int32.le_toInt z0
            have z_24 : (0 : Int32).toInt = 0 := rfl
            exact ih45 x1 x2 z0 (0 : Int32) σ mσ fσ nσ_1 (by first | omega | assumption | rfl) (by first | omega | assumption | rfl) (by omega)
          · intro q_18
            have b_25 : ¬ r3.toInt = 0 := fun h9 => q_18 (Int32.toInt_inj.mp h9)
            have w_26 := Int32.toInt_lt x1
            have w_27 := Int32.le_toInt x1
            have w_28 := Int32.toInt_lt z0
            have w_29 := Int32.le_toInt z0
            have z_30 : (1 : Int32).toInt = 1 := rfl
            exact ih45 x1 x2 z0 (1 : Int32) σ mσ fσ nσ_1 (by first | omega | assumption | rfl) (by first | omega | assumption | rfl) (by omega)
      · intro x1 x2 x3 z0 σ mσ fσ nσ_1 i0 i1 hmu
        have k_31 : (gi σ 1 1).toInt = (gi σ0 1 1).toInt := congrArg Int32.toInt (FX_i fσ (show ¬ (1 = 34 ∨ 1 = 35 ∨ 1 = 36 ∨ 1 = 37 ∨ 1 = 38 ∨ 1 = 39 ∨ 1 = 40 ∨ 1 = 47 ∨ 1 = 48) from by omega) (show ¬ ((1 = 33 ∧ 1 = 1) ∨ (1 = 33 ∧ 1 = 3) ∨ (1 = 33 ∧ 1 = 9) ∨ (1 = 33 ∧ 1 = 10) ∨ (1 = 33 ∧ 1 = 11)) from by omega))
        have t_32 := XI_c1 mσ (id := 1) (k := 1) (lim_C0_1 (Or.inl rfl))
        have k_33 : (gi σ 1 9).toInt = (gi σ0 1 9).toInt := congrArg Int32.toInt (FX_i fσ (show ¬ (1 = 34 ∨ 1 = 35 ∨ 1 = 36 ∨ 1 = 37 ∨ 1 = 38 ∨ 1 = 39 ∨ 1 = 40 ∨ 1 = 47 ∨ 1 = 48) from by omega) (show ¬ ((1 = 33 ∧ 9 = 1) ∨ (1 = 33 ∧ 9 = 3) ∨ (1 = 33 ∧ 9 = 9) ∨ (1 = 33 ∧ 9 = 10) ∨ (1 = 33 ∧ 9 = 11)) from by omega))
        have t_34 := XI_c1 mσ (id := 1) (k := 9) (lim_C0_9 (Or.inl rfl))
        refine s_X11_on_45 C hN  ?_
        refine ⟨?_, ?_⟩
        · intro q_35
          have w_36 := Int32.toInt_lt x2
          have w_37 := Int32.le_toInt x2
          have b_38 : x2.toInt = 0 := congrArg Int32.toInt q_35
          have w_39 := Int32.toInt_lt x1
          have w_40 := Int32.le_toInt x1
          have w_41 := Int32.toInt_lt x3
          have w_42 := Int32.le_toInt x3
          have w_43 := Int32.toInt_lt z0
          have w_44 := Int32.le_toInt z0
          exact ih62 x1 x2 x3 z0 σ mσ fσ nσ_1 (by first | omega | assumption | rfl) (by first | omega | assumption | rfl) (by omega)
        · intro q_35
          have w_45 := Int32.toInt_lt x2
          have w_46 := Int32.le_toInt x2
          have b_47 : ¬ x2.toInt = 0 := fun h9 => q_35 (Int32.toInt_inj.mp h9)
          refine ⟨?_, ?_⟩
          · intro q_48
            have w_49 := Int32.toInt_lt x3
            have w_50 := Int32.le_toInt x3
            have b_51 : ¬ x3.toInt = 0 := fun h9 => q_48 (Int32.toInt_inj.mp h9)
            have w_52 := Int32.toInt_lt x1
            have w_53 := Int32.le_toInt x1
            have w_54 := Int32.toInt_lt z0
            have w_55 := Int32.le_toInt z0
            exact ih62 x1 x2 x3 z0 σ mσ fσ nσ_1 (by first | omega | assumption | rfl) (by first | omega | assumption | rfl) (by omega)
          · intro q_48
            have w_56 := Int32.toInt_lt x3
            have w_57 := Int32.le_toInt x3
            have b_58 : x3.toInt = 0 := congrArg Int32.toInt q_48
            refine ⟨?_, ?_⟩
            · intro q_59
              have w_60 := Int32.toInt_lt z0
              have w_61 := Int32.le_toInt z0
              have b_62 : ¬ z0.toInt = 0 := fun h9 => q_59 (Int32.toInt_inj.mp h9)
              have w_63 := Int32.toInt_lt x1
              have w_64 := Int32.le_toInt x1
              exact ih62 x1 x2 x3 z0 σ mσ fσ nσ_1 (by first | omega | assumption | rfl) (by first | omega | assumption | rfl) (by omega)
            · intro q_59
              have w_65 := Int32.toInt_lt z0
              have w_66 := Int32.le_toInt z0
              have b_67 : z0.toInt = 0 := congrArg Int32.toInt q_59
              have z_68 : (-1 : Int32).toInt = -1 := rfl
              exact h9ret (-1 : Int32) σ mσ fσ nσ_1
      · intro x1 x2 x3 x4 σ mσ fσ nσ_1 i0 i1 hmu
        have k_69 : (gi σ 1 1).toInt = (gi σ0 1 1).toInt := congrArg Int32.toInt (FX_i fσ (show ¬ (1 = 34 ∨ 1 = 35 ∨ 1 = 36 ∨ 1 = 37 ∨ 1 = 38 ∨ 1 = 39 ∨ 1 = 40 ∨ 1 = 47 ∨ 1 = 48) from by omega) (show ¬ ((1 = 33 ∧ 1 = 1) ∨ (1 = 33 ∧ 1 = 3) ∨ (1 = 33 ∧ 1 = 9) ∨ (1 = 33 ∧ 1 = 10) ∨ (1 = 33 ∧ 1 = 11)) from by omega))
        have t_70 := XI_c1 mσ (id := 1) (k := 1) (lim_C0_1 (Or.inl rfl))
        have k_71 : (gi σ 1 9).toInt = (gi σ0 1 9).toInt := congrArg Int32.toInt (FX_i fσ (show ¬ (1 = 34 ∨ 1 = 35 ∨ 1 = 36 ∨ 1 = 37 ∨ 1 = 38 ∨ 1 = 39 ∨ 1 = 40 ∨ 1 = 47 ∨ 1 = 48) from by omega) (show ¬ ((1 = 33 ∧ 9 = 1) ∨ (1 = 33 ∧ 9 = 3) ∨ (1 = 33 ∧ 9 = 9) ∨ (1 = 33 ∧ 9 = 10) ∨ (1 = 33 ∧ 9 = 11)) from by omega))
        have t_72 := XI_c1 mσ (id := 1) (k := 9) (lim_C0_9 (Or.inl rfl))
        refine s_X11_on_62 C hN  ?_
        refine ⟨?_, ?_⟩
        · intro q_73
          have w_74 := Int32.toInt_lt x1
          have w_75 := Int32.le_toInt x1
          have b_76 : x1.toInt < 0 := Int32.lt_iff_toInt_lt.mp q_73
          have z_77 : (-2 : Int32).toInt = -2 := rfl
          exact h9ret (-2 : Int32) σ mσ fσ nσ_1
        · intro q_73
          have w_78 := Int32.toInt_lt x1
          have w_79 := Int32.le_toInt x1
          have b_80 : ¬ x1.toInt < 0 := fun h9 => q_73 (Int32.lt_iff_toInt_lt.mpr h9)
          refine ⟨?_, ?_⟩
          · intro q_81
            have b_82 : x1.toInt ≤ 60 := Int32.le_iff_toInt_le.mp q_81
            have z_83 : (1 : Int32).toInt = 1 := rfl
            refine k_X1_becomes (Or.inr (Or.inr rfl)) (Or.inl rfl) mσ nσ_1 (by first | omega | assumption | rfl) (fun σ3 mσ3 cσ3 nσ3_1 nσ3_33 (pσ3_0 : (gi σ3 33 1).toInt = (gi σ 1 1).toInt) (pσ3_1 : (gi σ3 33 3).toInt = (gi σ 1 3).toInt) (pσ3_2 : (gi σ3 33 9).toInt = (gi σ 1 9).toInt) (pσ3_3 : CPY σ σ3 33 1) => ?_)
            have fσ3 : FX (fun id => id = 34 ∨ id = 35 ∨ id = 36 ∨ id = 37 ∨ id = 38 ∨ id = 39 ∨ id = 40 ∨ id = 47 ∨ id = 48) (fun id k => (id = 33 ∧ k = 1) ∨ (id = 33 ∧ k = 3) ∨ (id = 33 ∧ k = 9) ∨ (id = 33 ∧ k = 10) ∨ (id = 33 ∧ k = 11)) σ0 σ3 := FX_tr fσ cσ3 (fun x (h9 : x = 34 ∨ x = 35 ∨ x = 36 ∨ x = 37 ∨ x = 38 ∨ x = 39 ∨ x = 40) => h9.elim (fun e9 => (show x = 34 ∨ x = 35 ∨ x = 36 ∨ x = 37 ∨ x = 38 ∨ x = 39 ∨ x = 40 ∨ x = 47 ∨ x = 48 from Or.inl (e9))) (fun h9 => h9.elim (fun e9 => (show x = 34 ∨ x = 35 ∨ x = 36 ∨ x = 37 ∨ x = 38 ∨ x = 39 ∨ x = 40 ∨ x = 47 ∨ x = 48 from Or.inr (Or.inl (e9)))) (fun h9 => h9.elim (fun e9 => (show x = 34 ∨ x = 35 ∨ x = 36 ∨ x = 37 ∨ x = 38 ∨ x = 39 ∨ x = 40 ∨ x = 47 ∨ x = 48 from Or.inr (Or.inr (Or.inl (e9))))) (fun h9 => h9.elim (fun e9 => (show x = 34 ∨ x = 35 ∨ x = 36 ∨ x = 37 ∨ x = 38 ∨ x = 39 ∨ x = 40 ∨ x = 47 ∨ x = 48 from Or.inr (Or.inr (Or.inr (Or.inl (e9)))))) (fun h9 => h9.elim (fun e9 => (show x = 34 ∨ x = 35 ∨ x = 36 ∨ x = 37 ∨ x = 38 ∨ x = 39 ∨ x = 40 ∨ x = 47 ∨ x = 48 from Or.inr (Or.inr (Or.inr (Or.inr (Or.inl (e9))))))) (fun h9 => h9.elim (fun e9 => (show x = 34 ∨ x = 35 ∨ x = 36 ∨ x = 37 ∨ x = 38 ∨ x = 39 ∨ x = 40 ∨ x = 47 ∨ x = 48 from Or.inr (Or.inr (Or.inr (Or.inr (Or.inr (Or.inl (e9)))))))) (fun h9 => (show x = 34 ∨ x = 35 ∨ x = 36 ∨ x = 37 ∨ x = 38 ∨ x = 39 ∨ x = 40 ∨ x = 47 ∨ x = 48 from Or.inr (Or.inr (Or.inr (Or.inr (Or.inr (Or.inr (Or.inl (h9))))))))))))))) (fun x k (h9 : (x = 33 ∧ k = 1) ∨ (x = 33 ∧ k = 3) ∨ (x = 33 ∧ k = 9) ∨ (x = 33 ∧ k = 10) ∨ (x = 33 ∧ k = 11)) => (show (x = 34 ∨ x = 35 ∨ x = 36 ∨ x = 37 ∨ x = 38 ∨ x = 39 ∨ x = 40 ∨ x = 47 ∨ x = 48) ∨ ((x = 33 ∧ k = 1) ∨ (x = 33 ∧ k = 3) ∨ (x = 33 ∧ k = 9) ∨ (x = 33 ∧ k = 10) ∨ (x = 33 ∧ k = 11)) from h9.elim (fun e9 => Or.inr (show (x = 33 ∧ k = 1) ∨ (x = 33 ∧ k = 3) ∨ (x = 33 ∧ k = 9) ∨ (x = 33 ∧ k = 10) ∨ (x = 33 ∧ k = 11) from Or.inl (e9))) (fun h9 => h9.elim (fun e9 => Or.inr (show (x = 33 ∧ k = 1) ∨ (x = 33 ∧ k = 3) ∨ (x = 33 ∧ k = 9) ∨ (x = 33 ∧ k = 10) ∨ (x = 33 ∧ k = 11) from Or.inr (Or.inl (e9)))) (fun h9 => h9.elim (fun e9 => Or.inr (show (x = 33 ∧ k = 1) ∨ (x = 33 ∧ k = 3) ∨ (x = 33 ∧ k = 9) ∨ (x = 33 ∧ k = 10) ∨ (x = 33 ∧ k = 11) from Or.inr (Or.inr (Or.inl (e9))))) (fun h9 => h9.elim (fun e9 => Or.inr (show (x = 33 ∧ k = 1) ∨ (x = 33 ∧ k = 3) ∨ (x = 33 ∧ k = 9) ∨ (x = 33 ∧ k = 10) ∨ (x = 33 ∧ k = 11) from Or.inr (Or.inr (Or.inr (Or.inl (e9)))))) (fun h9 => Or.inr (show (x = 33 ∧ k = 1) ∨ (x = 33 ∧ k = 3) ∨ (x = 33 ∧ k = 9) ∨ (x = 33 ∧ k = 10) ∨ (x = 33 ∧ k = 11) from Or.inr (Or.inr (Or.inr (Or.inr (h9)))))))))))
            have k_84 : (gi σ3 1 1).toInt = (gi σ 1 1).toInt := congrArg Int32.toInt (FX_i cσ3 (show ¬ (1 = 34 ∨ 1 = 35 ∨ 1 = 36 ∨ 1 = 37 ∨ 1 = 38 ∨ 1 = 39 ∨ 1 = 40) from by omega) (show ¬ ((1 = 33 ∧ 1 = 1) ∨ (1 = 33 ∧ 1 = 3) ∨ (1 = 33 ∧ 1 = 9) ∨ (1 = 33 ∧ 1 = 10) ∨ (1 = 33 ∧ 1 = 11)) from by omega))
            have k_85 : (gi σ3 1 9).toInt = (gi σ 1 9).toInt := congrArg Int32.toInt (FX_i cσ3 (show ¬ (1 = 34 ∨ 1 = 35 ∨ 1 = 36 ∨ 1 = 37 ∨ 1 = 38 ∨ 1 = 39 ∨ 1 = 40) from by omega) (show ¬ ((1 = 33 ∧ 9 = 1) ∨ (1 = 33 ∧ 9 = 3) ∨ (1 = 33 ∧ 9 = 9) ∨ (1 = 33 ∧ 9 = 10) ∨ (1 = 33 ∧ 9 = 11)) from by omega))
            refine ⟨?_, ?_⟩
            · intro q_86
              have w_87 := Int32.toInt_lt x4
              have w_88 := Int32.le_toInt x4
              have b_89 : x4.toInt = 0 := congrArg Int32.toInt q_86
              refine k_X1_goes (Or.inr (Or.inr rfl)) mσ3 nσ3_33 (by omega) (by omega) (by first | omega | assumption | rfl) (fun σ5 mσ5 cσ5 nσ5_33 (pσ5_0 : (gi σ5 33 9).toInt = (gi σ3 33 9).toInt + x1.toInt) => ?_)
              have fσ5 : FX (fun id => id = 34 ∨ id = 35 ∨ id = 36 ∨ id = 37 ∨ id = 38 ∨ id = 39 ∨ id = 40 ∨ id = 47 ∨ id = 48) (fun id k => (id = 33 ∧ k = 1) ∨ (id = 33 ∧ k = 3) ∨ (id = 33 ∧ k = 9) ∨ (id = 33 ∧ k = 10) ∨ (id = 33 ∧ k = 11)) σ0 σ5 := FX_tr fσ3 cσ5 (fun x (h9 : x = 47 ∨ x = 48 ∨ x = 36 ∨ x = 37 ∨ x = 38 ∨ x = 39) => h9.elim (fun e9 => (show x = 34 ∨ x = 35 ∨ x = 36 ∨ x = 37 ∨ x = 38 ∨ x = 39 ∨ x = 40 ∨ x = 47 ∨ x = 48 from Or.inr (Or.inr (Or.inr (Or.inr (Or.inr (Or.inr (Or.inr (Or.inl (e9)))))))))) (fun h9 => h9.elim (fun e9 => (show x = 34 ∨ x = 35 ∨ x = 36 ∨ x = 37 ∨ x = 38 ∨ x = 39 ∨ x = 40 ∨ x = 47 ∨ x = 48 from Or.inr (Or.inr (Or.inr (Or.inr (Or.inr (Or.inr (Or.inr (Or.inr (e9)))))))))) (fun h9 => h9.elim (fun e9 => (show x = 34 ∨ x = 35 ∨ x = 36 ∨ x = 37 ∨ x = 38 ∨ x = 39 ∨ x = 40 ∨ x = 47 ∨ x = 48 from Or.inr (Or.inr (Or.inl (e9))))) (fun h9 => h9.elim (fun e9 => (show x = 34 ∨ x = 35 ∨ x = 36 ∨ x = 37 ∨ x = 38 ∨ x = 39 ∨ x = 40 ∨ x = 47 ∨ x = 48 from Or.inr (Or.inr (Or.inr (Or.inl (e9)))))) (fun h9 => h9.elim (fun e9 => (show x = 34 ∨ x = 35 ∨ x = 36 ∨ x = 37 ∨ x = 38 ∨ x = 39 ∨ x = 40 ∨ x = 47 ∨ x = 48 from Or.inr (Or.inr (Or.inr (Or.inr (Or.inl (e9))))))) (fun h9 => (show x = 34 ∨ x = 35 ∨ x = 36 ∨ x = 37 ∨ x = 38 ∨ x = 39 ∨ x = 40 ∨ x = 47 ∨ x = 48 from Or.inr (Or.inr (Or.inr (Or.inr (Or.inr (Or.inl (h9))))))))))))) (fun x k (h9 : (x = 33 ∧ k = 9)) => (show (x = 34 ∨ x = 35 ∨ x = 36 ∨ x = 37 ∨ x = 38 ∨ x = 39 ∨ x = 40 ∨ x = 47 ∨ x = 48) ∨ ((x = 33 ∧ k = 1) ∨ (x = 33 ∧ k = 3) ∨ (x = 33 ∧ k = 9) ∨ (x = 33 ∧ k = 10) ∨ (x = 33 ∧ k = 11)) from Or.inr (show (x = 33 ∧ k = 1) ∨ (x = 33 ∧ k = 3) ∨ (x = 33 ∧ k = 9) ∨ (x = 33 ∧ k = 10) ∨ (x = 33 ∧ k = 11) from Or.inr (Or.inr (Or.inl (h9))))))
              have k_90 : (gi σ5 1 1).toInt = (gi σ3 1 1).toInt := congrArg Int32.toInt (FX_i cσ5 (show ¬ (1 = 47 ∨ 1 = 48 ∨ 1 = 36 ∨ 1 = 37 ∨ 1 = 38 ∨ 1 = 39) from by omega) (show ¬ ((1 = 33 ∧ 1 = 9)) from by omega))
              have k_91 : (gi σ5 1 9).toInt = (gi σ3 1 9).toInt := congrArg Int32.toInt (FX_i cσ5 (show ¬ (1 = 47 ∨ 1 = 48 ∨ 1 = 36 ∨ 1 = 37 ∨ 1 = 38 ∨ 1 = 39) from by omega) (show ¬ ((1 = 33 ∧ 9 = 9)) from by omega))
              have nσ5_1 : NN σ5 1 := NN_fx nσ3_1 cσ5 (show ¬ (1 = 47 ∨ 1 = 48 ∨ 1 = 36 ∨ 1 = 37 ∨ 1 = 38 ∨ 1 = 39) from by omega) (show ¬ (2 = 47 ∨ 2 = 48 ∨ 2 = 36 ∨ 2 = 37 ∨ 2 = 38 ∨ 2 = 39) from by omega) (show ¬ (3 = 47 ∨ 3 = 48 ∨ 3 = 36 ∨ 3 = 37 ∨ 3 = 38 ∨ 3 = 39) from by omega) (show ¬ ((1 = 33 ∧ 1 = 9)) from by omega) (show ¬ ((1 = 33 ∧ 3 = 9)) from by omega) (fun k (h9 : (2 = 33 ∧ k = 9)) => by omega) (fun k (h9 : (3 = 33 ∧ k = 9)) => by omega)
              refine ⟨?_, ?_⟩
              · intro q_92
                have w_93 := Int32.toInt_lt x3
                have w_94 := Int32.le_toInt x3
                have b_95 : x3.toInt = 0 := congrArg Int32.toInt q_92
                refine k_X1_allAt (Or.inr (Or.inr rfl)) mσ5   (fun r8 σ7 mσ7 cσ7 => ?_)
                obtain rfl := FX_nil cσ7
                have t_96 := XI_c1 mσ5 (id := 1) (k := 1) (lim_C0_1 (Or.inl rfl))
                have t_97 := XI_c1 mσ5 (id := 1) (k := 9) (lim_C0_9 (Or.inl rfl))
                exact h9ret r8 σ5 mσ5 fσ5 nσ5_1
              · intro q_92
                have w_98 := Int32.toInt_lt x3
                have w_99 := Int32.le_toInt x3
                have b_100 : ¬ x3.toInt = 0 := fun h9 => q_92 (Int32.toInt_inj.mp h9)
                have w_101 := Int32.toInt_lt x2
                have w_102 := Int32.le_toInt x2
                try have t_103 : (x2 - (10 : Int32)).toInt = x2.toInt - 10 := i_sub (x := x2) (y := (10 : Int32)) (by show (_ : Int) ≤ x2.toInt - 10; omega) (by show x2.toInt - 10 ≤ (_ : Int); omega)
                have hv_104 : vp_in (x2 - (10 : Int32)) 6 := vp_in_iff.mpr ⟨by omega, by omega⟩
                refine ⟨hv_104, ?_⟩
                exact h9ret (gi σ5 36 (x2 - (10 : Int32)).toNatClampNeg) σ5 mσ5 fσ5 nσ5_1
            · intro q_86
              have w_105 := Int32.toInt_lt x4
              have w_106 := Int32.le_toInt x4
              have b_107 : ¬ x4.toInt = 0 := fun h9 => q_86 (Int32.toInt_inj.mp h9)
              have w_108 := Int32.toInt_lt x2
              have w_109 := Int32.le_toInt x2
              try have t_110 : (x2 - (20 : Int32)).toInt = x2.toInt - 20 := i_sub (x := x2) (y := (20 : Int32)) (by show (_ : Int) ≤ x2.toInt - 20; omega) (by show x2.toInt - 20 ≤ (_ : Int); omega)
              refine k_X11_heldTimes  mσ3 nσ3_33 (by omega) (by omega) (by first | omega | assumption | rfl) (fun r11 σ10 mσ10 cσ10 nσ10_33 => ?_)
              have fσ10 : FX (fun id => id = 34 ∨ id = 35 ∨ id = 36 ∨ id = 37 ∨ id = 38 ∨ id = 39 ∨ id = 40 ∨ id = 47 ∨ id = 48) (fun id k => (id = 33 ∧ k = 1) ∨ (id = 33 ∧ k = 3) ∨ (id = 33 ∧ k = 9) ∨ (id = 33 ∧ k = 10) ∨ (id = 33 ∧ k = 11)) σ0 σ10 := FX_tr fσ3 cσ10 (fun x (h9 : x = 36 ∨ x = 37 ∨ x = 38 ∨ x = 39 ∨ x = 47 ∨ x = 48) => h9.elim (fun e9 => (show x = 34 ∨ x = 35 ∨ x = 36 ∨ x = 37 ∨ x = 38 ∨ x = 39 ∨ x = 40 ∨ x = 47 ∨ x = 48 from Or.inr (Or.inr (Or.inl (e9))))) (fun h9 => h9.elim (fun e9 => (show x = 34 ∨ x = 35 ∨ x = 36 ∨ x = 37 ∨ x = 38 ∨ x = 39 ∨ x = 40 ∨ x = 47 ∨ x = 48 from Or.inr (Or.inr (Or.inr (Or.inl (e9)))))) (fun h9 => h9.elim (fun e9 => (show x = 34 ∨ x = 35 ∨ x = 36 ∨ x = 37 ∨ x = 38 ∨ x = 39 ∨ x = 40 ∨ x = 47 ∨ x = 48 from Or.inr (Or.inr (Or.inr (Or.inr (Or.inl (e9))))))) (fun h9 => h9.elim (fun e9 => (show x = 34 ∨ x = 35 ∨ x = 36 ∨ x = 37 ∨ x = 38 ∨ x = 39 ∨ x = 40 ∨ x = 47 ∨ x = 48 from Or.inr (Or.inr (Or.inr (Or.inr (Or.inr (Or.inl (e9)))))))) (fun h9 => h9.elim (fun e9 => (show x = 34 ∨ x = 35 ∨ x = 36 ∨ x = 37 ∨ x = 38 ∨ x = 39 ∨ x = 40 ∨ x = 47 ∨ x = 48 from Or.inr (Or.inr (Or.inr (Or.inr (Or.inr (Or.inr (Or.inr (Or.inl (e9)))))))))) (fun h9 => (show x = 34 ∨ x = 35 ∨ x = 36 ∨ x = 37 ∨ x = 38 ∨ x = 39 ∨ x = 40 ∨ x = 47 ∨ x = 48 from Or.inr (Or.inr (Or.inr (Or.inr (Or.inr (Or.inr (Or.inr (Or.inr (h9))))))))))))))) (fun x k (h9 : (x = 33 ∧ k = 9)) => (show (x = 34 ∨ x = 35 ∨ x = 36 ∨ x = 37 ∨ x = 38 ∨ x = 39 ∨ x = 40 ∨ x = 47 ∨ x = 48) ∨ ((x = 33 ∧ k = 1) ∨ (x = 33 ∧ k = 3) ∨ (x = 33 ∧ k = 9) ∨ (x = 33 ∧ k = 10) ∨ (x = 33 ∧ k = 11)) from Or.inr (show (x = 33 ∧ k = 1) ∨ (x = 33 ∧ k = 3) ∨ (x = 33 ∧ k = 9) ∨ (x = 33 ∧ k = 10) ∨ (x = 33 ∧ k = 11) from Or.inr (Or.inr (Or.inl (h9))))))
              have k_111 : (gi σ10 1 1).toInt = (gi σ3 1 1).toInt := congrArg Int32.toInt (FX_i cσ10 (show ¬ (1 = 36 ∨ 1 = 37 ∨ 1 = 38 ∨ 1 = 39 ∨ 1 = 47 ∨ 1 = 48) from by omega) (show ¬ ((1 = 33 ∧ 1 = 9)) from by omega))
              have k_112 : (gi σ10 1 9).toInt = (gi σ3 1 9).toInt := congrArg Int32.toInt (FX_i cσ10 (show ¬ (1 = 36 ∨ 1 = 37 ∨ 1 = 38 ∨ 1 = 39 ∨ 1 = 47 ∨ 1 = 48) from by omega) (show ¬ ((1 = 33 ∧ 9 = 9)) from by omega))
              have nσ10_1 : NN σ10 1 := NN_fx nσ3_1 cσ10 (show ¬ (1 = 36 ∨ 1 = 37 ∨ 1 = 38 ∨ 1 = 39 ∨ 1 = 47 ∨ 1 = 48) from by omega) (show ¬ (2 = 36 ∨ 2 = 37 ∨ 2 = 38 ∨ 2 = 39 ∨ 2 = 47 ∨ 2 = 48) from by omega) (show ¬ (3 = 36 ∨ 3 = 37 ∨ 3 = 38 ∨ 3 = 39 ∨ 3 = 47 ∨ 3 = 48) from by omega) (show ¬ ((1 = 33 ∧ 1 = 9)) from by omega) (show ¬ ((1 = 33 ∧ 3 = 9)) from by omega) (fun k (h9 : (2 = 33 ∧ k = 9)) => by omega) (fun k (h9 : (3 = 33 ∧ k = 9)) => by omega)
              exact h9ret r11 σ10 mσ10 fσ10 nσ10_1
          · intro q_81
            have b_113 : ¬ x1.toInt ≤ 60 := fun h9 => q_81 (Int32.le_iff_toInt_le.mpr h9)
            have z_114 : (-2 : Int32).toInt = -2 := rfl
            exact h9ret (-2 : Int32) σ mσ fσ nσ_1
  obtain ⟨U22, U45, U62⟩ := T 9
  have f0 : FX (fun id => id = 34 ∨ id = 35 ∨ id = 36 ∨ id = 37 ∨ id = 38 ∨ id = 39 ∨ id = 40 ∨ id = 47 ∨ id = 48) (fun id k => (id = 33 ∧ k = 1) ∨ (id = 33 ∧ k = 3) ∨ (id = 33 ∧ k = 9) ∨ (id = 33 ∧ k = 10) ∨ (id = 33 ∧ k = 11)) σ0 σ0 := FX_rf
  have t_115 := XI_c1 m0 (id := 1) (k := 1) (lim_C0_1 (Or.inl rfl))
  have t_116 := XI_c1 m0 (id := 1) (k := 9) (lim_C0_9 (Or.inl rfl))
  refine s_X11_on_0 C hN  ?_
  refine ⟨?_, ?_⟩
  · intro q_117
    have w_118 := Int32.toInt_lt a2
    have w_119 := Int32.le_toInt a2
    have b_120 : a2.toInt < 10 := Int32.lt_iff_toInt_lt.mp q_117
    have w_121 := Int32.toInt_lt a1
    have w_122 := Int32.le_toInt a1
    have z_123 : (0 : Int32).toInt = 0 := rfl
    exact U22 a1 a2 (0 : Int32) σ0 m0 f0 nn_1 (by first | omega | assumption | rfl) (by omega)
  · intro q_117
    have w_124 := Int32.toInt_lt a2
    have w_125 := Int32.le_toInt a2
    have b_126 : ¬ a2.toInt < 10 := fun h9 => q_117 (Int32.lt_iff_toInt_lt.mpr h9)
    try have t_127 : (a2 - (10 : Int32)).toInt = a2.toInt - 10 := i_sub (x := a2) (y := (10 : Int32)) (by show (_ : Int) ≤ a2.toInt - 10; omega) (by show a2.toInt - 10 ≤ (_ : Int); omega)
    refine k_X11_isMower  m0   (fun r3 σ2 mσ2 cσ2 plσ2 phσ2 (pσ2_0 : (r3.toInt = 1 ∧ 0 ≤ (a2 - (10 : Int32)).toInt ∧ (a2 - (10 : Int32)).toInt < (gi σ0 1 1).toInt) ∨ (r3.toInt = 0 ∧ ((a2 - (10 : Int32)).toInt < 0 ∨ (gi σ0 1 1).toInt ≤ (a2 - (10 : Int32)).toInt))) => ?_)
    obtain rfl := FX_nil cσ2
    refine ⟨?_, ?_⟩
    · intro q_128
      have b_129 : r3.toInt = 0 := congrArg Int32.toInt q_128
      have w_130 := Int32.toInt_lt a1
      have w_131 := Int32.le_toInt a1
      have z_132 : (0 : Int32).toInt = 0 := rfl
      exact U22 a1 a2 (0 : Int32) σ0 m0 f0 nn_1 (by first | omega | assumption | rfl) (by omega)
    · intro q_128
      have b_133 : ¬ r3.toInt = 0 := fun h9 => q_128 (Int32.toInt_inj.mp h9)
      have w_134 := Int32.toInt_lt a1
      have w_135 := Int32.le_toInt a1
      have z_136 : (1 : Int32).toInt = 1 := rfl
      exact U22 a1 a2 (1 : Int32) σ0 m0 f0 nn_1 (by first | omega | assumption | rfl) (by omega)
set_option maxRecDepth 100000 in
set_option maxHeartbeats 4000000 in
theorem k_X11_done {l : Launch} {V : Vx} {σ0 : Sg} {Qk : Int32 → Sg → Prop} (m0 : XI V σ0) (nn_1 : NN σ0 1) (pre0 : (gi σ0 1 9).toInt ≤ 9999) (h9ret : ∀ (r : Int32) (σ' : Sg), XI V σ' → FX (fun id => id = 34 ∨ id = 35 ∨ id = 36 ∨ id = 37 ∨ id = 38 ∨ id = 39 ∨ id = 40 ∨ id = 47 ∨ id = 48) (fun id k => (id = 33 ∧ k = 1) ∨ (id = 33 ∧ k = 3) ∨ (id = 33 ∧ k = 9) ∨ (id = 33 ∧ k = 10) ∨ (id = 33 ∧ k = 11)) σ0 σ' → (NN σ' 1) → Qk r σ') : K_X11_done l V σ0 Qk := by
  refine e_X11_done (fun M hl hV hN C => ?_)
  subst hl
  subst hV
  have T : ∀ n : Nat, (∀ (x1 : Int32) (σ : Sg), XI (mV M) σ → FX (fun id => id = 34 ∨ id = 35 ∨ id = 36 ∨ id = 37 ∨ id = 38 ∨ id = 39 ∨ id = 40 ∨ id = 47 ∨ id = 48) (fun id k => (id = 33 ∧ k = 1) ∨ (id = 33 ∧ k = 3) ∨ (id = 33 ∧ k = 9) ∨ (id = 33 ∧ k = 10) ∨ (id = 33 ∧ k = 11)) σ0 σ → NN σ 1 → NN σ 33 → (0 ≤ x1.toInt) → (x1.toInt ≤ 121) → ((gi σ 33 9).toInt ≤ 9999 + x1.toInt) → (122 - x1.toInt).toNat < n → PS M 13 [(0, .ref 0), (1, .int x1)] [] σ (0, 0)) := by
    intro n
    induction n with
    | zero => exact fun _ _ _ _ _ _ _ _ _ h8 => absurd h8 (Nat.not_lt_zero _)
    | succ n ih =>
      have ih13 := ih
      · intro x1 σ mσ fσ nσ_1 nσ_33 lx1 ux1 i0 hmu
        have k_1 : (gi σ 1 1).toInt = (gi σ0 1 1).toInt := congrArg Int32.toInt (FX_i fσ (show ¬ (1 = 34 ∨ 1 = 35 ∨ 1 = 36 ∨ 1 = 37 ∨ 1 = 38 ∨ 1 = 39 ∨ 1 = 40 ∨ 1 = 47 ∨ 1 = 48) from by omega) (show ¬ ((1 = 33 ∧ 1 = 1) ∨ (1 = 33 ∧ 1 = 3) ∨ (1 = 33 ∧ 1 = 9) ∨ (1 = 33 ∧ 1 = 10) ∨ (1 = 33 ∧ 1 = 11)) from by omega))
        have t_2 := XI_c1 mσ (id := 1) (k := 1) (lim_C0_1 (Or.inl rfl))
        have k_3 : (gi σ 1 9).toInt = (gi σ0 1 9).toInt := congrArg Int32.toInt (FX_i fσ (show ¬ (1 = 34 ∨ 1 = 35 ∨ 1 = 36 ∨ 1 = 37 ∨ 1 = 38 ∨ 1 = 39 ∨ 1 = 40 ∨ 1 = 47 ∨ 1 = 48) from by omega) (show ¬ ((1 = 33 ∧ 9 = 1) ∨ (1 = 33 ∧ 9 = 3) ∨ (1 = 33 ∧ 9 = 9) ∨ (1 = 33 ∧ 9 = 10) ∨ (1 = 33 ∧ 9 = 11)) from by omega))
        have t_4 := XI_c1 mσ (id := 1) (k := 9) (lim_C0_9 (Or.inl rfl))
        have t_5 := XI_c1 mσ (id := 33) (k := 9) (lim_C0_9 (Or.inr (Or.inr rfl)))
        refine s_X11_done_13 C hN  ?_
        refine ⟨?_, ?_⟩
        · intro q_6
          have b_7 : (120 : Int) < x1.toInt := Int32.lt_iff_toInt_lt.mp q_6
          have z_8 : (-5 : Int32).toInt = -5 := rfl
          exact h9ret (-5 : Int32) σ mσ fσ nσ_1
        · intro q_6
          have b_9 : ¬ (120 : Int) < x1.toInt := fun h9 => q_6 (Int32.lt_iff_toInt_lt.mpr h9)
          refine k_X1_isDone (Or.inr (Or.inr rfl)) mσ   (fun r3 σ2 mσ2 cσ2 plσ2 phσ2 => ?_)
          obtain rfl := FX_nil cσ2
          refine ⟨?_, ?_⟩
          · intro q_10
            have b_11 : r3.toInt = 0 := congrArg Int32.toInt q_10
            refine k_X1_goesMinute (Or.inr (Or.inr rfl)) mσ nσ_33 (by first | omega | assumption | rfl) (fun r6 σ5 mσ5 cσ5 nσ5_33 (pσ5_0 : (gi σ5 33 9).toInt = (gi σ 33 9).toInt + 1) => ?_)
            have fσ5 : FX (fun id => id = 34 ∨ id = 35 ∨ id = 36 ∨ id = 37 ∨ id = 38 ∨ id = 39 ∨ id = 40 ∨ id = 47 ∨ id = 48) (fun id k => (id = 33 ∧ k = 1) ∨ (id = 33 ∧ k = 3) ∨ (id = 33 ∧ k = 9) ∨ (id = 33 ∧ k = 10) ∨ (id = 33 ∧ k = 11)) σ0 σ5 := FX_tr fσ cσ5 (fun x (h9 : x = 47 ∨ x = 48 ∨ x = 36 ∨ x = 37 ∨ x = 38 ∨ x = 39) => h9.elim (fun e9 => (show x = 34 ∨ x = 35 ∨ x = 36 ∨ x = 37 ∨ x = 38 ∨ x = 39 ∨ x = 40 ∨ x = 47 ∨ x = 48 from Or.inr (Or.inr (Or.inr (Or.inr (Or.inr (Or.inr (Or.inr (Or.inl (e9)))))))))) (fun h9 => h9.elim (fun e9 => (show x = 34 ∨ x = 35 ∨ x = 36 ∨ x = 37 ∨ x = 38 ∨ x = 39 ∨ x = 40 ∨ x = 47 ∨ x = 48 from Or.inr (Or.inr (Or.inr (Or.inr (Or.inr (Or.inr (Or.inr (Or.inr (e9)))))))))) (fun h9 => h9.elim (fun e9 => (show x = 34 ∨ x = 35 ∨ x = 36 ∨ x = 37 ∨ x = 38 ∨ x = 39 ∨ x = 40 ∨ x = 47 ∨ x = 48 from Or.inr (Or.inr (Or.inl (e9))))) (fun h9 => h9.elim (fun e9 => (show x = 34 ∨ x = 35 ∨ x = 36 ∨ x = 37 ∨ x = 38 ∨ x = 39 ∨ x = 40 ∨ x = 47 ∨ x = 48 from Or.inr (Or.inr (Or.inr (Or.inl (e9)))))) (fun h9 => h9.elim (fun e9 => (show x = 34 ∨ x = 35 ∨ x = 36 ∨ x = 37 ∨ x = 38 ∨ x = 39 ∨ x = 40 ∨ x = 47 ∨ x = 48 from Or.inr (Or.inr (Or.inr (Or.inr (Or.inl (e9))))))) (fun h9 => (show x = 34 ∨ x = 35 ∨ x = 36 ∨ x = 37 ∨ x = 38 ∨ x = 39 ∨ x = 40 ∨ x = 47 ∨ x = 48 from Or.inr (Or.inr (Or.inr (Or.inr (Or.inr (Or.inl (h9))))))))))))) (fun x k (h9 : (x = 33 ∧ k = 9)) => (show (x = 34 ∨ x = 35 ∨ x = 36 ∨ x = 37 ∨ x = 38 ∨ x = 39 ∨ x = 40 ∨ x = 47 ∨ x = 48) ∨ ((x = 33 ∧ k = 1) ∨ (x = 33 ∧ k = 3) ∨ (x = 33 ∧ k = 9) ∨ (x = 33 ∧ k = 10) ∨ (x = 33 ∧ k = 11)) from Or.inr (show (x = 33 ∧ k = 1) ∨ (x = 33 ∧ k = 3) ∨ (x = 33 ∧ k = 9) ∨ (x = 33 ∧ k = 10) ∨ (x = 33 ∧ k = 11) from Or.inr (Or.inr (Or.inl (h9))))))
            have k_12 : (gi σ5 1 1).toInt = (gi σ 1 1).toInt := congrArg Int32.toInt (FX_i cσ5 (show ¬ (1 = 47 ∨ 1 = 48 ∨ 1 = 36 ∨ 1 = 37 ∨ 1 = 38 ∨ 1 = 39) from by omega) (show ¬ ((1 = 33 ∧ 1 = 9)) from by omega))
            have k_13 : (gi σ5 1 9).toInt = (gi σ 1 9).toInt := congrArg Int32.toInt (FX_i cσ5 (show ¬ (1 = 47 ∨ 1 = 48 ∨ 1 = 36 ∨ 1 = 37 ∨ 1 = 38 ∨ 1 = 39) from by omega) (show ¬ ((1 = 33 ∧ 9 = 9)) from by omega))
            have t_14 := XI_c1 mσ5 (id := 33) (k := 9) (lim_C0_9 (Or.inr (Or.inr rfl)))
            have nσ5_1 : NN σ5 1 := NN_fx nσ_1 cσ5 (show ¬ (1 = 47 ∨ 1 = 48 ∨ 1 = 36 ∨ 1 = 37 ∨ 1 = 38 ∨ 1 = 39) from by omega) (show ¬ (2 = 47 ∨ 2 = 48 ∨ 2 = 36 ∨ 2 = 37 ∨ 2 = 38 ∨ 2 = 39) from by omega) (show ¬ (3 = 47 ∨ 3 = 48 ∨ 3 = 36 ∨ 3 = 37 ∨ 3 = 38 ∨ 3 = 39) from by omega) (show ¬ ((1 = 33 ∧ 1 = 9)) from by omega) (show ¬ ((1 = 33 ∧ 3 = 9)) from by omega) (fun k (h9 : (2 = 33 ∧ k = 9)) => by omega) (fun k (h9 : (3 = 33 ∧ k = 9)) => by omega)
            intro v7 ev7
            have t_15 : (x1 + (1 : Int32)).toInt = x1.toInt + 1 := i_add (x := x1) (y := (1 : Int32)) (by show (_ : Int) ≤ x1.toInt + 1; omega) (by show x1.toInt + 1 ≤ (_ : Int); omega)
            have t_16 : v7.toInt = (x1 + (1 : Int32)).toInt := congrArg Int32.toInt ev7
            exact ih13 v7 σ5 mσ5 fσ5 nσ5_1 nσ5_33 (by omega) (by omega) (by first | omega | assumption | rfl) (by omega)
          · intro q_10
            have b_17 : ¬ r3.toInt = 0 := fun h9 => q_10 (Int32.toInt_inj.mp h9)
            exact h9ret x1 σ mσ fσ nσ_1
  have U13 := T 200
  have f0 : FX (fun id => id = 34 ∨ id = 35 ∨ id = 36 ∨ id = 37 ∨ id = 38 ∨ id = 39 ∨ id = 40 ∨ id = 47 ∨ id = 48) (fun id k => (id = 33 ∧ k = 1) ∨ (id = 33 ∧ k = 3) ∨ (id = 33 ∧ k = 9) ∨ (id = 33 ∧ k = 10) ∨ (id = 33 ∧ k = 11)) σ0 σ0 := FX_rf
  have t_18 := XI_c1 m0 (id := 1) (k := 1) (lim_C0_1 (Or.inl rfl))
  have t_19 := XI_c1 m0 (id := 1) (k := 9) (lim_C0_9 (Or.inl rfl))
  have t_20 := XI_c1 m0 (id := 33) (k := 9) (lim_C0_9 (Or.inr (Or.inr rfl)))
  refine s_X11_done_0 C hN  ?_
  have z_21 : (1 : Int32).toInt = 1 := rfl
  refine k_X1_becomes (Or.inr (Or.inr rfl)) (Or.inl rfl) m0 nn_1 (by first | omega | assumption | rfl) (fun σ1 mσ1 cσ1 nσ1_1 nσ1_33 (pσ1_0 : (gi σ1 33 1).toInt = (gi σ0 1 1).toInt) (pσ1_1 : (gi σ1 33 3).toInt = (gi σ0 1 3).toInt) (pσ1_2 : (gi σ1 33 9).toInt = (gi σ0 1 9).toInt) (pσ1_3 : CPY σ0 σ1 33 1) => ?_)
  have fσ1 : FX (fun id => id = 34 ∨ id = 35 ∨ id = 36 ∨ id = 37 ∨ id = 38 ∨ id = 39 ∨ id = 40 ∨ id = 47 ∨ id = 48) (fun id k => (id = 33 ∧ k = 1) ∨ (id = 33 ∧ k = 3) ∨ (id = 33 ∧ k = 9) ∨ (id = 33 ∧ k = 10) ∨ (id = 33 ∧ k = 11)) σ0 σ1 := FX_tr f0 cσ1 (fun x (h9 : x = 34 ∨ x = 35 ∨ x = 36 ∨ x = 37 ∨ x = 38 ∨ x = 39 ∨ x = 40) => h9.elim (fun e9 => (show x = 34 ∨ x = 35 ∨ x = 36 ∨ x = 37 ∨ x = 38 ∨ x = 39 ∨ x = 40 ∨ x = 47 ∨ x = 48 from Or.inl (e9))) (fun h9 => h9.elim (fun e9 => (show x = 34 ∨ x = 35 ∨ x = 36 ∨ x = 37 ∨ x = 38 ∨ x = 39 ∨ x = 40 ∨ x = 47 ∨ x = 48 from Or.inr (Or.inl (e9)))) (fun h9 => h9.elim (fun e9 => (show x = 34 ∨ x = 35 ∨ x = 36 ∨ x = 37 ∨ x = 38 ∨ x = 39 ∨ x = 40 ∨ x = 47 ∨ x = 48 from Or.inr (Or.inr (Or.inl (e9))))) (fun h9 => h9.elim (fun e9 => (show x = 34 ∨ x = 35 ∨ x = 36 ∨ x = 37 ∨ x = 38 ∨ x = 39 ∨ x = 40 ∨ x = 47 ∨ x = 48 from Or.inr (Or.inr (Or.inr (Or.inl (e9)))))) (fun h9 => h9.elim (fun e9 => (show x = 34 ∨ x = 35 ∨ x = 36 ∨ x = 37 ∨ x = 38 ∨ x = 39 ∨ x = 40 ∨ x = 47 ∨ x = 48 from Or.inr (Or.inr (Or.inr (Or.inr (Or.inl (e9))))))) (fun h9 => h9.elim (fun e9 => (show x = 34 ∨ x = 35 ∨ x = 36 ∨ x = 37 ∨ x = 38 ∨ x = 39 ∨ x = 40 ∨ x = 47 ∨ x = 48 from Or.inr (Or.inr (Or.inr (Or.inr (Or.inr (Or.inl (e9)))))))) (fun h9 => (show x = 34 ∨ x = 35 ∨ x = 36 ∨ x = 37 ∨ x = 38 ∨ x = 39 ∨ x = 40 ∨ x = 47 ∨ x = 48 from Or.inr (Or.inr (Or.inr (Or.inr (Or.inr (Or.inr (Or.inl (h9))))))))))))))) (fun x k (h9 : (x = 33 ∧ k = 1) ∨ (x = 33 ∧ k = 3) ∨ (x = 33 ∧ k = 9) ∨ (x = 33 ∧ k = 10) ∨ (x = 33 ∧ k = 11)) => (show (x = 34 ∨ x = 35 ∨ x = 36 ∨ x = 37 ∨ x = 38 ∨ x = 39 ∨ x = 40 ∨ x = 47 ∨ x = 48) ∨ ((x = 33 ∧ k = 1) ∨ (x = 33 ∧ k = 3) ∨ (x = 33 ∧ k = 9) ∨ (x = 33 ∧ k = 10) ∨ (x = 33 ∧ k = 11)) from h9.elim (fun e9 => Or.inr (show (x = 33 ∧ k = 1) ∨ (x = 33 ∧ k = 3) ∨ (x = 33 ∧ k = 9) ∨ (x = 33 ∧ k = 10) ∨ (x = 33 ∧ k = 11) from Or.inl (e9))) (fun h9 => h9.elim (fun e9 => Or.inr (show (x = 33 ∧ k = 1) ∨ (x = 33 ∧ k = 3) ∨ (x = 33 ∧ k = 9) ∨ (x = 33 ∧ k = 10) ∨ (x = 33 ∧ k = 11) from Or.inr (Or.inl (e9)))) (fun h9 => h9.elim (fun e9 => Or.inr (show (x = 33 ∧ k = 1) ∨ (x = 33 ∧ k = 3) ∨ (x = 33 ∧ k = 9) ∨ (x = 33 ∧ k = 10) ∨ (x = 33 ∧ k = 11) from Or.inr (Or.inr (Or.inl (e9))))) (fun h9 => h9.elim (fun e9 => Or.inr (show (x = 33 ∧ k = 1) ∨ (x = 33 ∧ k = 3) ∨ (x = 33 ∧ k = 9) ∨ (x = 33 ∧ k = 10) ∨ (x = 33 ∧ k = 11) from Or.inr (Or.inr (Or.inr (Or.inl (e9)))))) (fun h9 => Or.inr (show (x = 33 ∧ k = 1) ∨ (x = 33 ∧ k = 3) ∨ (x = 33 ∧ k = 9) ∨ (x = 33 ∧ k = 10) ∨ (x = 33 ∧ k = 11) from Or.inr (Or.inr (Or.inr (Or.inr (h9)))))))))))
  have k_22 : (gi σ1 1 1).toInt = (gi σ0 1 1).toInt := congrArg Int32.toInt (FX_i cσ1 (show ¬ (1 = 34 ∨ 1 = 35 ∨ 1 = 36 ∨ 1 = 37 ∨ 1 = 38 ∨ 1 = 39 ∨ 1 = 40) from by omega) (show ¬ ((1 = 33 ∧ 1 = 1) ∨ (1 = 33 ∧ 1 = 3) ∨ (1 = 33 ∧ 1 = 9) ∨ (1 = 33 ∧ 1 = 10) ∨ (1 = 33 ∧ 1 = 11)) from by omega))
  have k_23 : (gi σ1 1 9).toInt = (gi σ0 1 9).toInt := congrArg Int32.toInt (FX_i cσ1 (show ¬ (1 = 34 ∨ 1 = 35 ∨ 1 = 36 ∨ 1 = 37 ∨ 1 = 38 ∨ 1 = 39 ∨ 1 = 40) from by omega) (show ¬ ((1 = 33 ∧ 9 = 1) ∨ (1 = 33 ∧ 9 = 3) ∨ (1 = 33 ∧ 9 = 9) ∨ (1 = 33 ∧ 9 = 10) ∨ (1 = 33 ∧ 9 = 11)) from by omega))
  have t_24 := XI_c1 mσ1 (id := 33) (k := 9) (lim_C0_9 (Or.inr (Or.inr rfl)))
  have z_25 : (0 : Int32).toInt = 0 := rfl
  exact U13 (0 : Int32) σ1 mσ1 fσ1 nσ1_1 nσ1_33 (by omega) (by omega) (by first | omega | assumption | rfl) (by omega)
