set_option maxRecDepth 100000 in
set_option maxHeartbeats 4000000 in
theorem k_X2_readsClause {l : Launch} {V : Vx} {c0 : Nat} {σ0 : Sg} {Qk : Int32 → Sg → Prop} (hc0 : kd c0 = (12, 0)) (lc0 : c0 ∈ ids (V)) (m0 : XI V σ0) (pre0 : gr σ0 c0 9 = some 50) (h9ret : ∀ (r : Int32) (σ' : Sg), XI V σ' → FX (fun id => id = c0 + 1 ∨ id = c0 + 2 ∨ id = c0 + 3 ∨ id = c0 + 4) (fun id k => (id = c0 ∧ k = 0) ∨ (id = c0 ∧ k = 1) ∨ (id = c0 ∧ k = 2) ∨ (id = c0 ∧ k = 4) ∨ (id = c0 ∧ k = 8) ∨ (id = c0 ∧ k = 11)) σ0 σ' → (0 ≤ r.toInt) → (r.toInt ≤ 1) → Qk r σ') : K_X2_readsClause l V c0 σ0 Qk := by
  refine e_X2_readsClause (fun M hl hV hN C => ?_)
  subst hl
  subst hV
  have gc0 : hid _ := kdF_ge hc0
  have z60 : (slen 0 : Int) = 5 := rfl
  have z66 : (slen 6 : Int) = 6 := rfl
  have z67 : (slen 7 : Int) = 3 := rfl
  have f0 : FX (fun id => id = c0 + 1 ∨ id = c0 + 2 ∨ id = c0 + 3 ∨ id = c0 + 4) (fun id k => (id = c0 ∧ k = 0) ∨ (id = c0 ∧ k = 1) ∨ (id = c0 ∧ k = 2) ∨ (id = c0 ∧ k = 4) ∨ (id = c0 ∧ k = 8) ∨ (id = c0 ∧ k = 11)) σ0 σ0 := FX_rf
  have t_1 := XI_c1 m0 (id := c0) (k := 10) (lim_F0_10 hc0)
  have t_2 := XI_c1 m0 (id := c0) (k := 11) (lim_F0_11 hc0)
  refine s_X2_readsClause_0 C hN hc0 lc0 ?_
  have z_3 : (0 : Int32).toInt = 0 := rfl
  refine k_X2_signAmong hc0 lc0 (by decide) m0  (by first | omega | assumption | rfl) (fun r2 σ1 mσ1 cσ1 plσ1 phσ1 (pσ1_0 : r2.toInt = -1 ∨ (0 ≤ r2.toInt ∧ r2.toInt < (slen 0 : Int) ∧ 0 ≤ (sgn σ0 c0).toInt)) => ?_)
  obtain rfl := FX_nil cσ1
  refine ⟨?_, ?_⟩
  · intro q_4
    have b_5 : r2.toInt < 0 := Int32.lt_iff_toInt_lt.mp q_4
    exact h9ret (0 : Int32) σ0 m0 f0 (by omega) (by omega)
  · intro q_4
    have b_6 : ¬ r2.toInt < 0 := fun h9 => q_4 (Int32.lt_iff_toInt_lt.mpr h9)
    refine k_X2_readsWord hc0 lc0 m0  (by first | omega | assumption | rfl) (fun r5 σ4 mσ4 cσ4 plσ4 phσ4 => ?_)
    have fσ4 : FX (fun id => id = c0 + 1 ∨ id = c0 + 2 ∨ id = c0 + 3 ∨ id = c0 + 4) (fun id k => (id = c0 ∧ k = 0) ∨ (id = c0 ∧ k = 1) ∨ (id = c0 ∧ k = 2) ∨ (id = c0 ∧ k = 4) ∨ (id = c0 ∧ k = 8) ∨ (id = c0 ∧ k = 11)) σ0 σ4 := FX_tr f0 cσ4 (fun _ h9 => h9.elim) (fun x k (h9 : (x = c0 ∧ k = 11)) => (show (x = c0 + 1 ∨ x = c0 + 2 ∨ x = c0 + 3 ∨ x = c0 + 4) ∨ ((x = c0 ∧ k = 0) ∨ (x = c0 ∧ k = 1) ∨ (x = c0 ∧ k = 2) ∨ (x = c0 ∧ k = 4) ∨ (x = c0 ∧ k = 8) ∨ (x = c0 ∧ k = 11)) from Or.inr (show (x = c0 ∧ k = 0) ∨ (x = c0 ∧ k = 1) ∨ (x = c0 ∧ k = 2) ∨ (x = c0 ∧ k = 4) ∨ (x = c0 ∧ k = 8) ∨ (x = c0 ∧ k = 11) from Or.inr (Or.inr (Or.inr (Or.inr (Or.inr (h9))))))))
    have k_7 : (gi σ4 c0 10).toInt = (gi σ0 c0 10).toInt := congrArg Int32.toInt (FX_i cσ4 id (show ¬ ((c0 = c0 ∧ 10 = 11)) from by first | omega | (have ugc0 := un gc0; omega)))
    have t_8 := XI_c1 mσ4 (id := c0) (k := 11) (lim_F0_11 hc0)
    have kr_9 : gr σ4 c0 9 = some 50 := (FX_r cσ4 id (show ¬ ((c0 = c0 ∧ 9 = 11)) from by first | omega | (have ugc0 := un gc0; omega))).trans pre0
    refine ⟨?_, ?_⟩
    · intro q_10
      have b_11 : ¬ r5.toInt = 0 := fun h9 => q_10 (Int32.toInt_inj.mp h9)
      refine k_X2_readsNumber hc0 lc0 mσ4  (by first | omega | assumption | rfl) (fun r8 σ7 mσ7 cσ7 plσ7 phσ7 => ?_)
      have fσ7 : FX (fun id => id = c0 + 1 ∨ id = c0 + 2 ∨ id = c0 + 3 ∨ id = c0 + 4) (fun id k => (id = c0 ∧ k = 0) ∨ (id = c0 ∧ k = 1) ∨ (id = c0 ∧ k = 2) ∨ (id = c0 ∧ k = 4) ∨ (id = c0 ∧ k = 8) ∨ (id = c0 ∧ k = 11)) σ0 σ7 := FX_tr fσ4 cσ7 (fun _ h9 => h9.elim) (fun x k (h9 : (x = c0 ∧ k = 11)) => (show (x = c0 + 1 ∨ x = c0 + 2 ∨ x = c0 + 3 ∨ x = c0 + 4) ∨ ((x = c0 ∧ k = 0) ∨ (x = c0 ∧ k = 1) ∨ (x = c0 ∧ k = 2) ∨ (x = c0 ∧ k = 4) ∨ (x = c0 ∧ k = 8) ∨ (x = c0 ∧ k = 11)) from Or.inr (show (x = c0 ∧ k = 0) ∨ (x = c0 ∧ k = 1) ∨ (x = c0 ∧ k = 2) ∨ (x = c0 ∧ k = 4) ∨ (x = c0 ∧ k = 8) ∨ (x = c0 ∧ k = 11) from Or.inr (Or.inr (Or.inr (Or.inr (Or.inr (h9))))))))
      have k_12 : (gi σ7 c0 10).toInt = (gi σ4 c0 10).toInt := congrArg Int32.toInt (FX_i cσ7 id (show ¬ ((c0 = c0 ∧ 10 = 11)) from by first | omega | (have ugc0 := un gc0; omega)))
      have t_13 := XI_c1 mσ7 (id := c0) (k := 11) (lim_F0_11 hc0)
      have kr_14 : gr σ7 c0 9 = some 50 := (FX_r cσ7 id (show ¬ ((c0 = c0 ∧ 9 = 11)) from by first | omega | (have ugc0 := un gc0; omega))).trans kr_9
      refine ⟨?_, ?_⟩
      · intro q_15
        have b_16 : (0 : Int) ≤ r8.toInt := Int32.le_iff_toInt_le.mp q_15
        refine ⟨?_, ?_⟩
        · intro q_17
          have b_18 : (1 : Int) < r2.toInt := Int32.lt_iff_toInt_lt.mp q_17
          refine k_X2_keeps hc0 lc0 mσ7   (fun σ11 mσ11 cσ11 => ?_)
          have fσ11 : FX (fun id => id = c0 + 1 ∨ id = c0 + 2 ∨ id = c0 + 3 ∨ id = c0 + 4) (fun id k => (id = c0 ∧ k = 0) ∨ (id = c0 ∧ k = 1) ∨ (id = c0 ∧ k = 2) ∨ (id = c0 ∧ k = 4) ∨ (id = c0 ∧ k = 8) ∨ (id = c0 ∧ k = 11)) σ0 σ11 := FX_tr fσ7 cσ11 (fun x (h9 : x = c0 + 2 ∨ x = c0 + 3 ∨ x = c0 + 4) => h9.elim (fun e9 => (show x = c0 + 1 ∨ x = c0 + 2 ∨ x = c0 + 3 ∨ x = c0 + 4 from Or.inr (Or.inl (e9)))) (fun h9 => h9.elim (fun e9 => (show x = c0 + 1 ∨ x = c0 + 2 ∨ x = c0 + 3 ∨ x = c0 + 4 from Or.inr (Or.inr (Or.inl (e9))))) (fun h9 => (show x = c0 + 1 ∨ x = c0 + 2 ∨ x = c0 + 3 ∨ x = c0 + 4 from Or.inr (Or.inr (Or.inr (h9))))))) (fun x k (h9 : (x = c0 ∧ k = 0) ∨ (x = c0 ∧ k = 1) ∨ (x = c0 ∧ k = 2) ∨ (x = c0 ∧ k = 8)) => (show (x = c0 + 1 ∨ x = c0 + 2 ∨ x = c0 + 3 ∨ x = c0 + 4) ∨ ((x = c0 ∧ k = 0) ∨ (x = c0 ∧ k = 1) ∨ (x = c0 ∧ k = 2) ∨ (x = c0 ∧ k = 4) ∨ (x = c0 ∧ k = 8) ∨ (x = c0 ∧ k = 11)) from h9.elim (fun e9 => Or.inr (show (x = c0 ∧ k = 0) ∨ (x = c0 ∧ k = 1) ∨ (x = c0 ∧ k = 2) ∨ (x = c0 ∧ k = 4) ∨ (x = c0 ∧ k = 8) ∨ (x = c0 ∧ k = 11) from Or.inl (e9))) (fun h9 => h9.elim (fun e9 => Or.inr (show (x = c0 ∧ k = 0) ∨ (x = c0 ∧ k = 1) ∨ (x = c0 ∧ k = 2) ∨ (x = c0 ∧ k = 4) ∨ (x = c0 ∧ k = 8) ∨ (x = c0 ∧ k = 11) from Or.inr (Or.inl (e9)))) (fun h9 => h9.elim (fun e9 => Or.inr (show (x = c0 ∧ k = 0) ∨ (x = c0 ∧ k = 1) ∨ (x = c0 ∧ k = 2) ∨ (x = c0 ∧ k = 4) ∨ (x = c0 ∧ k = 8) ∨ (x = c0 ∧ k = 11) from Or.inr (Or.inr (Or.inl (e9))))) (fun h9 => Or.inr (show (x = c0 ∧ k = 0) ∨ (x = c0 ∧ k = 1) ∨ (x = c0 ∧ k = 2) ∨ (x = c0 ∧ k = 4) ∨ (x = c0 ∧ k = 8) ∨ (x = c0 ∧ k = 11) from Or.inr (Or.inr (Or.inr (Or.inr (Or.inl (h9)))))))))))
          have k_19 : (gi σ11 c0 10).toInt = (gi σ7 c0 10).toInt := congrArg Int32.toInt (FX_i cσ11 (show ¬ (c0 = c0 + 2 ∨ c0 = c0 + 3 ∨ c0 = c0 + 4) from by first | omega | (have ugc0 := un gc0; omega)) (show ¬ ((c0 = c0 ∧ 10 = 0) ∨ (c0 = c0 ∧ 10 = 1) ∨ (c0 = c0 ∧ 10 = 2) ∨ (c0 = c0 ∧ 10 = 8)) from by first | omega | (have ugc0 := un gc0; omega)))
          have k_20 : (gi σ11 c0 11).toInt = (gi σ7 c0 11).toInt := congrArg Int32.toInt (FX_i cσ11 (show ¬ (c0 = c0 + 2 ∨ c0 = c0 + 3 ∨ c0 = c0 + 4) from by first | omega | (have ugc0 := un gc0; omega)) (show ¬ ((c0 = c0 ∧ 11 = 0) ∨ (c0 = c0 ∧ 11 = 1) ∨ (c0 = c0 ∧ 11 = 2) ∨ (c0 = c0 ∧ 11 = 8)) from by first | omega | (have ugc0 := un gc0; omega)))
          have kr_21 : gr σ11 c0 9 = some 50 := (FX_r cσ11 (show ¬ (c0 = c0 + 2 ∨ c0 = c0 + 3 ∨ c0 = c0 + 4) from by first | omega | (have ugc0 := un gc0; omega)) (show ¬ ((c0 = c0 ∧ 9 = 0) ∨ (c0 = c0 ∧ 9 = 1) ∨ (c0 = c0 ∧ 9 = 2) ∨ (c0 = c0 ∧ 9 = 8)) from by first | omega | (have ugc0 := un gc0; omega))).trans kr_14
          have z_22 : (1 : Int32).toInt = 1 := rfl
          exact h9ret (1 : Int32) σ11 mσ11 fσ11 (by omega) (by omega)
        · intro q_17
          have b_23 : ¬ (1 : Int) < r2.toInt := fun h9 => q_17 (Int32.lt_iff_toInt_lt.mpr h9)
          have z_24 : (32 : Int32).toInt = 32 := rfl
          refine k_X2_takes hc0 lc0 mσ7  (by omega) (by omega) (by first | omega | assumption | rfl) (fun r13 σ12 mσ12 cσ12 plσ12 phσ12 => ?_)
          have fσ12 : FX (fun id => id = c0 + 1 ∨ id = c0 + 2 ∨ id = c0 + 3 ∨ id = c0 + 4) (fun id k => (id = c0 ∧ k = 0) ∨ (id = c0 ∧ k = 1) ∨ (id = c0 ∧ k = 2) ∨ (id = c0 ∧ k = 4) ∨ (id = c0 ∧ k = 8) ∨ (id = c0 ∧ k = 11)) σ0 σ12 := FX_tr fσ7 cσ12 (fun _ h9 => h9.elim) (fun x k (h9 : (x = c0 ∧ k = 11)) => (show (x = c0 + 1 ∨ x = c0 + 2 ∨ x = c0 + 3 ∨ x = c0 + 4) ∨ ((x = c0 ∧ k = 0) ∨ (x = c0 ∧ k = 1) ∨ (x = c0 ∧ k = 2) ∨ (x = c0 ∧ k = 4) ∨ (x = c0 ∧ k = 8) ∨ (x = c0 ∧ k = 11)) from Or.inr (show (x = c0 ∧ k = 0) ∨ (x = c0 ∧ k = 1) ∨ (x = c0 ∧ k = 2) ∨ (x = c0 ∧ k = 4) ∨ (x = c0 ∧ k = 8) ∨ (x = c0 ∧ k = 11) from Or.inr (Or.inr (Or.inr (Or.inr (Or.inr (h9))))))))
          have k_25 : (gi σ12 c0 10).toInt = (gi σ7 c0 10).toInt := congrArg Int32.toInt (FX_i cσ12 id (show ¬ ((c0 = c0 ∧ 10 = 11)) from by first | omega | (have ugc0 := un gc0; omega)))
          have t_26 := XI_c1 mσ12 (id := c0) (k := 11) (lim_F0_11 hc0)
          have kr_27 : gr σ12 c0 9 = some 50 := (FX_r cσ12 id (show ¬ ((c0 = c0 ∧ 9 = 11)) from by first | omega | (have ugc0 := un gc0; omega))).trans kr_14
          refine ⟨?_, ?_⟩
          · intro q_28
            have b_29 : r13.toInt = 0 := congrArg Int32.toInt q_28
            exact h9ret (0 : Int32) σ12 mσ12 fσ12 (by omega) (by omega)
          · intro q_28
            have b_30 : ¬ r13.toInt = 0 := fun h9 => q_28 (Int32.toInt_inj.mp h9)
            refine k_X2_readsEither_r0 hc0 lc0 mσ12  (by omega) (by omega) (by first | omega | assumption | rfl) (fun r16 σ15 mσ15 cσ15 plσ15 phσ15 => ?_)
            have fσ15 : FX (fun id => id = c0 + 1 ∨ id = c0 + 2 ∨ id = c0 + 3 ∨ id = c0 + 4) (fun id k => (id = c0 ∧ k = 0) ∨ (id = c0 ∧ k = 1) ∨ (id = c0 ∧ k = 2) ∨ (id = c0 ∧ k = 4) ∨ (id = c0 ∧ k = 8) ∨ (id = c0 ∧ k = 11)) σ0 σ15 := FX_tr fσ12 cσ15 (fun x (h9 : x = c0 + 1) => (show x = c0 + 1 ∨ x = c0 + 2 ∨ x = c0 + 3 ∨ x = c0 + 4 from Or.inl (h9))) (fun x k (h9 : (x = c0 ∧ k = 4) ∨ (x = c0 ∧ k = 11)) => (show (x = c0 + 1 ∨ x = c0 + 2 ∨ x = c0 + 3 ∨ x = c0 + 4) ∨ ((x = c0 ∧ k = 0) ∨ (x = c0 ∧ k = 1) ∨ (x = c0 ∧ k = 2) ∨ (x = c0 ∧ k = 4) ∨ (x = c0 ∧ k = 8) ∨ (x = c0 ∧ k = 11)) from h9.elim (fun e9 => Or.inr (show (x = c0 ∧ k = 0) ∨ (x = c0 ∧ k = 1) ∨ (x = c0 ∧ k = 2) ∨ (x = c0 ∧ k = 4) ∨ (x = c0 ∧ k = 8) ∨ (x = c0 ∧ k = 11) from Or.inr (Or.inr (Or.inr (Or.inl (e9)))))) (fun h9 => Or.inr (show (x = c0 ∧ k = 0) ∨ (x = c0 ∧ k = 1) ∨ (x = c0 ∧ k = 2) ∨ (x = c0 ∧ k = 4) ∨ (x = c0 ∧ k = 8) ∨ (x = c0 ∧ k = 11) from Or.inr (Or.inr (Or.inr (Or.inr (Or.inr (h9)))))))))
            have k_31 : (gi σ15 c0 10).toInt = (gi σ12 c0 10).toInt := congrArg Int32.toInt (FX_i cσ15 (show ¬ (c0 = c0 + 1) from by first | omega | (have ugc0 := un gc0; omega)) (show ¬ ((c0 = c0 ∧ 10 = 4) ∨ (c0 = c0 ∧ 10 = 11)) from by first | omega | (have ugc0 := un gc0; omega)))
            have t_32 := XI_c1 mσ15 (id := c0) (k := 11) (lim_F0_11 hc0)
            have kr_33 : gr σ15 c0 9 = some 50 := (FX_r cσ15 (show ¬ (c0 = c0 + 1) from by first | omega | (have ugc0 := un gc0; omega)) (show ¬ ((c0 = c0 ∧ 9 = 4) ∨ (c0 = c0 ∧ 9 = 11)) from by first | omega | (have ugc0 := un gc0; omega))).trans kr_27
            refine ⟨?_, ?_⟩
            · intro q_34
              have b_35 : ¬ r16.toInt = 0 := fun h9 => q_34 (Int32.toInt_inj.mp h9)
              refine k_X2_keeps hc0 lc0 mσ15   (fun σ18 mσ18 cσ18 => ?_)
              have fσ18 : FX (fun id => id = c0 + 1 ∨ id = c0 + 2 ∨ id = c0 + 3 ∨ id = c0 + 4) (fun id k => (id = c0 ∧ k = 0) ∨ (id = c0 ∧ k = 1) ∨ (id = c0 ∧ k = 2) ∨ (id = c0 ∧ k = 4) ∨ (id = c0 ∧ k = 8) ∨ (id = c0 ∧ k = 11)) σ0 σ18 := FX_tr fσ15 cσ18 (fun x (h9 : x = c0 + 2 ∨ x = c0 + 3 ∨ x = c0 + 4) => h9.elim (fun e9 => (show x = c0 + 1 ∨ x = c0 + 2 ∨ x = c0 + 3 ∨ x = c0 + 4 from Or.inr (Or.inl (e9)))) (fun h9 => h9.elim (fun e9 => (show x = c0 + 1 ∨ x = c0 + 2 ∨ x = c0 + 3 ∨ x = c0 + 4 from Or.inr (Or.inr (Or.inl (e9))))) (fun h9 => (show x = c0 + 1 ∨ x = c0 + 2 ∨ x = c0 + 3 ∨ x = c0 + 4 from Or.inr (Or.inr (Or.inr (h9))))))) (fun x k (h9 : (x = c0 ∧ k = 0) ∨ (x = c0 ∧ k = 1) ∨ (x = c0 ∧ k = 2) ∨ (x = c0 ∧ k = 8)) => (show (x = c0 + 1 ∨ x = c0 + 2 ∨ x = c0 + 3 ∨ x = c0 + 4) ∨ ((x = c0 ∧ k = 0) ∨ (x = c0 ∧ k = 1) ∨ (x = c0 ∧ k = 2) ∨ (x = c0 ∧ k = 4) ∨ (x = c0 ∧ k = 8) ∨ (x = c0 ∧ k = 11)) from h9.elim (fun e9 => Or.inr (show (x = c0 ∧ k = 0) ∨ (x = c0 ∧ k = 1) ∨ (x = c0 ∧ k = 2) ∨ (x = c0 ∧ k = 4) ∨ (x = c0 ∧ k = 8) ∨ (x = c0 ∧ k = 11) from Or.inl (e9))) (fun h9 => h9.elim (fun e9 => Or.inr (show (x = c0 ∧ k = 0) ∨ (x = c0 ∧ k = 1) ∨ (x = c0 ∧ k = 2) ∨ (x = c0 ∧ k = 4) ∨ (x = c0 ∧ k = 8) ∨ (x = c0 ∧ k = 11) from Or.inr (Or.inl (e9)))) (fun h9 => h9.elim (fun e9 => Or.inr (show (x = c0 ∧ k = 0) ∨ (x = c0 ∧ k = 1) ∨ (x = c0 ∧ k = 2) ∨ (x = c0 ∧ k = 4) ∨ (x = c0 ∧ k = 8) ∨ (x = c0 ∧ k = 11) from Or.inr (Or.inr (Or.inl (e9))))) (fun h9 => Or.inr (show (x = c0 ∧ k = 0) ∨ (x = c0 ∧ k = 1) ∨ (x = c0 ∧ k = 2) ∨ (x = c0 ∧ k = 4) ∨ (x = c0 ∧ k = 8) ∨ (x = c0 ∧ k = 11) from Or.inr (Or.inr (Or.inr (Or.inr (Or.inl (h9)))))))))))
              have k_36 : (gi σ18 c0 10).toInt = (gi σ15 c0 10).toInt := congrArg Int32.toInt (FX_i cσ18 (show ¬ (c0 = c0 + 2 ∨ c0 = c0 + 3 ∨ c0 = c0 + 4) from by first | omega | (have ugc0 := un gc0; omega)) (show ¬ ((c0 = c0 ∧ 10 = 0) ∨ (c0 = c0 ∧ 10 = 1) ∨ (c0 = c0 ∧ 10 = 2) ∨ (c0 = c0 ∧ 10 = 8)) from by first | omega | (have ugc0 := un gc0; omega)))
              have k_37 : (gi σ18 c0 11).toInt = (gi σ15 c0 11).toInt := congrArg Int32.toInt (FX_i cσ18 (show ¬ (c0 = c0 + 2 ∨ c0 = c0 + 3 ∨ c0 = c0 + 4) from by first | omega | (have ugc0 := un gc0; omega)) (show ¬ ((c0 = c0 ∧ 11 = 0) ∨ (c0 = c0 ∧ 11 = 1) ∨ (c0 = c0 ∧ 11 = 2) ∨ (c0 = c0 ∧ 11 = 8)) from by first | omega | (have ugc0 := un gc0; omega)))
              have kr_38 : gr σ18 c0 9 = some 50 := (FX_r cσ18 (show ¬ (c0 = c0 + 2 ∨ c0 = c0 + 3 ∨ c0 = c0 + 4) from by first | omega | (have ugc0 := un gc0; omega)) (show ¬ ((c0 = c0 ∧ 9 = 0) ∨ (c0 = c0 ∧ 9 = 1) ∨ (c0 = c0 ∧ 9 = 2) ∨ (c0 = c0 ∧ 9 = 8)) from by first | omega | (have ugc0 := un gc0; omega))).trans kr_33
              have z_39 : (1 : Int32).toInt = 1 := rfl
              exact h9ret (1 : Int32) σ18 mσ18 fσ18 (by omega) (by omega)
            · intro q_34
              have b_40 : r16.toInt = 0 := congrArg Int32.toInt q_34
              exact h9ret (0 : Int32) σ15 mσ15 fσ15 (by omega) (by omega)
      · intro q_15
        have b_41 : ¬ (0 : Int) ≤ r8.toInt := fun h9 => q_15 (Int32.le_iff_toInt_le.mpr h9)
        exact h9ret (0 : Int32) σ7 mσ7 fσ7 (by omega) (by omega)
    · intro q_10
      have b_42 : r5.toInt = 0 := congrArg Int32.toInt q_10
      exact h9ret (0 : Int32) σ4 mσ4 fσ4 (by omega) (by omega)
set_option maxRecDepth 100000 in
set_option maxHeartbeats 4000000 in
theorem k_X2_holds {l : Launch} {V : Vx} {c0 : Nat} {a1 : Int32} {a2 : Int32} {a3 : Nat} {σ0 : Sg} {Qk : Int32 → Sg → Prop} (hc0 : kd c0 = (12, 0)) (lc0 : c0 ∈ ids (V)) {na3 : Nat} (ha3 : kd a3 = (0, na3)) (la3 : a3 ∈ ids (V)) (m0 : XI V σ0) (l_a1 : 0 ≤ a1.toInt) (u_a1 : a1.toInt ≤ 100) (pre0 : na3 = 6) (h9ret : ∀ (r : Int32) (σ' : Sg), XI V σ' → FX (fun id => False) (fun _ _ => False) σ0 σ' → (0 ≤ r.toInt) → (r.toInt ≤ 1) → Qk r σ') : K_X2_holds l V c0 a1 a2 a3 σ0 Qk := by
  refine e_X2_holds (fun M hl hV hN C => ?_)
  subst hl
  subst hV
  have gc0 : hid _ := kdF_ge hc0
  have T : ∀ n : Nat, (∀ (x2 : Int32) (x4 : Int32) (x5 : Int32) (σ : Sg), XI (mV M) σ → FX (fun id => False) (fun _ _ => False) σ0 σ → (0 ≤ x5.toInt) → (x5.toInt ≤ 100) → (101 - x5.toInt).toNat * 2 + 1 < n → PS M 6 [(0, .ref c0), (2, .int x2), (3, .ref a3), (4, .int x4), (5, .int x5)] [] σ (0, 0)) ∧ (∀ (x4 : Int32) (σ : Sg), XI (mV M) σ → FX (fun id => False) (fun _ _ => False) σ0 σ → 1 < n → PS M 187 [(4, .int x4)] [] σ (0, 0)) ∧ (∀ (x2 : Int32) (x4 : Int32) (x5 : Int32) (z0 : Int32) (σ : Sg), XI (mV M) σ → FX (fun id => False) (fun _ _ => False) σ0 σ → (0 ≤ x5.toInt) → (x5.toInt ≤ 99) → (101 - x5.toInt).toNat * 2 < n → PS M 107 [(0, .ref c0), (2, .int x2), (3, .ref a3), (4, .int x4), (5, .int x5)] [.int z0] σ (0, 0)) := by
    intro n
    induction n with
    | zero => exact ⟨fun _ _ _ _ _ _ _ _ h8 => absurd h8 (Nat.not_lt_zero _), fun _ _ _ _ h8 => absurd h8 (Nat.not_lt_zero _), fun _ _ _ _ _ _ _ _ _ h8 => absurd h8 (Nat.not_lt_zero _)⟩
    | succ n ih =>
      obtain ⟨ih6, ih187, ih107⟩ := ih
      refine ⟨?_, ?_, ?_⟩
      · intro x2 x4 x5 σ mσ fσ lx5 ux5 hmu
        have k_1 : (gi σ c0 4).toInt = (gi σ0 c0 4).toInt := congrArg Int32.toInt (FX_i fσ id id)
        have t_2 := XI_c1 mσ (id := c0) (k := 4) (lim_F0_4 hc0)
        refine s_X2_holds_6 C hN hc0 lc0 ha3 la3 ?_
        refine ⟨?_, ?_⟩
        · intro q_3
          have w_4 := Int32.toInt_lt x2
          have w_5 := Int32.le_toInt x2
          have b_6 : x2.toInt ≤ x5.toInt := Int32.le_iff_toInt_le.mp q_3
          have w_7 := Int32.toInt_lt x4
          have w_8 := Int32.le_toInt x4
          exact ih187 x4 σ mσ fσ (by omega)
        · intro q_3
          have w_9 := Int32.toInt_lt x2
          have w_10 := Int32.le_toInt x2
          have b_11 : ¬ x2.toInt ≤ x5.toInt := fun h9 => q_3 (Int32.le_iff_toInt_le.mpr h9)
          refine ⟨?_, ?_⟩
          · intro q_12
            have b_13 : (gi σ c0 4).toInt ≤ x5.toInt := Int32.le_iff_toInt_le.mp q_12
            have w_14 := Int32.toInt_lt x4
            have w_15 := Int32.le_toInt x4
            exact ih187 x4 σ mσ fσ (by omega)
          · intro q_12
            have b_16 : ¬ (gi σ c0 4).toInt ≤ x5.toInt := fun h9 => q_12 (Int32.le_iff_toInt_le.mpr h9)
            have hv_17 : vp_in x5 100 := vp_in_iff.mpr ⟨by omega, by omega⟩
            refine ⟨hv_17, ?_⟩
            intro v4 ev4
            have t_18 := XI_c1 mσ (id := (c0 + 1)) (k := x5.toNatClampNeg) (lim_F1 hc0 _)
            have t_19 : v4.toInt = (gi σ (c0 + 1) x5.toNatClampNeg).toInt := congrArg Int32.toInt ev4
            refine ⟨?_, ?_⟩
            · intro q_20
              have b_21 : v4.toInt < 0 := Int32.lt_iff_toInt_lt.mp q_20
              refine ⟨?_, ?_⟩
              · intro q_22
                have b_23 : ¬ v4.toInt = (-1) := fun h9 => q_22 (Int32.toInt_inj.mp h9)
                intro v7 ev7
                intro v8 ev8
                refine ⟨?_, ?_⟩
                · intro q_24
                  have b_25 : ¬ v4.toInt = (-3) := fun h9 => q_24 (Int32.toInt_inj.mp h9)
                  intro v10 ev10
                  intro v11 ev11
                  have t_26 : (x5 + (1 : Int32)).toInt = x5.toInt + 1 := i_add (x := x5) (y := (1 : Int32)) (by show (_ : Int) ≤ x5.toInt + 1; omega) (by show x5.toInt + 1 ≤ (_ : Int); omega)
                  have t_27 : v11.toInt = (x5 + (1 : Int32)).toInt := congrArg Int32.toInt ev11
                  have w_28 := Int32.toInt_lt v10
                  have w_29 := Int32.le_toInt v10
                  exact ih6 x2 v10 v11 σ mσ fσ (by omega) (by omega) (by omega)
                · intro q_24
                  have b_30 : v4.toInt = (-3) := congrArg Int32.toInt q_24
                  intro v12 ev12
                  intro v13 ev13
                  have t_31 : (x5 + (1 : Int32)).toInt = x5.toInt + 1 := i_add (x := x5) (y := (1 : Int32)) (by show (_ : Int) ≤ x5.toInt + 1; omega) (by show x5.toInt + 1 ≤ (_ : Int); omega)
                  have t_32 : v13.toInt = (x5 + (1 : Int32)).toInt := congrArg Int32.toInt ev13
                  have w_33 := Int32.toInt_lt v12
                  have w_34 := Int32.le_toInt v12
                  exact ih6 x2 v12 v13 σ mσ fσ (by omega) (by omega) (by omega)
              · intro q_22
                have b_35 : v4.toInt = (-1) := congrArg Int32.toInt q_22
                intro v14 ev14
                intro v15 ev15
                have t_36 : (x5 + (1 : Int32)).toInt = x5.toInt + 1 := i_add (x := x5) (y := (1 : Int32)) (by show (_ : Int) ≤ x5.toInt + 1; omega) (by show x5.toInt + 1 ≤ (_ : Int); omega)
                have t_37 : v15.toInt = (x5 + (1 : Int32)).toInt := congrArg Int32.toInt ev15
                have w_38 := Int32.toInt_lt v14
                have w_39 := Int32.le_toInt v14
                exact ih6 x2 v14 v15 σ mσ fσ (by omega) (by omega) (by omega)
            · intro q_20
              have b_40 : ¬ v4.toInt < 0 := fun h9 => q_20 (Int32.lt_iff_toInt_lt.mpr h9)
              try have t_41 : (v4 / (300 : Int32)).toInt = v4.toInt / 300 := i_div (by omega) (by decide) rfl
              have hv_42 : vp_in (v4 / (300 : Int32)) na3 := vp_in_iff.mpr ⟨by omega, by omega⟩
              refine ⟨hv_42, ?_⟩
              intro v17 ev17
              intro v18 ev18
              refine ⟨?_, ?_⟩
              · intro q_43
                have w_44 := Int32.toInt_lt v18
                have w_45 := Int32.le_toInt v18
                have b_46 : ¬ v18.toInt = 0 := fun h9 => q_43 (Int32.toInt_inj.mp h9)
                refine ⟨?_, ?_⟩
                · intro q_47
                  have b_48 : ¬ v18.toInt = 1 := fun h9 => q_47 (Int32.toInt_inj.mp h9)
                  refine ⟨?_, ?_⟩
                  · intro q_49
                    have w_50 := Int32.toInt_lt v17
                    have w_51 := Int32.le_toInt v17
                    have b_52 : v17.toInt ≤ 0 := Int32.le_iff_toInt_le.mp q_49
                    have w_53 := Int32.toInt_lt x4
                    have w_54 := Int32.le_toInt x4
                    have z_55 : (0 : Int32).toInt = 0 := rfl
                    exact ih107 x2 x4 x5 (0 : Int32) σ mσ fσ (by omega) (by omega) (by omega)
                  · intro q_49
                    have w_56 := Int32.toInt_lt v17
                    have w_57 := Int32.le_toInt v17
                    have b_58 : ¬ v17.toInt ≤ 0 := fun h9 => q_49 (Int32.le_iff_toInt_le.mpr h9)
                    have w_59 := Int32.toInt_lt x4
                    have w_60 := Int32.le_toInt x4
                    have z_61 : (1 : Int32).toInt = 1 := rfl
                    exact ih107 x2 x4 x5 (1 : Int32) σ mσ fσ (by omega) (by omega) (by omega)
                · intro q_47
                  have b_62 : v18.toInt = 1 := congrArg Int32.toInt q_47
                  refine ⟨?_, ?_⟩
                  · intro q_63
                    have w_64 := Int32.toInt_lt v17
                    have w_65 := Int32.le_toInt v17
                    have b_66 : ¬ v17.toInt = 0 := fun h9 => q_63 (Int32.toInt_inj.mp h9)
                    have w_67 := Int32.toInt_lt x4
                    have w_68 := Int32.le_toInt x4
                    have z_69 : (0 : Int32).toInt = 0 := rfl
                    exact ih107 x2 x4 x5 (0 : Int32) σ mσ fσ (by omega) (by omega) (by omega)
                  · intro q_63
                    have w_70 := Int32.toInt_lt v17
                    have w_71 := Int32.le_toInt v17
                    have b_72 : v17.toInt = 0 := congrArg Int32.toInt q_63
                    have w_73 := Int32.toInt_lt x4
                    have w_74 := Int32.le_toInt x4
                    have z_75 : (1 : Int32).toInt = 1 := rfl
                    exact ih107 x2 x4 x5 (1 : Int32) σ mσ fσ (by omega) (by omega) (by omega)
              · intro q_43
                have w_76 := Int32.toInt_lt v18
                have w_77 := Int32.le_toInt v18
                have b_78 : v18.toInt = 0 := congrArg Int32.toInt q_43
                refine ⟨?_, ?_⟩
                · intro q_79
                  have w_80 := Int32.toInt_lt v17
                  have w_81 := Int32.le_toInt v17
                  have b_82 : (0 : Int) ≤ v17.toInt := Int32.le_iff_toInt_le.mp q_79
                  have w_83 := Int32.toInt_lt x4
                  have w_84 := Int32.le_toInt x4
                  have z_85 : (0 : Int32).toInt = 0 := rfl
                  exact ih107 x2 x4 x5 (0 : Int32) σ mσ fσ (by omega) (by omega) (by omega)
                · intro q_79
                  have w_86 := Int32.toInt_lt v17
                  have w_87 := Int32.le_toInt v17
                  have b_88 : ¬ (0 : Int) ≤ v17.toInt := fun h9 => q_79 (Int32.le_iff_toInt_le.mpr h9)
                  have w_89 := Int32.toInt_lt x4
                  have w_90 := Int32.le_toInt x4
                  have z_91 : (1 : Int32).toInt = 1 := rfl
                  exact ih107 x2 x4 x5 (1 : Int32) σ mσ fσ (by omega) (by omega) (by omega)
      · intro x4 σ mσ fσ hmu
        have k_92 : (gi σ c0 4).toInt = (gi σ0 c0 4).toInt := congrArg Int32.toInt (FX_i fσ id id)
        have t_93 := XI_c1 mσ (id := c0) (k := 4) (lim_F0_4 hc0)
        refine s_X2_holds_187 C hN  ?_
        refine ⟨?_, ?_⟩
        · intro q_94
          have w_95 := Int32.toInt_lt x4
          have w_96 := Int32.le_toInt x4
          have b_97 : ¬ (x4 &&& (1 : Int32)).toInt = 1 := fun h9 => q_94 (Int32.toInt_inj.mp h9)
          have z_98 : (0 : Int32).toInt = 0 := rfl
          exact h9ret (0 : Int32) σ mσ fσ (by omega) (by omega)
        · intro q_94
          have w_99 := Int32.toInt_lt x4
          have w_100 := Int32.le_toInt x4
          have b_101 : (x4 &&& (1 : Int32)).toInt = 1 := congrArg Int32.toInt q_94
          have z_102 : (1 : Int32).toInt = 1 := rfl
          exact h9ret (1 : Int32) σ mσ fσ (by omega) (by omega)
      · intro x2 x4 x5 z0 σ mσ fσ lx5 ux5 hmu
        have k_103 : (gi σ c0 4).toInt = (gi σ0 c0 4).toInt := congrArg Int32.toInt (FX_i fσ id id)
        have t_104 := XI_c1 mσ (id := c0) (k := 4) (lim_F0_4 hc0)
        refine s_X2_holds_107 C hN hc0 lc0 ha3 la3 ?_
        refine ⟨?_, ?_⟩
        · intro q_105
          have w_106 := Int32.toInt_lt z0
          have w_107 := Int32.le_toInt z0
          have b_108 : z0.toInt = 0 := congrArg Int32.toInt q_105
          intro v2 ev2
          intro v3 ev3
          have t_109 : (x5 + (1 : Int32)).toInt = x5.toInt + 1 := i_add (x := x5) (y := (1 : Int32)) (by show (_ : Int) ≤ x5.toInt + 1; omega) (by show x5.toInt + 1 ≤ (_ : Int); omega)
          have t_110 : v3.toInt = (x5 + (1 : Int32)).toInt := congrArg Int32.toInt ev3
          have w_111 := Int32.toInt_lt x2
          have w_112 := Int32.le_toInt x2
          have w_113 := Int32.toInt_lt v2
          have w_114 := Int32.le_toInt v2
          exact ih6 x2 v2 v3 σ mσ fσ (by omega) (by omega) (by omega)
        · intro q_105
          have w_115 := Int32.toInt_lt z0
          have w_116 := Int32.le_toInt z0
          have b_117 : ¬ z0.toInt = 0 := fun h9 => q_105 (Int32.toInt_inj.mp h9)
          intro v4 ev4
          intro v5 ev5
          have t_118 : (x5 + (1 : Int32)).toInt = x5.toInt + 1 := i_add (x := x5) (y := (1 : Int32)) (by show (_ : Int) ≤ x5.toInt + 1; omega) (by show x5.toInt + 1 ≤ (_ : Int); omega)
          have t_119 : v5.toInt = (x5 + (1 : Int32)).toInt := congrArg Int32.toInt ev5
          have w_120 := Int32.toInt_lt x2
          have w_121 := Int32.le_toInt x2
          have w_122 := Int32.toInt_lt v4
          have w_123 := Int32.le_toInt v4
          exact ih6 x2 v4 v5 σ mσ fσ (by omega) (by omega) (by omega)
  obtain ⟨U6, U187, U107⟩ := T 900
  have f0 : FX (fun id => False) (fun _ _ => False) σ0 σ0 := FX_rf
  have t_124 := XI_c1 m0 (id := c0) (k := 4) (lim_F0_4 hc0)
  refine s_X2_holds_0 C hN hc0 lc0 ha3 la3 ?_
  have w_125 := Int32.toInt_lt a2
  have w_126 := Int32.le_toInt a2
  have z_127 : (0 : Int32).toInt = 0 := rfl
  exact U6 a2 (0 : Int32) a1 σ0 m0 f0 (by omega) (by omega) (by omega)
set_option maxRecDepth 100000 in
set_option maxHeartbeats 4000000 in
theorem k_X2_paceOf {l : Launch} {V : Vx} {c0 : Nat} {a1 : Nat} {σ0 : Sg} {Qk : Int32 → Sg → Prop} (hc0 : kd c0 = (12, 0)) (lc0 : c0 ∈ ids (V)) {na1 : Nat} (ha1 : kd a1 = (0, na1)) (la1 : a1 ∈ ids (V)) (m0 : XI V σ0) (pre0 : na1 = 6) (h9ret : ∀ (r : Int32) (σ' : Sg), XI V σ' → FX (fun id => False) (fun _ _ => False) σ0 σ' → Qk r σ') : K_X2_paceOf l V c0 a1 σ0 Qk := by
  refine e_X2_paceOf (fun M hl hV hN C => ?_)
  subst hl
  subst hV
  have gc0 : hid _ := kdF_ge hc0
  have T : ∀ n : Nat, (∀ (x2 : Int32) (x3 : Int32) (x4 : Int32) (σ : Sg), XI (mV M) σ → FX (fun id => False) (fun _ _ => False) σ0 σ → (0 ≤ x3.toInt) → (x3.toInt ≤ 100) → (0 ≤ x4.toInt) → (x4.toInt ≤ 10) → (11 - x4.toInt).toNat * 2 + 1 < n → PS M 8 [(0, .ref c0), (1, .ref a1), (2, .int x2), (3, .int x3), (4, .int x4)] [] σ (0, 0)) ∧ (∀ (x4 : Int32) (z0 : Int32) (z1 : Int32) (σ : Sg), XI (mV M) σ → FX (fun id => False) (fun _ _ => False) σ0 σ → (0 ≤ x4.toInt) → (x4.toInt ≤ 9) → (11 - x4.toInt).toNat * 2 < n → PS M 73 [(0, .ref c0), (1, .ref a1), (4, .int x4)] [.int z0, .int z1] σ (0, 0)) := by
    intro n
    induction n with
    | zero => exact ⟨fun _ _ _ _ _ _ _ _ _ _ h8 => absurd h8 (Nat.not_lt_zero _), fun _ _ _ _ _ _ _ _ h8 => absurd h8 (Nat.not_lt_zero _)⟩
    | succ n ih =>
      obtain ⟨ih8, ih73⟩ := ih
      refine ⟨?_, ?_⟩
      · intro x2 x3 x4 σ mσ fσ lx3 ux3 lx4 ux4 hmu
        have k_1 : (gi σ c0 8).toInt = (gi σ0 c0 8).toInt := congrArg Int32.toInt (FX_i fσ id id)
        have t_2 := XI_c1 mσ (id := c0) (k := 8) (lim_F0_8 hc0)
        refine s_X2_paceOf_8 C hN hc0 lc0 ha1 la1 ?_
        refine ⟨?_, ?_⟩
        · intro q_3
          have b_4 : (gi σ c0 8).toInt ≤ x4.toInt := Int32.le_iff_toInt_le.mp q_3
          refine ⟨?_, ?_⟩
          · intro q_5
            have w_6 := Int32.toInt_lt x2
            have w_7 := Int32.le_toInt x2
            have b_8 : x2.toInt ≤ 0 := Int32.le_iff_toInt_le.mp q_5
            have z_9 : (0 : Int32).toInt = 0 := rfl
            exact h9ret (0 : Int32) σ mσ fσ
          · intro q_5
            have w_10 := Int32.toInt_lt x2
            have w_11 := Int32.le_toInt x2
            have b_12 : ¬ x2.toInt ≤ 0 := fun h9 => q_5 (Int32.le_iff_toInt_le.mpr h9)
            exact h9ret x2 σ mσ fσ
        · intro q_3
          have b_13 : ¬ (gi σ c0 8).toInt ≤ x4.toInt := fun h9 => q_3 (Int32.le_iff_toInt_le.mpr h9)
          have hv_14 : vp_in x4 10 := vp_in_iff.mpr ⟨by omega, by omega⟩
          refine ⟨hv_14, ?_⟩
          refine ⟨?_, ?_⟩
          · intro q_15
            have w_16 := Int32.toInt_lt (gi σ (c0 + 2) x4.toNatClampNeg)
            have w_17 := Int32.le_toInt (gi σ (c0 + 2) x4.toNatClampNeg)
            have b_18 : (1 : Int) < (gi σ (c0 + 2) x4.toNatClampNeg).toInt := Int32.lt_iff_toInt_lt.mp q_15
            refine ⟨hv_14, ?_⟩
            intro v6 ev6
            have t_19 := XI_c1 mσ (id := (c0 + 4)) (k := x4.toNatClampNeg) (lim_F4 hc0 _)
            have t_20 : v6.toInt = (gi σ (c0 + 4) x4.toNatClampNeg).toInt := congrArg Int32.toInt ev6
            intro v7 ev7
            have t_21 : (x4 + (1 : Int32)).toInt = x4.toInt + 1 := i_add (x := x4) (y := (1 : Int32)) (by show (_ : Int) ≤ x4.toInt + 1; omega) (by show x4.toInt + 1 ≤ (_ : Int); omega)
            have t_22 : v7.toInt = (x4 + (1 : Int32)).toInt := congrArg Int32.toInt ev7
            have w_23 := Int32.toInt_lt x2
            have w_24 := Int32.le_toInt x2
            exact ih8 x2 v6 v7 σ mσ fσ (by omega) (by omega) (by omega) (by omega) (by omega)
          · intro q_15
            have w_25 := Int32.toInt_lt (gi σ (c0 + 2) x4.toNatClampNeg)
            have w_26 := Int32.le_toInt (gi σ (c0 + 2) x4.toNatClampNeg)
            have b_27 : ¬ (1 : Int) < (gi σ (c0 + 2) x4.toNatClampNeg).toInt := fun h9 => q_15 (Int32.lt_iff_toInt_lt.mpr h9)
            refine ⟨hv_14, ?_⟩
            have t_28 := XI_c1 mσ (id := (c0 + 4)) (k := x4.toNatClampNeg) (lim_F4 hc0 _)
            refine k_X2_holds hc0 lc0 ha1 la1 mσ  (by omega) (by omega) (by first | omega | assumption | rfl) (fun r10 σ9 mσ9 cσ9 plσ9 phσ9 => ?_)
            obtain rfl := FX_nil cσ9
            refine ⟨?_, ?_⟩
            · intro q_29
              have b_30 : r10.toInt = 0 := congrArg Int32.toInt q_29
              refine ⟨hv_14, ?_⟩
              intro v13 ev13
              have t_31 : v13.toInt = (gi σ (c0 + 4) x4.toNatClampNeg).toInt := congrArg Int32.toInt ev13
              intro v14 ev14
              have t_32 : (x4 + (1 : Int32)).toInt = x4.toInt + 1 := i_add (x := x4) (y := (1 : Int32)) (by show (_ : Int) ≤ x4.toInt + 1; omega) (by show x4.toInt + 1 ≤ (_ : Int); omega)
              have t_33 : v14.toInt = (x4 + (1 : Int32)).toInt := congrArg Int32.toInt ev14
              have w_34 := Int32.toInt_lt x2
              have w_35 := Int32.le_toInt x2
              exact ih8 x2 v13 v14 σ mσ fσ (by omega) (by omega) (by omega) (by omega) (by omega)
            · intro q_29
              have b_36 : ¬ r10.toInt = 0 := fun h9 => q_29 (Int32.toInt_inj.mp h9)
              refine ⟨hv_14, ?_⟩
              refine ⟨?_, ?_⟩
              · intro q_37
                have b_38 : ¬ (gi σ (c0 + 2) x4.toNatClampNeg).toInt = 0 := fun h9 => q_37 (Int32.toInt_inj.mp h9)
                refine ⟨hv_14, ?_⟩
                have w_39 := Int32.toInt_lt x2
                have w_40 := Int32.le_toInt x2
                exact ih73 x4 (-(gi σ (c0 + 3) x4.toNatClampNeg)) x2 σ mσ fσ (by omega) (by omega) (by omega)
              · intro q_37
                have b_41 : (gi σ (c0 + 2) x4.toNatClampNeg).toInt = 0 := congrArg Int32.toInt q_37
                refine ⟨hv_14, ?_⟩
                have w_42 := Int32.toInt_lt (gi σ (c0 + 3) x4.toNatClampNeg)
                have w_43 := Int32.le_toInt (gi σ (c0 + 3) x4.toNatClampNeg)
                have w_44 := Int32.toInt_lt x2
                have w_45 := Int32.le_toInt x2
                exact ih73 x4 (gi σ (c0 + 3) x4.toNatClampNeg) x2 σ mσ fσ (by omega) (by omega) (by omega)
      · intro x4 z0 z1 σ mσ fσ lx4 ux4 hmu
        have k_46 : (gi σ c0 8).toInt = (gi σ0 c0 8).toInt := congrArg Int32.toInt (FX_i fσ id id)
        have t_47 := XI_c1 mσ (id := c0) (k := 8) (lim_F0_8 hc0)
        refine s_X2_paceOf_73 C hN hc0 lc0 ha1 la1 ?_
        intro v1 ev1
        have hv_48 : vp_in x4 10 := vp_in_iff.mpr ⟨by omega, by omega⟩
        refine ⟨hv_48, ?_⟩
        intro v3 ev3
        have t_49 := XI_c1 mσ (id := (c0 + 4)) (k := x4.toNatClampNeg) (lim_F4 hc0 _)
        have t_50 : v3.toInt = (gi σ (c0 + 4) x4.toNatClampNeg).toInt := congrArg Int32.toInt ev3
        intro v4 ev4
        have t_51 : (x4 + (1 : Int32)).toInt = x4.toInt + 1 := i_add (x := x4) (y := (1 : Int32)) (by show (_ : Int) ≤ x4.toInt + 1; omega) (by show x4.toInt + 1 ≤ (_ : Int); omega)
        have t_52 : v4.toInt = (x4 + (1 : Int32)).toInt := congrArg Int32.toInt ev4
        have w_53 := Int32.toInt_lt v1
        have w_54 := Int32.le_toInt v1
        exact ih8 v1 v3 v4 σ mσ fσ (by omega) (by omega) (by omega) (by omega) (by omega)
  obtain ⟨U8, U73⟩ := T 900
  have f0 : FX (fun id => False) (fun _ _ => False) σ0 σ0 := FX_rf
  have t_55 := XI_c1 m0 (id := c0) (k := 8) (lim_F0_8 hc0)
  refine s_X2_paceOf_0 C hN hc0 lc0 ha1 la1 ?_
  have z_56 : (6 : Int32).toInt = 6 := rfl
  have z_57 : (0 : Int32).toInt = 0 := rfl
  exact U8 (6 : Int32) (0 : Int32) (0 : Int32) σ0 m0 f0 (by omega) (by omega) (by omega) (by omega) (by omega)
set_option maxRecDepth 100000 in
set_option maxHeartbeats 4000000 in
theorem k_X2_reads {l : Launch} {V : Vx} {c0 : Nat} {a1 : Nat} {a2 : Int32} {σ0 : Sg} {Qk : Int32 → Sg → Prop} (hc0 : kd c0 = (12, 0)) (lc0 : c0 ∈ ids (V)) {na1 : Nat} (ha1 : kd a1 = (1, na1)) (la1 : a1 ∈ ids (V)) (m0 : XI V σ0) (l_a2 : 0 ≤ a2.toInt) (u_a2 : a2.toInt ≤ 100) (pre0 : a1 = 50) (pre1 : na1 = 100) (h9ret : ∀ (r : Int32) (σ' : Sg), XI V σ' → FX (fun id => id = c0 + 1 ∨ id = c0 + 2 ∨ id = c0 + 3 ∨ id = c0 + 4) (fun id k => (id = c0 ∧ k = 0) ∨ (id = c0 ∧ k = 1) ∨ (id = c0 ∧ k = 2) ∨ (id = c0 ∧ k = 4) ∨ (id = c0 ∧ k = 8) ∨ (id = c0 ∧ k = 9) ∨ (id = c0 ∧ k = 10) ∨ (id = c0 ∧ k = 11)) σ0 σ' → (0 ≤ r.toInt) → (r.toInt ≤ 1) → Qk r σ') : K_X2_reads l V c0 a1 a2 σ0 Qk := by
  refine e_X2_reads (fun M hl hV hN C => ?_)
  subst hl
  subst hV
  have gc0 : hid _ := kdF_ge hc0
  have hn1 : (Int32.ofNat na1).toInt = 100 := by rw [pre1]; rfl
  have T : ∀ n : Nat, (∀ (x3 : Int32) (σ : Sg), XI (mV M) σ → FX (fun id => id = c0 + 1 ∨ id = c0 + 2 ∨ id = c0 + 3 ∨ id = c0 + 4) (fun id k => (id = c0 ∧ k = 0) ∨ (id = c0 ∧ k = 1) ∨ (id = c0 ∧ k = 2) ∨ (id = c0 ∧ k = 4) ∨ (id = c0 ∧ k = 8) ∨ (id = c0 ∧ k = 9) ∨ (id = c0 ∧ k = 10) ∨ (id = c0 ∧ k = 11)) σ0 σ → (1 ≤ x3.toInt) → (x3.toInt ≤ 10) → (gr σ c0 9 = some 50) → (11 - x3.toInt).toNat < n → PS M 48 [(0, .ref c0), (3, .int x3)] [] σ (0, 0)) := by
    intro n
    induction n with
    | zero => exact fun _ _ _ _ _ _ _ h8 => absurd h8 (Nat.not_lt_zero _)
    | succ n ih =>
      have ih48 := ih
      · intro x3 σ mσ fσ lx3 ux3 i0 hmu
        have t_1 := XI_c1 mσ (id := c0) (k := 10) (lim_F0_10 hc0)
        have t_2 := XI_c1 mσ (id := c0) (k := 11) (lim_F0_11 hc0)
        refine s_X2_reads_48 C hN hc0 lc0 ?_
        refine ⟨?_, ?_⟩
        · intro q_3
          have b_4 : (10 : Int) ≤ x3.toInt := Int32.le_iff_toInt_le.mp q_3
          refine k_X2_readsClause hc0 lc0 mσ  (by first | omega | assumption | rfl) (fun r3 σ2 mσ2 cσ2 plσ2 phσ2 => ?_)
          have fσ2 : FX (fun id => id = c0 + 1 ∨ id = c0 + 2 ∨ id = c0 + 3 ∨ id = c0 + 4) (fun id k => (id = c0 ∧ k = 0) ∨ (id = c0 ∧ k = 1) ∨ (id = c0 ∧ k = 2) ∨ (id = c0 ∧ k = 4) ∨ (id = c0 ∧ k = 8) ∨ (id = c0 ∧ k = 9) ∨ (id = c0 ∧ k = 10) ∨ (id = c0 ∧ k = 11)) σ0 σ2 := FX_tr fσ cσ2 (fun x (h9 : x = c0 + 1 ∨ x = c0 + 2 ∨ x = c0 + 3 ∨ x = c0 + 4) => h9.elim (fun e9 => (show x = c0 + 1 ∨ x = c0 + 2 ∨ x = c0 + 3 ∨ x = c0 + 4 from Or.inl (e9))) (fun h9 => h9.elim (fun e9 => (show x = c0 + 1 ∨ x = c0 + 2 ∨ x = c0 + 3 ∨ x = c0 + 4 from Or.inr (Or.inl (e9)))) (fun h9 => h9.elim (fun e9 => (show x = c0 + 1 ∨ x = c0 + 2 ∨ x = c0 + 3 ∨ x = c0 + 4 from Or.inr (Or.inr (Or.inl (e9))))) (fun h9 => (show x = c0 + 1 ∨ x = c0 + 2 ∨ x = c0 + 3 ∨ x = c0 + 4 from Or.inr (Or.inr (Or.inr (h9)))))))) (fun x k (h9 : (x = c0 ∧ k = 0) ∨ (x = c0 ∧ k = 1) ∨ (x = c0 ∧ k = 2) ∨ (x = c0 ∧ k = 4) ∨ (x = c0 ∧ k = 8) ∨ (x = c0 ∧ k = 11)) => (show (x = c0 + 1 ∨ x = c0 + 2 ∨ x = c0 + 3 ∨ x = c0 + 4) ∨ ((x = c0 ∧ k = 0) ∨ (x = c0 ∧ k = 1) ∨ (x = c0 ∧ k = 2) ∨ (x = c0 ∧ k = 4) ∨ (x = c0 ∧ k = 8) ∨ (x = c0 ∧ k = 9) ∨ (x = c0 ∧ k = 10) ∨ (x = c0 ∧ k = 11)) from h9.elim (fun e9 => Or.inr (show (x = c0 ∧ k = 0) ∨ (x = c0 ∧ k = 1) ∨ (x = c0 ∧ k = 2) ∨ (x = c0 ∧ k = 4) ∨ (x = c0 ∧ k = 8) ∨ (x = c0 ∧ k = 9) ∨ (x = c0 ∧ k = 10) ∨ (x = c0 ∧ k = 11) from Or.inl (e9))) (fun h9 => h9.elim (fun e9 => Or.inr (show (x = c0 ∧ k = 0) ∨ (x = c0 ∧ k = 1) ∨ (x = c0 ∧ k = 2) ∨ (x = c0 ∧ k = 4) ∨ (x = c0 ∧ k = 8) ∨ (x = c0 ∧ k = 9) ∨ (x = c0 ∧ k = 10) ∨ (x = c0 ∧ k = 11) from Or.inr (Or.inl (e9)))) (fun h9 => h9.elim (fun e9 => Or.inr (show (x = c0 ∧ k = 0) ∨ (x = c0 ∧ k = 1) ∨ (x = c0 ∧ k = 2) ∨ (x = c0 ∧ k = 4) ∨ (x = c0 ∧ k = 8) ∨ (x = c0 ∧ k = 9) ∨ (x = c0 ∧ k = 10) ∨ (x = c0 ∧ k = 11) from Or.inr (Or.inr (Or.inl (e9))))) (fun h9 => h9.elim (fun e9 => Or.inr (show (x = c0 ∧ k = 0) ∨ (x = c0 ∧ k = 1) ∨ (x = c0 ∧ k = 2) ∨ (x = c0 ∧ k = 4) ∨ (x = c0 ∧ k = 8) ∨ (x = c0 ∧ k = 9) ∨ (x = c0 ∧ k = 10) ∨ (x = c0 ∧ k = 11) from Or.inr (Or.inr (Or.inr (Or.inl (e9)))))) (fun h9 => h9.elim (fun e9 => Or.inr (show (x = c0 ∧ k = 0) ∨ (x = c0 ∧ k = 1) ∨ (x = c0 ∧ k = 2) ∨ (x = c0 ∧ k = 4) ∨ (x = c0 ∧ k = 8) ∨ (x = c0 ∧ k = 9) ∨ (x = c0 ∧ k = 10) ∨ (x = c0 ∧ k = 11) from Or.inr (Or.inr (Or.inr (Or.inr (Or.inl (e9))))))) (fun h9 => Or.inr (show (x = c0 ∧ k = 0) ∨ (x = c0 ∧ k = 1) ∨ (x = c0 ∧ k = 2) ∨ (x = c0 ∧ k = 4) ∨ (x = c0 ∧ k = 8) ∨ (x = c0 ∧ k = 9) ∨ (x = c0 ∧ k = 10) ∨ (x = c0 ∧ k = 11) from Or.inr (Or.inr (Or.inr (Or.inr (Or.inr (Or.inr (Or.inr (h9)))))))))))))))
          have k_5 : (gi σ2 c0 10).toInt = (gi σ c0 10).toInt := congrArg Int32.toInt (FX_i cσ2 (show ¬ (c0 = c0 + 1 ∨ c0 = c0 + 2 ∨ c0 = c0 + 3 ∨ c0 = c0 + 4) from by first | omega | (have ugc0 := un gc0; omega)) (show ¬ ((c0 = c0 ∧ 10 = 0) ∨ (c0 = c0 ∧ 10 = 1) ∨ (c0 = c0 ∧ 10 = 2) ∨ (c0 = c0 ∧ 10 = 4) ∨ (c0 = c0 ∧ 10 = 8) ∨ (c0 = c0 ∧ 10 = 11)) from by first | omega | (have ugc0 := un gc0; omega)))
          have t_6 := XI_c1 mσ2 (id := c0) (k := 11) (lim_F0_11 hc0)
          have kr_7 : gr σ2 c0 9 = some 50 := (FX_r cσ2 (show ¬ (c0 = c0 + 1 ∨ c0 = c0 + 2 ∨ c0 = c0 + 3 ∨ c0 = c0 + 4) from by first | omega | (have ugc0 := un gc0; omega)) (show ¬ ((c0 = c0 ∧ 9 = 0) ∨ (c0 = c0 ∧ 9 = 1) ∨ (c0 = c0 ∧ 9 = 2) ∨ (c0 = c0 ∧ 9 = 4) ∨ (c0 = c0 ∧ 9 = 8) ∨ (c0 = c0 ∧ 9 = 11)) from by first | omega | (have ugc0 := un gc0; omega))).trans i0
          refine ⟨?_, ?_⟩
          · intro q_8
            have b_9 : r3.toInt = 0 := congrArg Int32.toInt q_8
            have z_10 : (0 : Int32).toInt = 0 := rfl
            exact h9ret (0 : Int32) σ2 mσ2 fσ2 (by omega) (by omega)
          · intro q_8
            have b_11 : ¬ r3.toInt = 0 := fun h9 => q_8 (Int32.toInt_inj.mp h9)
            refine ⟨?_, ?_⟩
            · intro q_12
              have t_13 := XI_c1 mσ2 (id := c0) (k := 10) (lim_F0_10 hc0)
              have b_14 : ¬ (gi σ2 c0 11).toInt = (gi σ2 c0 10).toInt := fun h9 => q_12 (Int32.toInt_inj.mp h9)
              have z_15 : (0 : Int32).toInt = 0 := rfl
              exact h9ret (0 : Int32) σ2 mσ2 fσ2 (by omega) (by omega)
            · intro q_12
              have t_16 := XI_c1 mσ2 (id := c0) (k := 10) (lim_F0_10 hc0)
              have b_17 : (gi σ2 c0 11).toInt = (gi σ2 c0 10).toInt := congrArg Int32.toInt q_12
              have z_18 : (1 : Int32).toInt = 1 := rfl
              exact h9ret (1 : Int32) σ2 mσ2 fσ2 (by omega) (by omega)
        · intro q_3
          have b_19 : ¬ (10 : Int) ≤ x3.toInt := fun h9 => q_3 (Int32.le_iff_toInt_le.mpr h9)
          refine k_X2_readsClause hc0 lc0 mσ  (by first | omega | assumption | rfl) (fun r7 σ6 mσ6 cσ6 plσ6 phσ6 => ?_)
          have fσ6 : FX (fun id => id = c0 + 1 ∨ id = c0 + 2 ∨ id = c0 + 3 ∨ id = c0 + 4) (fun id k => (id = c0 ∧ k = 0) ∨ (id = c0 ∧ k = 1) ∨ (id = c0 ∧ k = 2) ∨ (id = c0 ∧ k = 4) ∨ (id = c0 ∧ k = 8) ∨ (id = c0 ∧ k = 9) ∨ (id = c0 ∧ k = 10) ∨ (id = c0 ∧ k = 11)) σ0 σ6 := FX_tr fσ cσ6 (fun x (h9 : x = c0 + 1 ∨ x = c0 + 2 ∨ x = c0 + 3 ∨ x = c0 + 4) => h9.elim (fun e9 => (show x = c0 + 1 ∨ x = c0 + 2 ∨ x = c0 + 3 ∨ x = c0 + 4 from Or.inl (e9))) (fun h9 => h9.elim (fun e9 => (show x = c0 + 1 ∨ x = c0 + 2 ∨ x = c0 + 3 ∨ x = c0 + 4 from Or.inr (Or.inl (e9)))) (fun h9 => h9.elim (fun e9 => (show x = c0 + 1 ∨ x = c0 + 2 ∨ x = c0 + 3 ∨ x = c0 + 4 from Or.inr (Or.inr (Or.inl (e9))))) (fun h9 => (show x = c0 + 1 ∨ x = c0 + 2 ∨ x = c0 + 3 ∨ x = c0 + 4 from Or.inr (Or.inr (Or.inr (h9)))))))) (fun x k (h9 : (x = c0 ∧ k = 0) ∨ (x = c0 ∧ k = 1) ∨ (x = c0 ∧ k = 2) ∨ (x = c0 ∧ k = 4) ∨ (x = c0 ∧ k = 8) ∨ (x = c0 ∧ k = 11)) => (show (x = c0 + 1 ∨ x = c0 + 2 ∨ x = c0 + 3 ∨ x = c0 + 4) ∨ ((x = c0 ∧ k = 0) ∨ (x = c0 ∧ k = 1) ∨ (x = c0 ∧ k = 2) ∨ (x = c0 ∧ k = 4) ∨ (x = c0 ∧ k = 8) ∨ (x = c0 ∧ k = 9) ∨ (x = c0 ∧ k = 10) ∨ (x = c0 ∧ k = 11)) from h9.elim (fun e9 => Or.inr (show (x = c0 ∧ k = 0) ∨ (x = c0 ∧ k = 1) ∨ (x = c0 ∧ k = 2) ∨ (x = c0 ∧ k = 4) ∨ (x = c0 ∧ k = 8) ∨ (x = c0 ∧ k = 9) ∨ (x = c0 ∧ k = 10) ∨ (x = c0 ∧ k = 11) from Or.inl (e9))) (fun h9 => h9.elim (fun e9 => Or.inr (show (x = c0 ∧ k = 0) ∨ (x = c0 ∧ k = 1) ∨ (x = c0 ∧ k = 2) ∨ (x = c0 ∧ k = 4) ∨ (x = c0 ∧ k = 8) ∨ (x = c0 ∧ k = 9) ∨ (x = c0 ∧ k = 10) ∨ (x = c0 ∧ k = 11) from Or.inr (Or.inl (e9)))) (fun h9 => h9.elim (fun e9 => Or.inr (show (x = c0 ∧ k = 0) ∨ (x = c0 ∧ k = 1) ∨ (x = c0 ∧ k = 2) ∨ (x = c0 ∧ k = 4) ∨ (x = c0 ∧ k = 8) ∨ (x = c0 ∧ k = 9) ∨ (x = c0 ∧ k = 10) ∨ (x = c0 ∧ k = 11) from Or.inr (Or.inr (Or.inl (e9))))) (fun h9 => h9.elim (fun e9 => Or.inr (show (x = c0 ∧ k = 0) ∨ (x = c0 ∧ k = 1) ∨ (x = c0 ∧ k = 2) ∨ (x = c0 ∧ k = 4) ∨ (x = c0 ∧ k = 8) ∨ (x = c0 ∧ k = 9) ∨ (x = c0 ∧ k = 10) ∨ (x = c0 ∧ k = 11) from Or.inr (Or.inr (Or.inr (Or.inl (e9)))))) (fun h9 => h9.elim (fun e9 => Or.inr (show (x = c0 ∧ k = 0) ∨ (x = c0 ∧ k = 1) ∨ (x = c0 ∧ k = 2) ∨ (x = c0 ∧ k = 4) ∨ (x = c0 ∧ k = 8) ∨ (x = c0 ∧ k = 9) ∨ (x = c0 ∧ k = 10) ∨ (x = c0 ∧ k = 11) from Or.inr (Or.inr (Or.inr (Or.inr (Or.inl (e9))))))) (fun h9 => Or.inr (show (x = c0 ∧ k = 0) ∨ (x = c0 ∧ k = 1) ∨ (x = c0 ∧ k = 2) ∨ (x = c0 ∧ k = 4) ∨ (x = c0 ∧ k = 8) ∨ (x = c0 ∧ k = 9) ∨ (x = c0 ∧ k = 10) ∨ (x = c0 ∧ k = 11) from Or.inr (Or.inr (Or.inr (Or.inr (Or.inr (Or.inr (Or.inr (h9)))))))))))))))
          have k_20 : (gi σ6 c0 10).toInt = (gi σ c0 10).toInt := congrArg Int32.toInt (FX_i cσ6 (show ¬ (c0 = c0 + 1 ∨ c0 = c0 + 2 ∨ c0 = c0 + 3 ∨ c0 = c0 + 4) from by first | omega | (have ugc0 := un gc0; omega)) (show ¬ ((c0 = c0 ∧ 10 = 0) ∨ (c0 = c0 ∧ 10 = 1) ∨ (c0 = c0 ∧ 10 = 2) ∨ (c0 = c0 ∧ 10 = 4) ∨ (c0 = c0 ∧ 10 = 8) ∨ (c0 = c0 ∧ 10 = 11)) from by first | omega | (have ugc0 := un gc0; omega)))
          have t_21 := XI_c1 mσ6 (id := c0) (k := 11) (lim_F0_11 hc0)
          have kr_22 : gr σ6 c0 9 = some 50 := (FX_r cσ6 (show ¬ (c0 = c0 + 1 ∨ c0 = c0 + 2 ∨ c0 = c0 + 3 ∨ c0 = c0 + 4) from by first | omega | (have ugc0 := un gc0; omega)) (show ¬ ((c0 = c0 ∧ 9 = 0) ∨ (c0 = c0 ∧ 9 = 1) ∨ (c0 = c0 ∧ 9 = 2) ∨ (c0 = c0 ∧ 9 = 4) ∨ (c0 = c0 ∧ 9 = 8) ∨ (c0 = c0 ∧ 9 = 11)) from by first | omega | (have ugc0 := un gc0; omega))).trans i0
          refine ⟨?_, ?_⟩
          · intro q_23
            have b_24 : ¬ r7.toInt = 0 := fun h9 => q_23 (Int32.toInt_inj.mp h9)
            have z_25 : (59 : Int32).toInt = 59 := rfl
            refine k_X2_takes hc0 lc0 mσ6  (by omega) (by omega) (by first | omega | assumption | rfl) (fun r10 σ9 mσ9 cσ9 plσ9 phσ9 => ?_)
            have fσ9 : FX (fun id => id = c0 + 1 ∨ id = c0 + 2 ∨ id = c0 + 3 ∨ id = c0 + 4) (fun id k => (id = c0 ∧ k = 0) ∨ (id = c0 ∧ k = 1) ∨ (id = c0 ∧ k = 2) ∨ (id = c0 ∧ k = 4) ∨ (id = c0 ∧ k = 8) ∨ (id = c0 ∧ k = 9) ∨ (id = c0 ∧ k = 10) ∨ (id = c0 ∧ k = 11)) σ0 σ9 := FX_tr fσ6 cσ9 (fun _ h9 => h9.elim) (fun x k (h9 : (x = c0 ∧ k = 11)) => (show (x = c0 + 1 ∨ x = c0 + 2 ∨ x = c0 + 3 ∨ x = c0 + 4) ∨ ((x = c0 ∧ k = 0) ∨ (x = c0 ∧ k = 1) ∨ (x = c0 ∧ k = 2) ∨ (x = c0 ∧ k = 4) ∨ (x = c0 ∧ k = 8) ∨ (x = c0 ∧ k = 9) ∨ (x = c0 ∧ k = 10) ∨ (x = c0 ∧ k = 11)) from Or.inr (show (x = c0 ∧ k = 0) ∨ (x = c0 ∧ k = 1) ∨ (x = c0 ∧ k = 2) ∨ (x = c0 ∧ k = 4) ∨ (x = c0 ∧ k = 8) ∨ (x = c0 ∧ k = 9) ∨ (x = c0 ∧ k = 10) ∨ (x = c0 ∧ k = 11) from Or.inr (Or.inr (Or.inr (Or.inr (Or.inr (Or.inr (Or.inr (h9))))))))))
            have k_26 : (gi σ9 c0 10).toInt = (gi σ6 c0 10).toInt := congrArg Int32.toInt (FX_i cσ9 id (show ¬ ((c0 = c0 ∧ 10 = 11)) from by first | omega | (have ugc0 := un gc0; omega)))
            have t_27 := XI_c1 mσ9 (id := c0) (k := 11) (lim_F0_11 hc0)
            have kr_28 : gr σ9 c0 9 = some 50 := (FX_r cσ9 id (show ¬ ((c0 = c0 ∧ 9 = 11)) from by first | omega | (have ugc0 := un gc0; omega))).trans kr_22
            refine ⟨?_, ?_⟩
            · intro q_29
              have b_30 : ¬ r10.toInt = 0 := fun h9 => q_29 (Int32.toInt_inj.mp h9)
              intro v12 ev12
              have t_31 : (x3 + (1 : Int32)).toInt = x3.toInt + 1 := i_add (x := x3) (y := (1 : Int32)) (by show (_ : Int) ≤ x3.toInt + 1; omega) (by show x3.toInt + 1 ≤ (_ : Int); omega)
              have t_32 : v12.toInt = (x3 + (1 : Int32)).toInt := congrArg Int32.toInt ev12
              exact ih48 v12 σ9 mσ9 fσ9 (by omega) (by omega) (by first | omega | assumption | rfl) (by omega)
            · intro q_29
              have b_33 : r10.toInt = 0 := congrArg Int32.toInt q_29
              refine ⟨?_, ?_⟩
              · intro q_34
                have t_35 := XI_c1 mσ9 (id := c0) (k := 10) (lim_F0_10 hc0)
                have b_36 : ¬ (gi σ9 c0 11).toInt = (gi σ9 c0 10).toInt := fun h9 => q_34 (Int32.toInt_inj.mp h9)
                have z_37 : (0 : Int32).toInt = 0 := rfl
                exact h9ret (0 : Int32) σ9 mσ9 fσ9 (by omega) (by omega)
              · intro q_34
                have t_38 := XI_c1 mσ9 (id := c0) (k := 10) (lim_F0_10 hc0)
                have b_39 : (gi σ9 c0 11).toInt = (gi σ9 c0 10).toInt := congrArg Int32.toInt q_34
                have z_40 : (1 : Int32).toInt = 1 := rfl
                exact h9ret (1 : Int32) σ9 mσ9 fσ9 (by omega) (by omega)
          · intro q_23
            have b_41 : r7.toInt = 0 := congrArg Int32.toInt q_23
            have z_42 : (0 : Int32).toInt = 0 := rfl
            exact h9ret (0 : Int32) σ6 mσ6 fσ6 (by omega) (by omega)
  have U48 := T 90
  have f0 : FX (fun id => id = c0 + 1 ∨ id = c0 + 2 ∨ id = c0 + 3 ∨ id = c0 + 4) (fun id k => (id = c0 ∧ k = 0) ∨ (id = c0 ∧ k = 1) ∨ (id = c0 ∧ k = 2) ∨ (id = c0 ∧ k = 4) ∨ (id = c0 ∧ k = 8) ∨ (id = c0 ∧ k = 9) ∨ (id = c0 ∧ k = 10) ∨ (id = c0 ∧ k = 11)) σ0 σ0 := FX_rf
  have t_43 := XI_c1 m0 (id := c0) (k := 10) (lim_F0_10 hc0)
  have t_44 := XI_c1 m0 (id := c0) (k := 11) (lim_F0_11 hc0)
  refine s_X2_reads_0 C hN hc0 lc0 ha1 la1 ?_
  intro σ1 eσ1
  have mσ1 : XI (mV M) σ1 := by rw [eσ1]; exact XIs_n m0 (lim_F0_n hc0 _ (by decide))
  have fσ1 : FX (fun id => id = c0 + 1 ∨ id = c0 + 2 ∨ id = c0 + 3 ∨ id = c0 + 4) (fun id k => (id = c0 ∧ k = 0) ∨ (id = c0 ∧ k = 1) ∨ (id = c0 ∧ k = 2) ∨ (id = c0 ∧ k = 4) ∨ (id = c0 ∧ k = 8) ∨ (id = c0 ∧ k = 9) ∨ (id = c0 ∧ k = 10) ∨ (id = c0 ∧ k = 11)) σ0 σ1 := by rw [eσ1]; exact FX_si f0 (Or.inr (show (c0 = c0 ∧ 0 = 0) ∨ (c0 = c0 ∧ 0 = 1) ∨ (c0 = c0 ∧ 0 = 2) ∨ (c0 = c0 ∧ 0 = 4) ∨ (c0 = c0 ∧ 0 = 8) ∨ (c0 = c0 ∧ 0 = 9) ∨ (c0 = c0 ∧ 0 = 10) ∨ (c0 = c0 ∧ 0 = 11) from Or.inl (⟨rfl, rfl⟩)))
  have k_45 : (gi σ1 c0 10).toInt = (gi σ0 c0 10).toInt := by rw [eσ1]; exact congrArg Int32.toInt (gi_si_ne (Or.inr (by decide)))
  have k_46 : (gi σ1 c0 11).toInt = (gi σ0 c0 11).toInt := by rw [eσ1]; exact congrArg Int32.toInt (gi_si_ne (Or.inr (by decide)))
  intro σ2 eσ2
  have mσ2 : XI (mV M) σ2 := by rw [eσ2]; exact XIs_n mσ1 (lim_F0_n hc0 _ (by decide))
  have fσ2 : FX (fun id => id = c0 + 1 ∨ id = c0 + 2 ∨ id = c0 + 3 ∨ id = c0 + 4) (fun id k => (id = c0 ∧ k = 0) ∨ (id = c0 ∧ k = 1) ∨ (id = c0 ∧ k = 2) ∨ (id = c0 ∧ k = 4) ∨ (id = c0 ∧ k = 8) ∨ (id = c0 ∧ k = 9) ∨ (id = c0 ∧ k = 10) ∨ (id = c0 ∧ k = 11)) σ0 σ2 := by rw [eσ2]; exact FX_si fσ1 (Or.inr (show (c0 = c0 ∧ 1 = 0) ∨ (c0 = c0 ∧ 1 = 1) ∨ (c0 = c0 ∧ 1 = 2) ∨ (c0 = c0 ∧ 1 = 4) ∨ (c0 = c0 ∧ 1 = 8) ∨ (c0 = c0 ∧ 1 = 9) ∨ (c0 = c0 ∧ 1 = 10) ∨ (c0 = c0 ∧ 1 = 11) from Or.inr (Or.inl (⟨rfl, rfl⟩))))
  have k_47 : (gi σ2 c0 10).toInt = (gi σ1 c0 10).toInt := by rw [eσ2]; exact congrArg Int32.toInt (gi_si_ne (Or.inr (by decide)))
  have k_48 : (gi σ2 c0 11).toInt = (gi σ1 c0 11).toInt := by rw [eσ2]; exact congrArg Int32.toInt (gi_si_ne (Or.inr (by decide)))
  intro σ3 eσ3
  have mσ3 : XI (mV M) σ3 := by rw [eσ3]; exact XIs_n mσ2 (lim_F0_n hc0 _ (by decide))
  have fσ3 : FX (fun id => id = c0 + 1 ∨ id = c0 + 2 ∨ id = c0 + 3 ∨ id = c0 + 4) (fun id k => (id = c0 ∧ k = 0) ∨ (id = c0 ∧ k = 1) ∨ (id = c0 ∧ k = 2) ∨ (id = c0 ∧ k = 4) ∨ (id = c0 ∧ k = 8) ∨ (id = c0 ∧ k = 9) ∨ (id = c0 ∧ k = 10) ∨ (id = c0 ∧ k = 11)) σ0 σ3 := by rw [eσ3]; exact FX_si fσ2 (Or.inr (show (c0 = c0 ∧ 2 = 0) ∨ (c0 = c0 ∧ 2 = 1) ∨ (c0 = c0 ∧ 2 = 2) ∨ (c0 = c0 ∧ 2 = 4) ∨ (c0 = c0 ∧ 2 = 8) ∨ (c0 = c0 ∧ 2 = 9) ∨ (c0 = c0 ∧ 2 = 10) ∨ (c0 = c0 ∧ 2 = 11) from Or.inr (Or.inr (Or.inl (⟨rfl, rfl⟩)))))
  have k_49 : (gi σ3 c0 10).toInt = (gi σ2 c0 10).toInt := by rw [eσ3]; exact congrArg Int32.toInt (gi_si_ne (Or.inr (by decide)))
  have k_50 : (gi σ3 c0 11).toInt = (gi σ2 c0 11).toInt := by rw [eσ3]; exact congrArg Int32.toInt (gi_si_ne (Or.inr (by decide)))
  intro σ4 eσ4
  have z_51 : (0 : Int32).toInt = 0 := rfl
  have mσ4 : XI (mV M) σ4 := by rw [eσ4]; exact XIs_b mσ3 (lim_F0_4 hc0) (by omega) (by omega)
  have fσ4 : FX (fun id => id = c0 + 1 ∨ id = c0 + 2 ∨ id = c0 + 3 ∨ id = c0 + 4) (fun id k => (id = c0 ∧ k = 0) ∨ (id = c0 ∧ k = 1) ∨ (id = c0 ∧ k = 2) ∨ (id = c0 ∧ k = 4) ∨ (id = c0 ∧ k = 8) ∨ (id = c0 ∧ k = 9) ∨ (id = c0 ∧ k = 10) ∨ (id = c0 ∧ k = 11)) σ0 σ4 := by rw [eσ4]; exact FX_si fσ3 (Or.inr (show (c0 = c0 ∧ 4 = 0) ∨ (c0 = c0 ∧ 4 = 1) ∨ (c0 = c0 ∧ 4 = 2) ∨ (c0 = c0 ∧ 4 = 4) ∨ (c0 = c0 ∧ 4 = 8) ∨ (c0 = c0 ∧ 4 = 9) ∨ (c0 = c0 ∧ 4 = 10) ∨ (c0 = c0 ∧ 4 = 11) from Or.inr (Or.inr (Or.inr (Or.inl (⟨rfl, rfl⟩))))))
  have k_52 : (gi σ4 c0 10).toInt = (gi σ3 c0 10).toInt := by rw [eσ4]; exact congrArg Int32.toInt (gi_si_ne (Or.inr (by decide)))
  have k_53 : (gi σ4 c0 11).toInt = (gi σ3 c0 11).toInt := by rw [eσ4]; exact congrArg Int32.toInt (gi_si_ne (Or.inr (by decide)))
  intro σ5 eσ5
  have mσ5 : XI (mV M) σ5 := by rw [eσ5]; exact XIs_b mσ4 (lim_F0_8 hc0) (by omega) (by omega)
  have fσ5 : FX (fun id => id = c0 + 1 ∨ id = c0 + 2 ∨ id = c0 + 3 ∨ id = c0 + 4) (fun id k => (id = c0 ∧ k = 0) ∨ (id = c0 ∧ k = 1) ∨ (id = c0 ∧ k = 2) ∨ (id = c0 ∧ k = 4) ∨ (id = c0 ∧ k = 8) ∨ (id = c0 ∧ k = 9) ∨ (id = c0 ∧ k = 10) ∨ (id = c0 ∧ k = 11)) σ0 σ5 := by rw [eσ5]; exact FX_si fσ4 (Or.inr (show (c0 = c0 ∧ 8 = 0) ∨ (c0 = c0 ∧ 8 = 1) ∨ (c0 = c0 ∧ 8 = 2) ∨ (c0 = c0 ∧ 8 = 4) ∨ (c0 = c0 ∧ 8 = 8) ∨ (c0 = c0 ∧ 8 = 9) ∨ (c0 = c0 ∧ 8 = 10) ∨ (c0 = c0 ∧ 8 = 11) from Or.inr (Or.inr (Or.inr (Or.inr (Or.inl (⟨rfl, rfl⟩)))))))
  have k_54 : (gi σ5 c0 10).toInt = (gi σ4 c0 10).toInt := by rw [eσ5]; exact congrArg Int32.toInt (gi_si_ne (Or.inr (by decide)))
  have k_55 : (gi σ5 c0 11).toInt = (gi σ4 c0 11).toInt := by rw [eσ5]; exact congrArg Int32.toInt (gi_si_ne (Or.inr (by decide)))
  intro σ6 eσ6
  have e50 : a1 = 50 := by omega
  have mσ6 : XI (mV M) σ6 := by
    rw [eσ6]
    exact XIs_r mσ5 (fun c hc e _ => by have g9 := un gc0; rcases hc with rfl | rfl | rfl <;> (exfalso; omega)) (fun c hc e => by have g9 := un gc0; rcases hc with rfl | rfl | rfl <;> (exfalso; omega)) (fun e => by have g9 := un gc0; exfalso; omega) (fun _ _ => Or.inr (by rw [e50]))
  have fσ6 : FX (fun id => id = c0 + 1 ∨ id = c0 + 2 ∨ id = c0 + 3 ∨ id = c0 + 4) (fun id k => (id = c0 ∧ k = 0) ∨ (id = c0 ∧ k = 1) ∨ (id = c0 ∧ k = 2) ∨ (id = c0 ∧ k = 4) ∨ (id = c0 ∧ k = 8) ∨ (id = c0 ∧ k = 9) ∨ (id = c0 ∧ k = 10) ∨ (id = c0 ∧ k = 11)) σ0 σ6 := by rw [eσ6]; exact FX_sr fσ5 (Or.inr (show (c0 = c0 ∧ 9 = 0) ∨ (c0 = c0 ∧ 9 = 1) ∨ (c0 = c0 ∧ 9 = 2) ∨ (c0 = c0 ∧ 9 = 4) ∨ (c0 = c0 ∧ 9 = 8) ∨ (c0 = c0 ∧ 9 = 9) ∨ (c0 = c0 ∧ 9 = 10) ∨ (c0 = c0 ∧ 9 = 11) from Or.inr (Or.inr (Or.inr (Or.inr (Or.inr (Or.inl (⟨rfl, rfl⟩))))))))
  have k_56 : (gi σ6 c0 10).toInt = (gi σ5 c0 10).toInt := by rw [eσ6]; rfl
  have k_57 : (gi σ6 c0 11).toInt = (gi σ5 c0 11).toInt := by rw [eσ6]; rfl
  have kr_58 : gr σ6 c0 9 = some 50 := by rw [eσ6, gr_sr, if_pos ⟨rfl, rfl⟩, e50]
  intro v7 ev7
  have t_59 := jmin_b a2 (Int32.ofNat na1)
  have t_60 : v7.toInt = (jmin a2 (Int32.ofNat na1)).toInt := congrArg Int32.toInt ev7
  intro σ8 eσ8
  have w_61 := Int32.toInt_lt v7
  have w_62 := Int32.le_toInt v7
  have mσ8 : XI (mV M) σ8 := by rw [eσ8]; exact XIs_b mσ6 (lim_F0_10 hc0) (by omega) (by omega)
  have fσ8 : FX (fun id => id = c0 + 1 ∨ id = c0 + 2 ∨ id = c0 + 3 ∨ id = c0 + 4) (fun id k => (id = c0 ∧ k = 0) ∨ (id = c0 ∧ k = 1) ∨ (id = c0 ∧ k = 2) ∨ (id = c0 ∧ k = 4) ∨ (id = c0 ∧ k = 8) ∨ (id = c0 ∧ k = 9) ∨ (id = c0 ∧ k = 10) ∨ (id = c0 ∧ k = 11)) σ0 σ8 := by rw [eσ8]; exact FX_si fσ6 (Or.inr (show (c0 = c0 ∧ 10 = 0) ∨ (c0 = c0 ∧ 10 = 1) ∨ (c0 = c0 ∧ 10 = 2) ∨ (c0 = c0 ∧ 10 = 4) ∨ (c0 = c0 ∧ 10 = 8) ∨ (c0 = c0 ∧ 10 = 9) ∨ (c0 = c0 ∧ 10 = 10) ∨ (c0 = c0 ∧ 10 = 11) from Or.inr (Or.inr (Or.inr (Or.inr (Or.inr (Or.inr (Or.inl (⟨rfl, rfl⟩)))))))))
  have k_63 : (gi σ8 c0 10).toInt = v7.toInt := by rw [eσ8]; exact congrArg Int32.toInt gi_si_eq
  have k_64 : (gi σ8 c0 11).toInt = (gi σ6 c0 11).toInt := by rw [eσ8]; exact congrArg Int32.toInt (gi_si_ne (Or.inr (by decide)))
  have kr_65 : gr σ8 c0 9 = some 50 := ((by rw [eσ8]; rfl : gr σ8 c0 9 = gr σ6 c0 9)).trans kr_58
  intro σ9 eσ9
  have mσ9 : XI (mV M) σ9 := by rw [eσ9]; exact XIs_b mσ8 (lim_F0_11 hc0) (by omega) (by omega)
  have fσ9 : FX (fun id => id = c0 + 1 ∨ id = c0 + 2 ∨ id = c0 + 3 ∨ id = c0 + 4) (fun id k => (id = c0 ∧ k = 0) ∨ (id = c0 ∧ k = 1) ∨ (id = c0 ∧ k = 2) ∨ (id = c0 ∧ k = 4) ∨ (id = c0 ∧ k = 8) ∨ (id = c0 ∧ k = 9) ∨ (id = c0 ∧ k = 10) ∨ (id = c0 ∧ k = 11)) σ0 σ9 := by rw [eσ9]; exact FX_si fσ8 (Or.inr (show (c0 = c0 ∧ 11 = 0) ∨ (c0 = c0 ∧ 11 = 1) ∨ (c0 = c0 ∧ 11 = 2) ∨ (c0 = c0 ∧ 11 = 4) ∨ (c0 = c0 ∧ 11 = 8) ∨ (c0 = c0 ∧ 11 = 9) ∨ (c0 = c0 ∧ 11 = 10) ∨ (c0 = c0 ∧ 11 = 11) from Or.inr (Or.inr (Or.inr (Or.inr (Or.inr (Or.inr (Or.inr (⟨rfl, rfl⟩)))))))))
  have k_66 : (gi σ9 c0 10).toInt = (gi σ8 c0 10).toInt := by rw [eσ9]; exact congrArg Int32.toInt (gi_si_ne (Or.inr (by decide)))
  have k_67 : (gi σ9 c0 11).toInt = 0 := by rw [eσ9]; exact congrArg Int32.toInt gi_si_eq
  have kr_68 : gr σ9 c0 9 = some 50 := ((by rw [eσ9]; rfl : gr σ9 c0 9 = gr σ8 c0 9)).trans kr_65
  have z_69 : (1 : Int32).toInt = 1 := rfl
  exact U48 (1 : Int32) σ9 mσ9 fσ9 (by omega) (by omega) (by first | omega | assumption | rfl) (by omega)
