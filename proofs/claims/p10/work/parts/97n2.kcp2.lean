set_option maxRecDepth 100000 in
set_option maxHeartbeats 4000000 in
theorem kF_X2_reads {l : Launch} {V : Vx} {c0 : Nat} {a1 : Nat} {a2 : Int32} {σ0 : Sg} {Qk : Int32 → Sg → Prop} (hc0 : kd c0 = (12, 0)) (lc0 : c0 ∈ ids (V)) {na1 : Nat} (ha1 : kd a1 = (1, na1)) (la1 : a1 ∈ ids (V)) (m0 : XI V σ0) (l_a2 : 0 ≤ a2.toInt) (u_a2 : a2.toInt ≤ 100) (pre0 : a1 = 50) (pre1 : na1 = 100) (h9ret : ∀ (r : Int32) (σ' : Sg), XI V σ' → FX (fun id => id = c0 + 1 ∨ id = c0 + 2 ∨ id = c0 + 3 ∨ id = c0 + 4) (fun id k => (id = c0 ∧ k = 0) ∨ (id = c0 ∧ k = 1) ∨ (id = c0 ∧ k = 2) ∨ (id = c0 ∧ k = 4) ∨ (id = c0 ∧ k = 8) ∨ (id = c0 ∧ k = 9) ∨ (id = c0 ∧ k = 10) ∨ (id = c0 ∧ k = 11)) σ0 σ' → (0 ≤ r.toInt) → (r.toInt ≤ 1) → (F_X2_reads c0 a1 a2 σ0 = (r, σ')) → Qk r σ') : K_X2_reads l V c0 a1 a2 σ0 Qk := by
  refine e_X2_reads (fun M hl hV hN C => ?_)
  subst hl
  subst hV
  obtain ⟨R9, H0⟩ : ∃ R9, F_X2_reads c0 a1 a2 σ0 = R9 := ⟨_, rfl⟩
  have gc0 : hid _ := kdF_ge hc0
  have hn1 : (Int32.ofNat na1).toInt = 100 := by rw [pre1]; rfl
  have T : ∀ n : Nat, (∀ (x3 : Int32) (σ : Sg), XI (mV M) σ → FX (fun id => id = c0 + 1 ∨ id = c0 + 2 ∨ id = c0 + 3 ∨ id = c0 + 4) (fun id k => (id = c0 ∧ k = 0) ∨ (id = c0 ∧ k = 1) ∨ (id = c0 ∧ k = 2) ∨ (id = c0 ∧ k = 4) ∨ (id = c0 ∧ k = 8) ∨ (id = c0 ∧ k = 9) ∨ (id = c0 ∧ k = 10) ∨ (id = c0 ∧ k = 11)) σ0 σ → (1 ≤ x3.toInt) → (x3.toInt ≤ 10) → (gr σ c0 9 = some 50) → (LF_X2_reads c0 a1 n x3 σ = R9) → (11 - x3.toInt).toNat < n → PS M 48 [(0, .ref c0), (3, .int x3)] [] σ (0, 0)) := by
    intro n
    induction n with
    | zero => exact fun _ _ _ _ _ _ _ _ h8 => absurd h8 (Nat.not_lt_zero _)
    | succ n ih =>
      have ih48 := ih
      · intro x3 σ mσ fσ lx3 ux3 i0 H hmu
        replace H : LB_X2_reads_48 c0 a1 (LF_X2_reads c0 a1 n) x3 σ = R9 := H
        unfold LB_X2_reads_48 at H
        have t_1 := XI_c1 mσ (id := c0) (k := 10) (lim_F0_10 hc0)
        have t_2 := XI_c1 mσ (id := c0) (k := 11) (lim_F0_11 hc0)
        refine s_X2_reads_48 C hN hc0 lc0 ?_
        refine ⟨?_, ?_⟩
        · intro q_3
          replace H := f_t q_3 H
          have b_4 : (10 : Int) ≤ x3.toInt := Int32.le_iff_toInt_le.mp q_3
          refine kF_X2_readsClause hc0 lc0 mσ  (by first | omega | assumption | rfl) (fun r3 σ2 mσ2 cσ2 plσ2 phσ2 hσ2 => ?_)
          replace H := f_b hσ2 H
          have fσ2 : FX (fun id => id = c0 + 1 ∨ id = c0 + 2 ∨ id = c0 + 3 ∨ id = c0 + 4) (fun id k => (id = c0 ∧ k = 0) ∨ (id = c0 ∧ k = 1) ∨ (id = c0 ∧ k = 2) ∨ (id = c0 ∧ k = 4) ∨ (id = c0 ∧ k = 8) ∨ (id = c0 ∧ k = 9) ∨ (id = c0 ∧ k = 10) ∨ (id = c0 ∧ k = 11)) σ0 σ2 := FX_tr fσ cσ2 (fun x (h9 : x = c0 + 1 ∨ x = c0 + 2 ∨ x = c0 + 3 ∨ x = c0 + 4) => h9.elim (fun e9 => (show x = c0 + 1 ∨ x = c0 + 2 ∨ x = c0 + 3 ∨ x = c0 + 4 from Or.inl (e9))) (fun h9 => h9.elim (fun e9 => (show x = c0 + 1 ∨ x = c0 + 2 ∨ x = c0 + 3 ∨ x = c0 + 4 from Or.inr (Or.inl (e9)))) (fun h9 => h9.elim (fun e9 => (show x = c0 + 1 ∨ x = c0 + 2 ∨ x = c0 + 3 ∨ x = c0 + 4 from Or.inr (Or.inr (Or.inl (e9))))) (fun h9 => (show x = c0 + 1 ∨ x = c0 + 2 ∨ x = c0 + 3 ∨ x = c0 + 4 from Or.inr (Or.inr (Or.inr (h9)))))))) (fun x k (h9 : (x = c0 ∧ k = 0) ∨ (x = c0 ∧ k = 1) ∨ (x = c0 ∧ k = 2) ∨ (x = c0 ∧ k = 4) ∨ (x = c0 ∧ k = 8) ∨ (x = c0 ∧ k = 11)) => (show (x = c0 + 1 ∨ x = c0 + 2 ∨ x = c0 + 3 ∨ x = c0 + 4) ∨ ((x = c0 ∧ k = 0) ∨ (x = c0 ∧ k = 1) ∨ (x = c0 ∧ k = 2) ∨ (x = c0 ∧ k = 4) ∨ (x = c0 ∧ k = 8) ∨ (x = c0 ∧ k = 9) ∨ (x = c0 ∧ k = 10) ∨ (x = c0 ∧ k = 11)) from h9.elim (fun e9 => Or.inr (show (x = c0 ∧ k = 0) ∨ (x = c0 ∧ k = 1) ∨ (x = c0 ∧ k = 2) ∨ (x = c0 ∧ k = 4) ∨ (x = c0 ∧ k = 8) ∨ (x = c0 ∧ k = 9) ∨ (x = c0 ∧ k = 10) ∨ (x = c0 ∧ k = 11) from Or.inl (e9))) (fun h9 => h9.elim (fun e9 => Or.inr (show (x = c0 ∧ k = 0) ∨ (x = c0 ∧ k = 1) ∨ (x = c0 ∧ k = 2) ∨ (x = c0 ∧ k = 4) ∨ (x = c0 ∧ k = 8) ∨ (x = c0 ∧ k = 9) ∨ (x = c0 ∧ k = 10) ∨ (x = c0 ∧ k = 11) from Or.inr (Or.inl (e9)))) (fun h9 => h9.elim (fun e9 => Or.inr (show (x = c0 ∧ k = 0) ∨ (x = c0 ∧ k = 1) ∨ (x = c0 ∧ k = 2) ∨ (x = c0 ∧ k = 4) ∨ (x = c0 ∧ k = 8) ∨ (x = c0 ∧ k = 9) ∨ (x = c0 ∧ k = 10) ∨ (x = c0 ∧ k = 11) from Or.inr (Or.inr (Or.inl (e9))))) (fun h9 => h9.elim (fun e9 => Or.inr (show (x = c0 ∧ k = 0) ∨ (x = c0 ∧ k = 1) ∨ (x = c0 ∧ k = 2) ∨ (x = c0 ∧ k = 4) ∨ (x = c0 ∧ k = 8) ∨ (x = c0 ∧ k = 9) ∨ (x = c0 ∧ k = 10) ∨ (x = c0 ∧ k = 11) from Or.inr (Or.inr (Or.inr (Or.inl (e9)))))) (fun h9 => h9.elim (fun e9 => Or.inr (show (x = c0 ∧ k = 0) ∨ (x = c0 ∧ k = 1) ∨ (x = c0 ∧ k = 2) ∨ (x = c0 ∧ k = 4) ∨ (x = c0 ∧ k = 8) ∨ (x = c0 ∧ k = 9) ∨ (x = c0 ∧ k = 10) ∨ (x = c0 ∧ k = 11) from Or.inr (Or.inr (Or.inr (Or.inr (Or.inl (e9))))))) (fun h9 => Or.inr (show (x = c0 ∧ k = 0) ∨ (x = c0 ∧ k = 1) ∨ (x = c0 ∧ k = 2) ∨ (x = c0 ∧ k = 4) ∨ (x = c0 ∧ k = 8) ∨ (x = c0 ∧ k = 9) ∨ (x = c0 ∧ k = 10) ∨ (x = c0 ∧ k = 11) from Or.inr (Or.inr (Or.inr (Or.inr (Or.inr (Or.inr (Or.inr (h9)))))))))))))))
          have k_5 : (gi σ2 c0 10).toInt = (gi σ c0 10).toInt := congrArg Int32.toInt (FX_i cσ2 (show ¬ (c0 = c0 + 1 ∨ c0 = c0 + 2 ∨ c0 = c0 + 3 ∨ c0 = c0 + 4) from by first | omega | (have ugc0 := un gc0; omega)) (show ¬ ((c0 = c0 ∧ 10 = 0) ∨ (c0 = c0 ∧ 10 = 1) ∨ (c0 = c0 ∧ 10 = 2) ∨ (c0 = c0 ∧ 10 = 4) ∨ (c0 = c0 ∧ 10 = 8) ∨ (c0 = c0 ∧ 10 = 11)) from by first | omega | (have ugc0 := un gc0; omega)))
          have t_6 := XI_c1 mσ2 (id := c0) (k := 11) (lim_F0_11 hc0)
          have kr_7 : gr σ2 c0 9 = some 50 := (FX_r cσ2 (show ¬ (c0 = c0 + 1 ∨ c0 = c0 + 2 ∨ c0 = c0 + 3 ∨ c0 = c0 + 4) from by first | omega | (have ugc0 := un gc0; omega)) (show ¬ ((c0 = c0 ∧ 9 = 0) ∨ (c0 = c0 ∧ 9 = 1) ∨ (c0 = c0 ∧ 9 = 2) ∨ (c0 = c0 ∧ 9 = 4) ∨ (c0 = c0 ∧ 9 = 8) ∨ (c0 = c0 ∧ 9 = 11)) from by first | omega | (have ugc0 := un gc0; omega))).trans i0
          refine ⟨?_, ?_⟩
          · intro q_8
            replace H := f_t q_8 H
            have b_9 : r3.toInt = 0 := congrArg Int32.toInt q_8
            have z_10 : (0 : Int32).toInt = 0 := rfl
            exact h9ret (0 : Int32) σ2 mσ2 fσ2 (by omega) (by omega) (H0.trans H.symm)
          · intro q_8
            replace H := f_f q_8 H
            have b_11 : ¬ r3.toInt = 0 := fun h9 => q_8 (Int32.toInt_inj.mp h9)
            refine ⟨?_, ?_⟩
            · intro q_12
              replace H := f_f q_12 H
              have t_13 := XI_c1 mσ2 (id := c0) (k := 10) (lim_F0_10 hc0)
              have b_14 : ¬ (gi σ2 c0 11).toInt = (gi σ2 c0 10).toInt := fun h9 => q_12 (Int32.toInt_inj.mp h9)
              have z_15 : (0 : Int32).toInt = 0 := rfl
              exact h9ret (0 : Int32) σ2 mσ2 fσ2 (by omega) (by omega) (H0.trans H.symm)
            · intro q_12
              replace H := f_t q_12 H
              have t_16 := XI_c1 mσ2 (id := c0) (k := 10) (lim_F0_10 hc0)
              have b_17 : (gi σ2 c0 11).toInt = (gi σ2 c0 10).toInt := congrArg Int32.toInt q_12
              have z_18 : (1 : Int32).toInt = 1 := rfl
              exact h9ret (1 : Int32) σ2 mσ2 fσ2 (by omega) (by omega) (H0.trans H.symm)
        · intro q_3
          replace H := f_f q_3 H
          have b_19 : ¬ (10 : Int) ≤ x3.toInt := fun h9 => q_3 (Int32.le_iff_toInt_le.mpr h9)
          refine kF_X2_readsClause hc0 lc0 mσ  (by first | omega | assumption | rfl) (fun r7 σ6 mσ6 cσ6 plσ6 phσ6 hσ6 => ?_)
          replace H := f_b hσ6 H
          have fσ6 : FX (fun id => id = c0 + 1 ∨ id = c0 + 2 ∨ id = c0 + 3 ∨ id = c0 + 4) (fun id k => (id = c0 ∧ k = 0) ∨ (id = c0 ∧ k = 1) ∨ (id = c0 ∧ k = 2) ∨ (id = c0 ∧ k = 4) ∨ (id = c0 ∧ k = 8) ∨ (id = c0 ∧ k = 9) ∨ (id = c0 ∧ k = 10) ∨ (id = c0 ∧ k = 11)) σ0 σ6 := FX_tr fσ cσ6 (fun x (h9 : x = c0 + 1 ∨ x = c0 + 2 ∨ x = c0 + 3 ∨ x = c0 + 4) => h9.elim (fun e9 => (show x = c0 + 1 ∨ x = c0 + 2 ∨ x = c0 + 3 ∨ x = c0 + 4 from Or.inl (e9))) (fun h9 => h9.elim (fun e9 => (show x = c0 + 1 ∨ x = c0 + 2 ∨ x = c0 + 3 ∨ x = c0 + 4 from Or.inr (Or.inl (e9)))) (fun h9 => h9.elim (fun e9 => (show x = c0 + 1 ∨ x = c0 + 2 ∨ x = c0 + 3 ∨ x = c0 + 4 from Or.inr (Or.inr (Or.inl (e9))))) (fun h9 => (show x = c0 + 1 ∨ x = c0 + 2 ∨ x = c0 + 3 ∨ x = c0 + 4 from Or.inr (Or.inr (Or.inr (h9)))))))) (fun x k (h9 : (x = c0 ∧ k = 0) ∨ (x = c0 ∧ k = 1) ∨ (x = c0 ∧ k = 2) ∨ (x = c0 ∧ k = 4) ∨ (x = c0 ∧ k = 8) ∨ (x = c0 ∧ k = 11)) => (show (x = c0 + 1 ∨ x = c0 + 2 ∨ x = c0 + 3 ∨ x = c0 + 4) ∨ ((x = c0 ∧ k = 0) ∨ (x = c0 ∧ k = 1) ∨ (x = c0 ∧ k = 2) ∨ (x = c0 ∧ k = 4) ∨ (x = c0 ∧ k = 8) ∨ (x = c0 ∧ k = 9) ∨ (x = c0 ∧ k = 10) ∨ (x = c0 ∧ k = 11)) from h9.elim (fun e9 => Or.inr (show (x = c0 ∧ k = 0) ∨ (x = c0 ∧ k = 1) ∨ (x = c0 ∧ k = 2) ∨ (x = c0 ∧ k = 4) ∨ (x = c0 ∧ k = 8) ∨ (x = c0 ∧ k = 9) ∨ (x = c0 ∧ k = 10) ∨ (x = c0 ∧ k = 11) from Or.inl (e9))) (fun h9 => h9.elim (fun e9 => Or.inr (show (x = c0 ∧ k = 0) ∨ (x = c0 ∧ k = 1) ∨ (x = c0 ∧ k = 2) ∨ (x = c0 ∧ k = 4) ∨ (x = c0 ∧ k = 8) ∨ (x = c0 ∧ k = 9) ∨ (x = c0 ∧ k = 10) ∨ (x = c0 ∧ k = 11) from Or.inr (Or.inl (e9)))) (fun h9 => h9.elim (fun e9 => Or.inr (show (x = c0 ∧ k = 0) ∨ (x = c0 ∧ k = 1) ∨ (x = c0 ∧ k = 2) ∨ (x = c0 ∧ k = 4) ∨ (x = c0 ∧ k = 8) ∨ (x = c0 ∧ k = 9) ∨ (x = c0 ∧ k = 10) ∨ (x = c0 ∧ k = 11) from Or.inr (Or.inr (Or.inl (e9))))) (fun h9 => h9.elim (fun e9 => Or.inr (show (x = c0 ∧ k = 0) ∨ (x = c0 ∧ k = 1) ∨ (x = c0 ∧ k = 2) ∨ (x = c0 ∧ k = 4) ∨ (x = c0 ∧ k = 8) ∨ (x = c0 ∧ k = 9) ∨ (x = c0 ∧ k = 10) ∨ (x = c0 ∧ k = 11) from Or.inr (Or.inr (Or.inr (Or.inl (e9)))))) (fun h9 => h9.elim (fun e9 => Or.inr (show (x = c0 ∧ k = 0) ∨ (x = c0 ∧ k = 1) ∨ (x = c0 ∧ k = 2) ∨ (x = c0 ∧ k = 4) ∨ (x = c0 ∧ k = 8) ∨ (x = c0 ∧ k = 9) ∨ (x = c0 ∧ k = 10) ∨ (x = c0 ∧ k = 11) from Or.inr (Or.inr (Or.inr (Or.inr (Or.inl (e9))))))) (fun h9 => Or.inr (show (x = c0 ∧ k = 0) ∨ (x = c0 ∧ k = 1) ∨ (x = c0 ∧ k = 2) ∨ (x = c0 ∧ k = 4) ∨ (x = c0 ∧ k = 8) ∨ (x = c0 ∧ k = 9) ∨ (x = c0 ∧ k = 10) ∨ (x = c0 ∧ k = 11) from Or.inr (Or.inr (Or.inr (Or.inr (Or.inr (Or.inr (Or.inr (h9)))))))))))))))
          have k_20 : (gi σ6 c0 10).toInt = (gi σ c0 10).toInt := congrArg Int32.toInt (FX_i cσ6 (show ¬ (c0 = c0 + 1 ∨ c0 = c0 + 2 ∨ c0 = c0 + 3 ∨ c0 = c0 + 4) from by first | omega | (have ugc0 := un gc0; omega)) (show ¬ ((c0 = c0 ∧ 10 = 0) ∨ (c0 = c0 ∧ 10 = 1) ∨ (c0 = c0 ∧ 10 = 2) ∨ (c0 = c0 ∧ 10 = 4) ∨ (c0 = c0 ∧ 10 = 8) ∨ (c0 = c0 ∧ 10 = 11)) from by first | omega | (have ugc0 := un gc0; omega)))
          have t_21 := XI_c1 mσ6 (id := c0) (k := 11) (lim_F0_11 hc0)
          have kr_22 : gr σ6 c0 9 = some 50 := (FX_r cσ6 (show ¬ (c0 = c0 + 1 ∨ c0 = c0 + 2 ∨ c0 = c0 + 3 ∨ c0 = c0 + 4) from by first | omega | (have ugc0 := un gc0; omega)) (show ¬ ((c0 = c0 ∧ 9 = 0) ∨ (c0 = c0 ∧ 9 = 1) ∨ (c0 = c0 ∧ 9 = 2) ∨ (c0 = c0 ∧ 9 = 4) ∨ (c0 = c0 ∧ 9 = 8) ∨ (c0 = c0 ∧ 9 = 11)) from by first | omega | (have ugc0 := un gc0; omega))).trans i0
          refine ⟨?_, ?_⟩
          · intro q_23
            replace H := f_f q_23 H
            have b_24 : ¬ r7.toInt = 0 := fun h9 => q_23 (Int32.toInt_inj.mp h9)
            have z_25 : (59 : Int32).toInt = 59 := rfl
            refine kF_X2_takes hc0 lc0 mσ6  (by omega) (by omega) (by first | omega | assumption | rfl) (fun r10 σ9 mσ9 cσ9 plσ9 phσ9 hσ9 => ?_)
            replace H := f_b hσ9 H
            have fσ9 : FX (fun id => id = c0 + 1 ∨ id = c0 + 2 ∨ id = c0 + 3 ∨ id = c0 + 4) (fun id k => (id = c0 ∧ k = 0) ∨ (id = c0 ∧ k = 1) ∨ (id = c0 ∧ k = 2) ∨ (id = c0 ∧ k = 4) ∨ (id = c0 ∧ k = 8) ∨ (id = c0 ∧ k = 9) ∨ (id = c0 ∧ k = 10) ∨ (id = c0 ∧ k = 11)) σ0 σ9 := FX_tr fσ6 cσ9 (fun _ h9 => h9.elim) (fun x k (h9 : (x = c0 ∧ k = 11)) => (show (x = c0 + 1 ∨ x = c0 + 2 ∨ x = c0 + 3 ∨ x = c0 + 4) ∨ ((x = c0 ∧ k = 0) ∨ (x = c0 ∧ k = 1) ∨ (x = c0 ∧ k = 2) ∨ (x = c0 ∧ k = 4) ∨ (x = c0 ∧ k = 8) ∨ (x = c0 ∧ k = 9) ∨ (x = c0 ∧ k = 10) ∨ (x = c0 ∧ k = 11)) from Or.inr (show (x = c0 ∧ k = 0) ∨ (x = c0 ∧ k = 1) ∨ (x = c0 ∧ k = 2) ∨ (x = c0 ∧ k = 4) ∨ (x = c0 ∧ k = 8) ∨ (x = c0 ∧ k = 9) ∨ (x = c0 ∧ k = 10) ∨ (x = c0 ∧ k = 11) from Or.inr (Or.inr (Or.inr (Or.inr (Or.inr (Or.inr (Or.inr (h9))))))))))
            have k_26 : (gi σ9 c0 10).toInt = (gi σ6 c0 10).toInt := congrArg Int32.toInt (FX_i cσ9 id (show ¬ ((c0 = c0 ∧ 10 = 11)) from by first | omega | (have ugc0 := un gc0; omega)))
            have t_27 := XI_c1 mσ9 (id := c0) (k := 11) (lim_F0_11 hc0)
            have kr_28 : gr σ9 c0 9 = some 50 := (FX_r cσ9 id (show ¬ ((c0 = c0 ∧ 9 = 11)) from by first | omega | (have ugc0 := un gc0; omega))).trans kr_22
            refine ⟨?_, ?_⟩
            · intro q_29
              replace H := f_f q_29 H
              have b_30 : ¬ r10.toInt = 0 := fun h9 => q_29 (Int32.toInt_inj.mp h9)
              intro v12 ev12
              replace H := f_l ev12 H
              have t_31 : (x3 + (1 : Int32)).toInt = x3.toInt + 1 := i_add (x := x3) (y := (1 : Int32)) (by show (_ : Int) ≤ x3.toInt + 1; omega) (by show x3.toInt + 1 ≤ (_ : Int); omega)
              have t_32 : v12.toInt = (x3 + (1 : Int32)).toInt := congrArg Int32.toInt ev12
              exact ih48 v12 σ9 mσ9 fσ9 (by omega) (by omega) (by first | omega | assumption | rfl) H (by omega)
            · intro q_29
              replace H := f_t q_29 H
              have b_33 : r10.toInt = 0 := congrArg Int32.toInt q_29
              refine ⟨?_, ?_⟩
              · intro q_34
                replace H := f_f q_34 H
                have t_35 := XI_c1 mσ9 (id := c0) (k := 10) (lim_F0_10 hc0)
                have b_36 : ¬ (gi σ9 c0 11).toInt = (gi σ9 c0 10).toInt := fun h9 => q_34 (Int32.toInt_inj.mp h9)
                have z_37 : (0 : Int32).toInt = 0 := rfl
                exact h9ret (0 : Int32) σ9 mσ9 fσ9 (by omega) (by omega) (H0.trans H.symm)
              · intro q_34
                replace H := f_t q_34 H
                have t_38 := XI_c1 mσ9 (id := c0) (k := 10) (lim_F0_10 hc0)
                have b_39 : (gi σ9 c0 11).toInt = (gi σ9 c0 10).toInt := congrArg Int32.toInt q_34
                have z_40 : (1 : Int32).toInt = 1 := rfl
                exact h9ret (1 : Int32) σ9 mσ9 fσ9 (by omega) (by omega) (H0.trans H.symm)
          · intro q_23
            replace H := f_t q_23 H
            have b_41 : r7.toInt = 0 := congrArg Int32.toInt q_23
            have z_42 : (0 : Int32).toInt = 0 := rfl
            exact h9ret (0 : Int32) σ6 mσ6 fσ6 (by omega) (by omega) (H0.trans H.symm)
  have U48 := T 90
  have f0 : FX (fun id => id = c0 + 1 ∨ id = c0 + 2 ∨ id = c0 + 3 ∨ id = c0 + 4) (fun id k => (id = c0 ∧ k = 0) ∨ (id = c0 ∧ k = 1) ∨ (id = c0 ∧ k = 2) ∨ (id = c0 ∧ k = 4) ∨ (id = c0 ∧ k = 8) ∨ (id = c0 ∧ k = 9) ∨ (id = c0 ∧ k = 10) ∨ (id = c0 ∧ k = 11)) σ0 σ0 := FX_rf
  have t_43 := XI_c1 m0 (id := c0) (k := 10) (lim_F0_10 hc0)
  have t_44 := XI_c1 m0 (id := c0) (k := 11) (lim_F0_11 hc0)
  have H := H0
  unfold F_X2_reads at H
  refine s_X2_reads_0 C hN hc0 lc0 ha1 la1 ?_
  intro σ1 eσ1
  replace H := f_l eσ1 H
  have mσ1 : XI (mV M) σ1 := by rw [eσ1]; exact XIs_n m0 (lim_F0_n hc0 _ (by decide))
  have fσ1 : FX (fun id => id = c0 + 1 ∨ id = c0 + 2 ∨ id = c0 + 3 ∨ id = c0 + 4) (fun id k => (id = c0 ∧ k = 0) ∨ (id = c0 ∧ k = 1) ∨ (id = c0 ∧ k = 2) ∨ (id = c0 ∧ k = 4) ∨ (id = c0 ∧ k = 8) ∨ (id = c0 ∧ k = 9) ∨ (id = c0 ∧ k = 10) ∨ (id = c0 ∧ k = 11)) σ0 σ1 := by rw [eσ1]; exact FX_si f0 (Or.inr (show (c0 = c0 ∧ 0 = 0) ∨ (c0 = c0 ∧ 0 = 1) ∨ (c0 = c0 ∧ 0 = 2) ∨ (c0 = c0 ∧ 0 = 4) ∨ (c0 = c0 ∧ 0 = 8) ∨ (c0 = c0 ∧ 0 = 9) ∨ (c0 = c0 ∧ 0 = 10) ∨ (c0 = c0 ∧ 0 = 11) from Or.inl (⟨rfl, rfl⟩)))
  have k_45 : (gi σ1 c0 10).toInt = (gi σ0 c0 10).toInt := by rw [eσ1]; exact congrArg Int32.toInt (gi_si_ne (Or.inr (by decide)))
  have k_46 : (gi σ1 c0 11).toInt = (gi σ0 c0 11).toInt := by rw [eσ1]; exact congrArg Int32.toInt (gi_si_ne (Or.inr (by decide)))
  intro σ2 eσ2
  replace H := f_l eσ2 H
  have mσ2 : XI (mV M) σ2 := by rw [eσ2]; exact XIs_n mσ1 (lim_F0_n hc0 _ (by decide))
  have fσ2 : FX (fun id => id = c0 + 1 ∨ id = c0 + 2 ∨ id = c0 + 3 ∨ id = c0 + 4) (fun id k => (id = c0 ∧ k = 0) ∨ (id = c0 ∧ k = 1) ∨ (id = c0 ∧ k = 2) ∨ (id = c0 ∧ k = 4) ∨ (id = c0 ∧ k = 8) ∨ (id = c0 ∧ k = 9) ∨ (id = c0 ∧ k = 10) ∨ (id = c0 ∧ k = 11)) σ0 σ2 := by rw [eσ2]; exact FX_si fσ1 (Or.inr (show (c0 = c0 ∧ 1 = 0) ∨ (c0 = c0 ∧ 1 = 1) ∨ (c0 = c0 ∧ 1 = 2) ∨ (c0 = c0 ∧ 1 = 4) ∨ (c0 = c0 ∧ 1 = 8) ∨ (c0 = c0 ∧ 1 = 9) ∨ (c0 = c0 ∧ 1 = 10) ∨ (c0 = c0 ∧ 1 = 11) from Or.inr (Or.inl (⟨rfl, rfl⟩))))
  have k_47 : (gi σ2 c0 10).toInt = (gi σ1 c0 10).toInt := by rw [eσ2]; exact congrArg Int32.toInt (gi_si_ne (Or.inr (by decide)))
  have k_48 : (gi σ2 c0 11).toInt = (gi σ1 c0 11).toInt := by rw [eσ2]; exact congrArg Int32.toInt (gi_si_ne (Or.inr (by decide)))
  intro σ3 eσ3
  replace H := f_l eσ3 H
  have mσ3 : XI (mV M) σ3 := by rw [eσ3]; exact XIs_n mσ2 (lim_F0_n hc0 _ (by decide))
  have fσ3 : FX (fun id => id = c0 + 1 ∨ id = c0 + 2 ∨ id = c0 + 3 ∨ id = c0 + 4) (fun id k => (id = c0 ∧ k = 0) ∨ (id = c0 ∧ k = 1) ∨ (id = c0 ∧ k = 2) ∨ (id = c0 ∧ k = 4) ∨ (id = c0 ∧ k = 8) ∨ (id = c0 ∧ k = 9) ∨ (id = c0 ∧ k = 10) ∨ (id = c0 ∧ k = 11)) σ0 σ3 := by rw [eσ3]; exact FX_si fσ2 (Or.inr (show (c0 = c0 ∧ 2 = 0) ∨ (c0 = c0 ∧ 2 = 1) ∨ (c0 = c0 ∧ 2 = 2) ∨ (c0 = c0 ∧ 2 = 4) ∨ (c0 = c0 ∧ 2 = 8) ∨ (c0 = c0 ∧ 2 = 9) ∨ (c0 = c0 ∧ 2 = 10) ∨ (c0 = c0 ∧ 2 = 11) from Or.inr (Or.inr (Or.inl (⟨rfl, rfl⟩)))))
  have k_49 : (gi σ3 c0 10).toInt = (gi σ2 c0 10).toInt := by rw [eσ3]; exact congrArg Int32.toInt (gi_si_ne (Or.inr (by decide)))
  have k_50 : (gi σ3 c0 11).toInt = (gi σ2 c0 11).toInt := by rw [eσ3]; exact congrArg Int32.toInt (gi_si_ne (Or.inr (by decide)))
  intro σ4 eσ4
  replace H := f_l eσ4 H
  have z_51 : (0 : Int32).toInt = 0 := rfl
  have mσ4 : XI (mV M) σ4 := by rw [eσ4]; exact XIs_b mσ3 (lim_F0_4 hc0) (by omega) (by omega)
  have fσ4 : FX (fun id => id = c0 + 1 ∨ id = c0 + 2 ∨ id = c0 + 3 ∨ id = c0 + 4) (fun id k => (id = c0 ∧ k = 0) ∨ (id = c0 ∧ k = 1) ∨ (id = c0 ∧ k = 2) ∨ (id = c0 ∧ k = 4) ∨ (id = c0 ∧ k = 8) ∨ (id = c0 ∧ k = 9) ∨ (id = c0 ∧ k = 10) ∨ (id = c0 ∧ k = 11)) σ0 σ4 := by rw [eσ4]; exact FX_si fσ3 (Or.inr (show (c0 = c0 ∧ 4 = 0) ∨ (c0 = c0 ∧ 4 = 1) ∨ (c0 = c0 ∧ 4 = 2) ∨ (c0 = c0 ∧ 4 = 4) ∨ (c0 = c0 ∧ 4 = 8) ∨ (c0 = c0 ∧ 4 = 9) ∨ (c0 = c0 ∧ 4 = 10) ∨ (c0 = c0 ∧ 4 = 11) from Or.inr (Or.inr (Or.inr (Or.inl (⟨rfl, rfl⟩))))))
  have k_52 : (gi σ4 c0 10).toInt = (gi σ3 c0 10).toInt := by rw [eσ4]; exact congrArg Int32.toInt (gi_si_ne (Or.inr (by decide)))
  have k_53 : (gi σ4 c0 11).toInt = (gi σ3 c0 11).toInt := by rw [eσ4]; exact congrArg Int32.toInt (gi_si_ne (Or.inr (by decide)))
  intro σ5 eσ5
  replace H := f_l eσ5 H
  have mσ5 : XI (mV M) σ5 := by rw [eσ5]; exact XIs_b mσ4 (lim_F0_8 hc0) (by omega) (by omega)
  have fσ5 : FX (fun id => id = c0 + 1 ∨ id = c0 + 2 ∨ id = c0 + 3 ∨ id = c0 + 4) (fun id k => (id = c0 ∧ k = 0) ∨ (id = c0 ∧ k = 1) ∨ (id = c0 ∧ k = 2) ∨ (id = c0 ∧ k = 4) ∨ (id = c0 ∧ k = 8) ∨ (id = c0 ∧ k = 9) ∨ (id = c0 ∧ k = 10) ∨ (id = c0 ∧ k = 11)) σ0 σ5 := by rw [eσ5]; exact FX_si fσ4 (Or.inr (show (c0 = c0 ∧ 8 = 0) ∨ (c0 = c0 ∧ 8 = 1) ∨ (c0 = c0 ∧ 8 = 2) ∨ (c0 = c0 ∧ 8 = 4) ∨ (c0 = c0 ∧ 8 = 8) ∨ (c0 = c0 ∧ 8 = 9) ∨ (c0 = c0 ∧ 8 = 10) ∨ (c0 = c0 ∧ 8 = 11) from Or.inr (Or.inr (Or.inr (Or.inr (Or.inl (⟨rfl, rfl⟩)))))))
  have k_54 : (gi σ5 c0 10).toInt = (gi σ4 c0 10).toInt := by rw [eσ5]; exact congrArg Int32.toInt (gi_si_ne (Or.inr (by decide)))
  have k_55 : (gi σ5 c0 11).toInt = (gi σ4 c0 11).toInt := by rw [eσ5]; exact congrArg Int32.toInt (gi_si_ne (Or.inr (by decide)))
  intro σ6 eσ6
  replace H := f_l eσ6 H
  have e50 : a1 = 50 := by omega
  have mσ6 : XI (mV M) σ6 := by
    rw [eσ6]
    exact XIs_r mσ5 (fun c hc e _ => by have g9 := un gc0; rcases hc with rfl | rfl | rfl <;> (exfalso; omega)) (fun c hc e => by have g9 := un gc0; rcases hc with rfl | rfl | rfl <;> (exfalso; omega)) (fun e => by have g9 := un gc0; exfalso; omega) (fun _ _ => Or.inr (by rw [e50]))
  have fσ6 : FX (fun id => id = c0 + 1 ∨ id = c0 + 2 ∨ id = c0 + 3 ∨ id = c0 + 4) (fun id k => (id = c0 ∧ k = 0) ∨ (id = c0 ∧ k = 1) ∨ (id = c0 ∧ k = 2) ∨ (id = c0 ∧ k = 4) ∨ (id = c0 ∧ k = 8) ∨ (id = c0 ∧ k = 9) ∨ (id = c0 ∧ k = 10) ∨ (id = c0 ∧ k = 11)) σ0 σ6 := by rw [eσ6]; exact FX_sr fσ5 (Or.inr (show (c0 = c0 ∧ 9 = 0) ∨ (c0 = c0 ∧ 9 = 1) ∨ (c0 = c0 ∧ 9 = 2) ∨ (c0 = c0 ∧ 9 = 4) ∨ (c0 = c0 ∧ 9 = 8) ∨ (c0 = c0 ∧ 9 = 9) ∨ (c0 = c0 ∧ 9 = 10) ∨ (c0 = c0 ∧ 9 = 11) from Or.inr (Or.inr (Or.inr (Or.inr (Or.inr (Or.inl (⟨rfl, rfl⟩))))))))
  have k_56 : (gi σ6 c0 10).toInt = (gi σ5 c0 10).toInt := by rw [eσ6]; rfl
  have k_57 : (gi σ6 c0 11).toInt = (gi σ5 c0 11).toInt := by rw [eσ6]; rfl
  have kr_58 : gr σ6 c0 9 = some 50 := by rw [eσ6, gr_sr, if_pos ⟨rfl, rfl⟩, e50]
  intro v7 ev7
  replace H := f_l (show v7 = jmin a2 (Int32.ofNat 100) from by rw [← pre1]; exact ev7) H
  have t_59 := jmin_b a2 (Int32.ofNat na1)
  have t_60 : v7.toInt = (jmin a2 (Int32.ofNat na1)).toInt := congrArg Int32.toInt ev7
  intro σ8 eσ8
  replace H := f_l eσ8 H
  have w_61 := Int32.toInt_lt v7
  have w_62 := Int32.le_toInt v7
  have mσ8 : XI (mV M) σ8 := by rw [eσ8]; exact XIs_b mσ6 (lim_F0_10 hc0) (by omega) (by omega)
  have fσ8 : FX (fun id => id = c0 + 1 ∨ id = c0 + 2 ∨ id = c0 + 3 ∨ id = c0 + 4) (fun id k => (id = c0 ∧ k = 0) ∨ (id = c0 ∧ k = 1) ∨ (id = c0 ∧ k = 2) ∨ (id = c0 ∧ k = 4) ∨ (id = c0 ∧ k = 8) ∨ (id = c0 ∧ k = 9) ∨ (id = c0 ∧ k = 10) ∨ (id = c0 ∧ k = 11)) σ0 σ8 := by rw [eσ8]; exact FX_si fσ6 (Or.inr (show (c0 = c0 ∧ 10 = 0) ∨ (c0 = c0 ∧ 10 = 1) ∨ (c0 = c0 ∧ 10 = 2) ∨ (c0 = c0 ∧ 10 = 4) ∨ (c0 = c0 ∧ 10 = 8) ∨ (c0 = c0 ∧ 10 = 9) ∨ (c0 = c0 ∧ 10 = 10) ∨ (c0 = c0 ∧ 10 = 11) from Or.inr (Or.inr (Or.inr (Or.inr (Or.inr (Or.inr (Or.inl (⟨rfl, rfl⟩)))))))))
  have k_63 : (gi σ8 c0 10).toInt = v7.toInt := by rw [eσ8]; exact congrArg Int32.toInt gi_si_eq
  have k_64 : (gi σ8 c0 11).toInt = (gi σ6 c0 11).toInt := by rw [eσ8]; exact congrArg Int32.toInt (gi_si_ne (Or.inr (by decide)))
  have kr_65 : gr σ8 c0 9 = some 50 := ((by rw [eσ8]; rfl : gr σ8 c0 9 = gr σ6 c0 9)).trans kr_58
  intro σ9 eσ9
  replace H := f_l eσ9 H
  have mσ9 : XI (mV M) σ9 := by rw [eσ9]; exact XIs_b mσ8 (lim_F0_11 hc0) (by omega) (by omega)
  have fσ9 : FX (fun id => id = c0 + 1 ∨ id = c0 + 2 ∨ id = c0 + 3 ∨ id = c0 + 4) (fun id k => (id = c0 ∧ k = 0) ∨ (id = c0 ∧ k = 1) ∨ (id = c0 ∧ k = 2) ∨ (id = c0 ∧ k = 4) ∨ (id = c0 ∧ k = 8) ∨ (id = c0 ∧ k = 9) ∨ (id = c0 ∧ k = 10) ∨ (id = c0 ∧ k = 11)) σ0 σ9 := by rw [eσ9]; exact FX_si fσ8 (Or.inr (show (c0 = c0 ∧ 11 = 0) ∨ (c0 = c0 ∧ 11 = 1) ∨ (c0 = c0 ∧ 11 = 2) ∨ (c0 = c0 ∧ 11 = 4) ∨ (c0 = c0 ∧ 11 = 8) ∨ (c0 = c0 ∧ 11 = 9) ∨ (c0 = c0 ∧ 11 = 10) ∨ (c0 = c0 ∧ 11 = 11) from Or.inr (Or.inr (Or.inr (Or.inr (Or.inr (Or.inr (Or.inr (⟨rfl, rfl⟩)))))))))
  have k_66 : (gi σ9 c0 10).toInt = (gi σ8 c0 10).toInt := by rw [eσ9]; exact congrArg Int32.toInt (gi_si_ne (Or.inr (by decide)))
  have k_67 : (gi σ9 c0 11).toInt = 0 := by rw [eσ9]; exact congrArg Int32.toInt gi_si_eq
  have kr_68 : gr σ9 c0 9 = some 50 := ((by rw [eσ9]; rfl : gr σ9 c0 9 = gr σ8 c0 9)).trans kr_65
  have z_69 : (1 : Int32).toInt = 1 := rfl
  exact U48 (1 : Int32) σ9 mσ9 fσ9 (by omega) (by omega) (by first | omega | assumption | rfl) H (by omega)
set_option maxRecDepth 100000 in
set_option maxHeartbeats 4000000 in
theorem kF_X11_feed {l : Launch} {V : Vx} {a1 : Int32} {σ0 : Sg} {Qk : Int32 → Sg → Prop} (m0 : XI V σ0) (h9ret : ∀ (r : Int32) (σ' : Sg), XI V σ' → FX (fun id => id = 50) (fun id k => (id = 0 ∧ k = 7)) σ0 σ' → (F_X11_feed a1 σ0 = (r, σ')) → Qk r σ') : K_X11_feed l V a1 σ0 Qk := by
  refine e_X11_feed (fun M hl hV hN C => ?_)
  subst hl
  subst hV
  obtain ⟨R9, H0⟩ : ∃ R9, F_X11_feed a1 σ0 = R9 := ⟨_, rfl⟩
  have f0 : FX (fun id => id = 50) (fun id k => (id = 0 ∧ k = 7)) σ0 σ0 := FX_rf
  have t_1 := XI_c1 m0 (id := 0) (k := 7) (rfl)
  have t_2 := XI_c1 m0 (id := 1) (k := 1) (lim_C0_1 (Or.inl rfl))
  have H := H0
  unfold F_X11_feed at H
  refine s_X11_feed_0 C hN  ?_
  refine ⟨?_, ?_⟩
  · intro q_3
    replace H := f_t q_3 H
    have w_4 := Int32.toInt_lt a1
    have w_5 := Int32.le_toInt a1
    have b_6 : a1.toInt < 0 := Int32.lt_iff_toInt_lt.mp q_3
    have z_7 : (-2 : Int32).toInt = -2 := rfl
    exact h9ret (-2 : Int32) σ0 m0 f0 (H0.trans H.symm)
  · intro q_3
    replace H := f_f q_3 H
    have w_8 := Int32.toInt_lt a1
    have w_9 := Int32.le_toInt a1
    have b_10 : ¬ a1.toInt < 0 := fun h9 => q_3 (Int32.lt_iff_toInt_lt.mpr h9)
    refine ⟨?_, ?_⟩
    · intro q_11
      replace H := f_t q_11 H
      have b_12 : a1.toInt ≤ 127 := Int32.le_iff_toInt_le.mp q_11
      refine ⟨?_, ?_⟩
      · intro q_13
        replace H := f_t q_13 H
        have b_14 : (gi σ0 0 7).toInt < 100 := Int32.lt_iff_toInt_lt.mp q_13
        have hv_15 : vp_in (gi σ0 0 7) 100 := vp_in_iff.mpr ⟨by omega, by omega⟩
        refine ⟨hv_15, ?_⟩
        intro σ5 eσ5
        replace H := f_l eσ5 H
        have mσ5 : XI (mV M) σ5 := by rw [eσ5]; exact XIs_n m0 (rfl)
        have fσ5 : FX (fun id => id = 50) (fun id k => (id = 0 ∧ k = 7)) σ0 σ5 := by rw [eσ5]; exact FX_si f0 (Or.inl (show 50 = 50 from rfl))
        have k_16 : (gi σ5 0 7).toInt = (gi σ0 0 7).toInt := by rw [eσ5]; exact congrArg Int32.toInt (gi_si_ne (Or.inl (by omega)))
        have k_17 : (gi σ5 1 1).toInt = (gi σ0 1 1).toInt := by rw [eσ5]; exact congrArg Int32.toInt (gi_si_ne (Or.inl (by omega)))
        intro σ6 eσ6
        replace H := f_l eσ6 H
        have t_18 := XI_c1 mσ5 (id := 0) (k := 7) (rfl)
        have t_19 : ((gi σ5 0 7) + (1 : Int32)).toInt = (gi σ5 0 7).toInt + 1 := i_add (x := (gi σ5 0 7)) (y := (1 : Int32)) (by show (_ : Int) ≤ (gi σ5 0 7).toInt + 1; omega) (by show (gi σ5 0 7).toInt + 1 ≤ (_ : Int); omega)
        have mσ6 : XI (mV M) σ6 := by rw [eσ6]; exact XIs_b mσ5 (rfl) (by omega) (by omega)
        have fσ6 : FX (fun id => id = 50) (fun id k => (id = 0 ∧ k = 7)) σ0 σ6 := by rw [eσ6]; exact FX_si fσ5 (Or.inr (show (0 = 0 ∧ 7 = 7) from ⟨rfl, rfl⟩))
        have k_20 : (gi σ6 0 7).toInt = ((gi σ5 0 7) + (1 : Int32)).toInt := by rw [eσ6]; exact congrArg Int32.toInt gi_si_eq
        have k_21 : (gi σ6 1 1).toInt = (gi σ5 1 1).toInt := by rw [eσ6]; exact congrArg Int32.toInt (gi_si_ne (Or.inl (by omega)))
        exact h9ret (gi σ6 0 7) σ6 mσ6 fσ6 (H0.trans H.symm)
      · intro q_13
        replace H := f_f q_13 H
        have b_22 : ¬ (gi σ0 0 7).toInt < 100 := fun h9 => q_13 (Int32.lt_iff_toInt_lt.mpr h9)
        have z_23 : (-4 : Int32).toInt = -4 := rfl
        exact h9ret (-4 : Int32) σ0 m0 f0 (H0.trans H.symm)
    · intro q_11
      replace H := f_f q_11 H
      have b_24 : ¬ a1.toInt ≤ 127 := fun h9 => q_11 (Int32.le_iff_toInt_le.mpr h9)
      have z_25 : (-2 : Int32).toInt = -2 := rfl
      exact h9ret (-2 : Int32) σ0 m0 f0 (H0.trans H.symm)
set_option maxRecDepth 100000 in
set_option maxHeartbeats 4000000 in
theorem kF_X11_count {l : Launch} {V : Vx} {a1 : Int32} {σ0 : Sg} {Qk : Int32 → Sg → Prop} (m0 : XI V σ0) (h9ret : ∀ (r : Int32) (σ' : Sg), XI V σ' → FX (fun id => False) (fun _ _ => False) σ0 σ' → (F_X11_count a1 σ0 = (r, σ')) → Qk r σ') : K_X11_count l V a1 σ0 Qk := by
  refine e_X11_count (fun M hl hV hN C => ?_)
  subst hl
  subst hV
  obtain ⟨R9, H0⟩ : ∃ R9, F_X11_count a1 σ0 = R9 := ⟨_, rfl⟩
  have f0 : FX (fun id => False) (fun _ _ => False) σ0 σ0 := FX_rf
  have t_1 := XI_c1 m0 (id := 0) (k := 5) (rfl)
  have t_2 := XI_c1 m0 (id := 0) (k := 7) (rfl)
  have t_3 := XI_c1 m0 (id := 1) (k := 1) (lim_C0_1 (Or.inl rfl))
  have t_4 := XI_c1 m0 (id := 11) (k := 1) (lim_C10_1 (Or.inl rfl))
  have t_5 := XI_c1 m0 (id := 13) (k := 1) (lim_C12_1 (Or.inl rfl))
  have t_6 := XI_c1 m0 (lim_N (Or.inr (Or.inr (Or.inr (Or.inr (Or.inr (Or.inr (Or.inr (Or.inr (Or.inr (rfl)))))))))))
  have t_7 := nl_le (Or.inr (Or.inr (Or.inr (Or.inr (Or.inr (Or.inr (Or.inr (Or.inr (Or.inr (rfl))))))))))
  have t_8 := XI_c1 m0 (id := 9) (k := 1) (lim_C8_1 (Or.inl rfl))
  have H := H0
  unfold F_X11_count at H
  refine s_X11_count_0 C hN  ?_
  refine ⟨?_, ?_, ?_, ?_, ?_, ?_, ?_, ?_⟩
  · intro q_9
    replace H := f_f (by omega) H
    replace H := f_f (by omega) H
    replace H := f_f (by omega) H
    replace H := f_f (by omega) H
    replace H := f_f (by omega) H
    replace H := f_f (by omega) H
    replace H := f_f (by omega) H
    have z_10 : (-2 : Int32).toInt = -2 := rfl
    exact h9ret (-2 : Int32) σ0 m0 f0 (H0.trans H.symm)
  · intro q_9
    replace H := f_t q_9 H
    exact h9ret (gi σ0 1 1) σ0 m0 f0 (H0.trans H.symm)
  · intro q_9
    replace H := f_f (by omega) H
    replace H := f_t q_9 H
    exact h9ret (gi σ0 0 5) σ0 m0 f0 (H0.trans H.symm)
  · intro q_9
    replace H := f_f (by omega) H
    replace H := f_f (by omega) H
    replace H := f_t q_9 H
    exact h9ret ((gi σ0 9 1) / (3 : Int32)) σ0 m0 f0 (H0.trans H.symm)
  · intro q_9
    replace H := f_f (by omega) H
    replace H := f_f (by omega) H
    replace H := f_f (by omega) H
    replace H := f_t q_9 H
    exact h9ret (gi σ0 11 1) σ0 m0 f0 (H0.trans H.symm)
  · intro q_9
    replace H := f_f (by omega) H
    replace H := f_f (by omega) H
    replace H := f_f (by omega) H
    replace H := f_f (by omega) H
    replace H := f_t q_9 H
    exact h9ret (gi σ0 13 1) σ0 m0 f0 (H0.trans H.symm)
  · intro q_9
    replace H := f_f (by omega) H
    replace H := f_f (by omega) H
    replace H := f_f (by omega) H
    replace H := f_f (by omega) H
    replace H := f_f (by omega) H
    replace H := f_t q_9 H
    exact h9ret (gi σ0 0 7) σ0 m0 f0 (H0.trans H.symm)
  · intro q_9
    replace H := f_f (by omega) H
    replace H := f_f (by omega) H
    replace H := f_f (by omega) H
    replace H := f_f (by omega) H
    replace H := f_f (by omega) H
    replace H := f_f (by omega) H
    replace H := f_t q_9 H
    exact h9ret (gi σ0 64 1) σ0 m0 f0 (H0.trans H.symm)
