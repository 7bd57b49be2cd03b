set_option maxRecDepth 100000 in
set_option maxHeartbeats 4000000 in
theorem kF_X2_reads {l : Launch} {V : Vx} {c0 : Nat} {a1 : Nat} {a2 : Int32} {σ0 : Sg} {Qk : Int32 → Sg → Prop} (hc0 : kd c0 = (12, 0)) (lc0 : c0 ∈ ids (V)) {na1 : Nat} (ha1 : kd a1 = (1, na1)) (la1 : a1 ∈ ids (V)) (m0 : XI V σ0) (l_a2 : 0 ≤ a2.toInt) (u_a2 : a2.toInt ≤ 100) (pre0 : a1 = 50) (pre1 : na1 = 100) (h9ret : ∀ (r : Int32) (σ' : Sg), XI V σ' → FX (fun id => id = c0 + 1 ∨ id = c0 + 2 ∨ id = c0 + 3 ∨ id = c0 + 4) (fun id k => (id = c0 ∧ k = 0) ∨ (id = c0 ∧ k = 1) ∨ (id = c0 ∧ k = 2) ∨ (id = c0 ∧ k = 4) ∨ (id = c0 ∧ k = 8) ∨ (id = c0 ∧ k = 9) ∨ (id = c0 ∧ k = 10) ∨ (id = c0 ∧ k = 11)) σ0 σ' → (0 ≤ r.toInt) → (r.toInt ≤ 1) → (F_X2_reads c0 a1 a2 σ0 = (r, σ')) → Qk r σ') : K_X2_reads l V c0 a1 a2 σ0 Qk := by
  refine e_X2_reads (fun M hl hV hN C => ?_)
  subst hl
  subst hV
  obtain ⟨R9, H0⟩ : ∃ R9, F_X2_reads c0 a1 a2 σ0 = R9 := ⟨_, rfl⟩
  have gc0 : hid _ := kdF_ge hc0
  have hn1 : (Int32.ofNat na1).toInt = 100 := by rw [pre1]; rfl
  have T : ∀ n : Nat, (∀ (x3 : Int32) (σ : Sg), XI (mV M) σ → FX (fun id => id = c0 + 1 ∨ id = c0 + 2 ∨ id = c0 + 3 ∨ id = c0 + 4) (fun id k => (id = c0 ∧ k = 0) ∨ (id = c0 ∧ k = 1) ∨ (id = c0 ∧ k = 2) ∨ (id = c0 ∧ k = 4) ∨ (id = c0 ∧ k = 8) ∨ (id = c0 ∧ k = 9) ∨ (id = c0 ∧ k = 10) ∨ (id = c0 ∧ k = 11)) σ0 σ → (1 ≤ x3.toInt) → (x3.toInt ≤ 10) → (gr σ c0 9 = some 50) → (LF_X2_reads c0 a1 n x3 σ = R9) → (11 - x3.toInt).toNat < n → PS M 48 [(0, .ref c0), (3, .int x3)] [] σ (0, 0)) := by
    intro n
    induction n with
    | zero => exact fun _ _ _ _ _ _ _ _ h8 => absurd h8 (Nat.not_lt_zero _)
    | succ n ih =>
      have ih48 := ih
      · intro x3 σ mσ fσ lx3 ux3 i0 H hmu
        replace H : LB_X2_reads_48 c0 a1 (LF_X2_reads c0 a1 n) x3 σ = R9 := H
        unfold LB_X2_reads_48 at H
        have t_1 := XI_c1 mσ (id := c0) (k := 10) (lim_F0_10 hc0)
        have t_2 := XI_c1 mσ (id := c0) (k := 11) (lim_F0_11 hc0)
        refine s_X2_reads_48 C hN hc0 lc0 ?_
        refine ⟨?_, ?_⟩
        · intro q_3
          replace H := f_t q_3 H
          have b_4 : (10 : Int) ≤ x3.toInt := Int32.le_iff_toInt_le.mp q_3
          refine kF_X2_readsClause hc0 lc0 mσ  (by first | with_reducible assumption | with_reducible rfl | omega | assumption | rfl) (fun r3 σ2 mσ2 cσ2 plσ2 phσ2 hσ2 => ?_)
          replace H := f_b hσ2 H
          have fσ2 : FX (fun id => id = c0 + 1 ∨ id = c0 + 2 ∨ id = c0 + 3 ∨ id = c0 + 4) (fun id k => (id = c0 ∧ k = 0) ∨ (id = c0 ∧ k = 1) ∨ (id = c0 ∧ k = 2) ∨ (id = c0 ∧ k = 4) ∨ (id = c0 ∧ k = 8) ∨ (id = c0 ∧ k = 9) ∨ (id = c0 ∧ k = 10) ∨ (id = c0 ∧ k = 11)) σ0 σ2 := FX_tr fσ cσ2 (fun x (h9 : x = c0 + 1 ∨ x = c0 + 2 ∨ x = c0 + 3 ∨ x = c0 + 4) => h9.elim (fun e9 => (show x = c0 + 1 ∨ x = c0 + 2 ∨ x = c0 + 3 ∨ x = c0 + 4 from Or.inl (e9))) (fun h9 => h9.elim (fun e9 => (show x = c0 + 1 ∨ x = c0 + 2 ∨ x = c0 + 3 ∨ x = c0 + 4 from Or.inr (Or.inl (e9)))) (fun h9 => h9.elim (fun e9 => (show x = c0 + 1 ∨ x = c0 + 2 ∨ x = c0 + 3 ∨ x = c0 + 4 from Or.inr (Or.inr (Or.inl (e9))))) (fun h9 => (show x = c0 + 1 ∨ x = c0 + 2 ∨ x = c0 + 3 ∨ x = c0 + 4 from Or.inr (Or.inr (Or.inr (h9)))))))) (fun x k (h9 : (x = c0 ∧ k = 0) ∨ (x = c0 ∧ k = 1) ∨ (x = c0 ∧ k = 2) ∨ (x = c0 ∧ k = 4) ∨ (x = c0 ∧ k = 8) ∨ (x = c0 ∧ k = 11)) => (show (x = c0 + 1 ∨ x = c0 + 2 ∨ x = c0 + 3 ∨ x = c0 + 4) ∨ ((x = c0 ∧ k = 0) ∨ (x = c0 ∧ k = 1) ∨ (x = c0 ∧ k = 2) ∨ (x = c0 ∧ k = 4) ∨ (x = c0 ∧ k = 8) ∨ (x = c0 ∧ k = 9) ∨ (x = c0 ∧ k = 10) ∨ (x = c0 ∧ k = 11)) from h9.elim (fun e9 => Or.inr (show (x = c0 ∧ k = 0) ∨ (x = c0 ∧ k = 1) ∨ (x = c0 ∧ k = 2) ∨ (x = c0 ∧ k = 4) ∨ (x = c0 ∧ k = 8) ∨ (x = c0 ∧ k = 9) ∨ (x = c0 ∧ k = 10) ∨ (x = c0 ∧ k = 11) from Or.inl (e9))) (fun h9 => h9.elim (fun e9 => Or.inr (show (x = c0 ∧ k = 0) ∨ (x = c0 ∧ k = 1) ∨ (x = c0 ∧ k = 2) ∨ (x = c0 ∧ k = 4) ∨ (x = c0 ∧ k = 8) ∨ (x = c0 ∧ k = 9) ∨ (x = c0 ∧ k = 10) ∨ (x = c0 ∧ k = 11) from Or.inr (Or.inl (e9)))) (fun h9 => h9.elim (fun e9 => Or.inr (show (x = c0 ∧ k = 0) ∨ (x = c0 ∧ k = 1) ∨ (x = c0 ∧ k = 2) ∨ (x = c0 ∧ k = 4) ∨ (x = c0 ∧ k = 8) ∨ (x = c0 ∧ k = 9) ∨ (x = c0 ∧ k = 10) ∨ (x = c0 ∧ k = 11) from Or.inr (Or.inr (Or.inl (e9))))) (fun h9 => h9.elim (fun e9 => Or.inr (show (x = c0 ∧ k = 0) ∨ (x = c0 ∧ k = 1) ∨ (x = c0 ∧ k = 2) ∨ (x = c0 ∧ k = 4) ∨ (x = c0 ∧ k = 8) ∨ (x = c0 ∧ k = 9) ∨ (x = c0 ∧ k = 10) ∨ (x = c0 ∧ k = 11) from Or.inr (Or.inr (Or.inr (Or.inl (e9)))))) (fun h9 => h9.elim (fun e9 => Or.inr (show (x = c0 ∧ k = 0) ∨ (x = c0 ∧ k = 1) ∨ (x = c0 ∧ k = 2) ∨ (x = c0 ∧ k = 4) ∨ (x = c0 ∧ k = 8) ∨ (x = c0 ∧ k = 9) ∨ (x = c0 ∧ k = 10) ∨ (x = c0 ∧ k = 11) from Or.inr (Or.inr (Or.inr (Or.inr (Or.inl (e9))))))) (fun h9 => Or.inr (show (x = c0 ∧ k = 0) ∨ (x = c0 ∧ k = 1) ∨ (x = c0 ∧ k = 2) ∨ (x = c0 ∧ k = 4) ∨ (x = c0 ∧ k = 8) ∨ (x = c0 ∧ k = 9) ∨ (x = c0 ∧ k = 10) ∨ (x = c0 ∧ k = 11) from Or.inr (Or.inr (Or.inr (Or.inr (Or.inr (Or.inr (Or.inr (h9)))))))))))))))
          have k_5 : (gi σ2 c0 10).toInt = (gi σ c0 10).toInt := congrArg Int32.toInt (FX_i cσ2 (show ¬ (c0 = c0 + 1 ∨ c0 = c0 + 2 ∨ c0 = c0 + 3 ∨ c0 = c0 + 4) from by first | omega | (have ugc0 := un gc0; omega)) (show ¬ ((c0 = c0 ∧ 10 = 0) ∨ (c0 = c0 ∧ 10 = 1) ∨ (c0 = c0 ∧ 10 = 2) ∨ (c0 = c0 ∧ 10 = 4) ∨ (c0 = c0 ∧ 10 = 8) ∨ (c0 = c0 ∧ 10 = 11)) from by first | omega | (have ugc0 := un gc0; omega)))
          have t_6 := XI_c1 mσ2 (id := c0) (k := 11) (lim_F0_11 hc0)
          have kr_7 : gr σ2 c0 9 = some 50 := (FX_r cσ2 (show ¬ (c0 = c0 + 1 ∨ c0 = c0 + 2 ∨ c0 = c0 + 3 ∨ c0 = c0 + 4) from by first | omega | (have ugc0 := un gc0; omega)) (show ¬ ((c0 = c0 ∧ 9 = 0) ∨ (c0 = c0 ∧ 9 = 1) ∨ (c0 = c0 ∧ 9 = 2) ∨ (c0 = c0 ∧ 9 = 4) ∨ (c0 = c0 ∧ 9 = 8) ∨ (c0 = c0 ∧ 9 = 11)) from by first | omega | (have ugc0 := un gc0; omega))).trans i0
          refine ⟨?_, ?_⟩
          · intro q_8
            replace H := f_t q_8 H
            have b_9 : r3.toInt = 0 := congrArg Int32.toInt q_8
            have z_10 : (0 : Int32).toInt = 0 := rfl
            exact h9ret (0 : Int32) σ2 mσ2 fσ2 (by omega) (by omega) (H0.trans H.symm)
          · intro q_8
            replace H := f_f q_8 H
            have b_11 : ¬ r3.toInt = 0 := fun h9 => q_8 (Int32.toInt_inj.mp h9)
            refine ⟨?_, ?_⟩
            · intro q_12
              replace H := f_f q_12 H
              have t_13 := XI_c1 mσ2 (id := c0) (k := 10) (lim_F0_10 hc0)
              have b_14 : ¬ (gi σ2 c0 11).toInt = (gi σ2 c0 10).toInt := fun h9 => q_12 (Int32.toInt_inj.mp h9)
              have z_15 : (0 : Int32).toInt = 0 := rfl
              exact h9ret (0 : Int32) σ2 mσ2 fσ2 (by omega) (by omega) (H0.trans H.symm)
            · intro q_12
              replace H := f_t q_12 H
              have t_16 := XI_c1 mσ2 (id := c0) (k := 10) (lim_F0_10 hc0)
              have b_17 : (gi σ2 c0 11).toInt = (gi σ2 c0 10).toInt := congrArg Int32.toInt q_12
              have z_18 : (1 : Int32).toInt = 1 := rfl
              exact h9ret (1 : Int32) σ2 mσ2 fσ2 (by omega) (by omega) (H0.trans H.symm)
        · intro q_3
          replace H := f_f q_3 H
          have b_19 : ¬ (10 : Int) ≤ x3.toInt := fun h9 => q_3 (Int32.le_iff_toInt_le.mpr h9)
          refine kF_X2_readsClause hc0 lc0 mσ  (by first | with_reducible assumption | with_reducible rfl | omega | assumption | rfl) (fun r7 σ6 mσ6 cσ6 plσ6 phσ6 hσ6 => ?_)
          replace H := f_b hσ6 H
          have fσ6 : FX (fun id => id = c0 + 1 ∨ id = c0 + 2 ∨ id = c0 + 3 ∨ id = c0 + 4) (fun id k => (id = c0 ∧ k = 0) ∨ (id = c0 ∧ k = 1) ∨ (id = c0 ∧ k = 2) ∨ (id = c0 ∧ k = 4) ∨ (id = c0 ∧ k = 8) ∨ (id = c0 ∧ k = 9) ∨ (id = c0 ∧ k = 10) ∨ (id = c0 ∧ k = 11)) σ0 σ6 := FX_tr fσ cσ6 (fun x (h9 : x = c0 + 1 ∨ x = c0 + 2 ∨ x = c0 + 3 ∨ x = c0 + 4) => h9.elim (fun e9 => (show x = c0 + 1 ∨ x = c0 + 2 ∨ x = c0 + 3 ∨ x = c0 + 4 from Or.inl (e9))) (fun h9 => h9.elim (fun e9 => (show x = c0 + 1 ∨ x = c0 + 2 ∨ x = c0 + 3 ∨ x = c0 + 4 from Or.inr (Or.inl (e9)))) (fun h9 => h9.elim (fun e9 => (show x = c0 + 1 ∨ x = c0 + 2 ∨ x = c0 + 3 ∨ x = c0 + 4 from Or.inr (Or.inr (Or.inl (e9))))) (fun h9 => (show x = c0 + 1 ∨ x = c0 + 2 ∨ x = c0 + 3 ∨ x = c0 + 4 from Or.inr (Or.inr (Or.inr (h9)))))))) (fun x k (h9 : (x = c0 ∧ k = 0) ∨ (x = c0 ∧ k = 1) ∨ (x = c0 ∧ k = 2) ∨ (x = c0 ∧ k = 4) ∨ (x = c0 ∧ k = 8) ∨ (x = c0 ∧ k = 11)) => (show (x = c0 + 1 ∨ x = c0 + 2 ∨ x = c0 + 3 ∨ x = c0 + 4) ∨ ((x = c0 ∧ k = 0) ∨ (x = c0 ∧ k = 1) ∨ (x = c0 ∧ k = 2) ∨ (x = c0 ∧ k = 4) ∨ (x = c0 ∧ k = 8) ∨ (x = c0 ∧ k = 9) ∨ (x = c0 ∧ k = 10) ∨ (x = c0 ∧ k = 11)) from h9.elim (fun e9 => Or.inr (show (x = c0 ∧ k = 0) ∨ (x = c0 ∧ k = 1) ∨ (x = c0 ∧ k = 2) ∨ (x = c0 ∧ k = 4) ∨ (x = c0 ∧ k = 8) ∨ (x = c0 ∧ k = 9) ∨ (x = c0 ∧ k = 10) ∨ (x = c0 ∧ k = 11) from Or.inl (e9))) (fun h9 => h9.elim (fun e9 => Or.inr (show (x = c0 ∧ k = 0) ∨ (x = c0 ∧ k = 1) ∨ (x = c0 ∧ k = 2) ∨ (x = c0 ∧ k = 4) ∨ (x = c0 ∧ k = 8) ∨ (x = c0 ∧ k = 9) ∨ (x = c0 ∧ k = 10) ∨ (x = c0 ∧ k = 11) from Or.inr (Or.inl (e9)))) (fun h9 => h9.elim (fun e9 => Or.inr (show (x = c0 ∧ k = 0) ∨ (x = c0 ∧ k = 1) ∨ (x = c0 ∧ k = 2) ∨ (x = c0 ∧ k = 4) ∨ (x = c0 ∧ k = 8) ∨ (x = c0 ∧ k = 9) ∨ (x = c0 ∧ k = 10) ∨ (x = c0 ∧ k = 11) from Or.inr (Or.inr (Or.inl (e9))))) (fun h9 => h9.elim (fun e9 => Or.inr (show (x = c0 ∧ k = 0) ∨ (x = c0 ∧ k = 1) ∨ (x = c0 ∧ k = 2) ∨ (x = c0 ∧ k = 4) ∨ (x = c0 ∧ k = 8) ∨ (x = c0 ∧ k = 9) ∨ (x = c0 ∧ k = 10) ∨ (x = c0 ∧ k = 11) from Or.inr (Or.inr (Or.inr (Or.inl (e9)))))) (fun h9 => h9.elim (fun e9 => Or.inr (show (x = c0 ∧ k = 0) ∨ (x = c0 ∧ k = 1) ∨ (x = c0 ∧ k = 2) ∨ (x = c0 ∧ k = 4) ∨ (x = c0 ∧ k = 8) ∨ (x = c0 ∧ k = 9) ∨ (x = c0 ∧ k = 10) ∨ (x = c0 ∧ k = 11) from Or.inr (Or.inr (Or.inr (Or.inr (Or.inl (e9))))))) (fun h9 => Or.inr (show (x = c0 ∧ k = 0) ∨ (x = c0 ∧ k = 1) ∨ (x = c0 ∧ k = 2) ∨ (x = c0 ∧ k = 4) ∨ (x = c0 ∧ k = 8) ∨ (x = c0 ∧ k = 9) ∨ (x = c0 ∧ k = 10) ∨ (x = c0 ∧ k = 11) from Or.inr (Or.inr (Or.inr (Or.inr (Or.inr (Or.inr (Or.inr (h9)))))))))))))))
          have k_20 : (gi σ6 c0 10).toInt = (gi σ c0 10).toInt := congrArg Int32.toInt (FX_i cσ6 (show ¬ (c0 = c0 + 1 ∨ c0 = c0 + 2 ∨ c0 = c0 + 3 ∨ c0 = c0 + 4) from by first | omega | (have ugc0 := un gc0; omega)) (show ¬ ((c0 = c0 ∧ 10 = 0) ∨ (c0 = c0 ∧ 10 = 1) ∨ (c0 = c0 ∧ 10 = 2) ∨ (c0 = c0 ∧ 10 = 4) ∨ (c0 = c0 ∧ 10 = 8) ∨ (c0 = c0 ∧ 10 = 11)) from by first | omega | (have ugc0 := un gc0; omega)))
          have t_21 := XI_c1 mσ6 (id := c0) (k := 11) (lim_F0_11 hc0)
          have kr_22 : gr σ6 c0 9 = some 50 := (FX_r cσ6 (show ¬ (c0 = c0 + 1 ∨ c0 = c0 + 2 ∨ c0 = c0 + 3 ∨ c0 = c0 + 4) from by first | omega | (have ugc0 := un gc0; omega)) (show ¬ ((c0 = c0 ∧ 9 = 0) ∨ (c0 = c0 ∧ 9 = 1) ∨ (c0 = c0 ∧ 9 = 2) ∨ (c0 = c0 ∧ 9 = 4) ∨ (c0 = c0 ∧ 9 = 8) ∨ (c0 = c0 ∧ 9 = 11)) from by first | omega | (have ugc0 := un gc0; omega))).trans i0
          refine ⟨?_, ?_⟩
          · intro q_23
            replace H := f_f q_23 H
            have b_24 : ¬ r7.toInt = 0 := fun h9 => q_23 (Int32.toInt_inj.mp h9)
            have z_25 : (59 : Int32).toInt = 59 := rfl
            refine kF_X2_takes hc0 lc0 mσ6  (by omega) (by omega) (by first | with_reducible assumption | with_reducible rfl | omega | assumption | rfl) (fun r10 σ9 mσ9 cσ9 plσ9 phσ9 hσ9 => ?_)
            replace H := f_b hσ9 H
            have fσ9 : FX (fun id => id = c0 + 1 ∨ id = c0 + 2 ∨ id = c0 + 3 ∨ id = c0 + 4) (fun id k => (id = c0 ∧ k = 0) ∨ (id = c0 ∧ k = 1) ∨ (id = c0 ∧ k = 2) ∨ (id = c0 ∧ k = 4) ∨ (id = c0 ∧ k = 8) ∨ (id = c0 ∧ k = 9) ∨ (id = c0 ∧ k = 10) ∨ (id = c0 ∧ k = 11)) σ0 σ9 := FX_tr fσ6 cσ9 (fun _ h9 => h9.elim) (fun x k (h9 : (x = c0 ∧ k = 11)) => (show (x = c0 + 1 ∨ x = c0 + 2 ∨ x = c0 + 3 ∨ x = c0 + 4) ∨ ((x = c0 ∧ k = 0) ∨ (x = c0 ∧ k = 1) ∨ (x = c0 ∧ k = 2) ∨ (x = c0 ∧ k = 4) ∨ (x = c0 ∧ k = 8) ∨ (x = c0 ∧ k = 9) ∨ (x = c0 ∧ k = 10) ∨ (x = c0 ∧ k = 11)) from Or.inr (show (x = c0 ∧ k = 0) ∨ (x = c0 ∧ k = 1) ∨ (x = c0 ∧ k = 2) ∨ (x = c0 ∧ k = 4) ∨ (x = c0 ∧ k = 8) ∨ (x = c0 ∧ k = 9) ∨ (x = c0 ∧ k = 10) ∨ (x = c0 ∧ k = 11) from Or.inr (Or.inr (Or.inr (Or.inr (Or.inr (Or.inr (Or.inr (h9))))))))))
            have k_26 : (gi σ9 c0 10).toInt = (gi σ6 c0 10).toInt := congrArg Int32.toInt (FX_i cσ9 id (show ¬ ((c0 = c0 ∧ 10 = 11)) from by first | omega | (have ugc0 := un gc0; omega)))
            have t_27 := XI_c1 mσ9 (id := c0) (k := 11) (lim_F0_11 hc0)
            have kr_28 : gr σ9 c0 9 = some 50 := (FX_r cσ9 id (show ¬ ((c0 = c0 ∧ 9 = 11)) from by first | omega | (have ugc0 := un gc0; omega))).trans kr_22
            refine ⟨?_, ?_⟩
            · intro q_29
              replace H := f_f q_29 H
              have b_30 : ¬ r10.toInt = 0 := fun h9 => q_29 (Int32.toInt_inj.mp h9)
              intro v12 ev12
              replace H := f_l ev12 H
              have t_31 : (x3 + (1 : Int32)).toInt = x3.toInt + 1 := i_add (x := x3) (y := (1 : Int32)) (by show (_ : Int) ≤ x3.toInt + 1; omega) (by show x3.toInt + 1 ≤ (_ : Int); omega)
              have t_32 : v12.toInt = (x3 + (1 : Int32)).toInt := congrArg Int32.toInt ev12
              exact ih48 v12 σ9 mσ9 fσ9 (by omega) (by omega) (by first | with_reducible assumption | with_reducible rfl | omega | assumption | rfl) H (by omega)
            · intro q_29
              replace H := f_t q_29 H
              have b_33 : r10.toInt = 0 := congrArg Int32.toInt q_29
              refine ⟨?_, ?_⟩
              · intro q_34
                replace H := f_f q_34 H
                have t_35 := XI_c1 mσ9 (id := c0) (k := 10) (lim_F0_10 hc0)
                have b_36 : ¬ (gi σ9 c0 11).toInt = (gi σ9 c0 10).toInt := fun h9 => q_34 (Int32.toInt_inj.mp h9)
                have z_37 : (0 : Int32).toInt = 0 := rfl
                exact h9ret (0 : Int32) σ9 mσ9 fσ9 (by omega) (by omega) (H0.trans H.symm)
              · intro q_34
                replace H := f_t q_34 H
                have t_38 := XI_c1 mσ9 (id := c0) (k := 10) (lim_F0_10 hc0)
                have b_39 : (gi σ9 c0 11).toInt = (gi σ9 c0 10).toInt := congrArg Int32.toInt q_34
                have z_40 : (1 : Int32).toInt = 1 := rfl
                exact h9ret (1 : Int32) σ9 mσ9 fσ9 (by omega) (by omega) (H0.trans H.symm)
          · intro q_23
            replace H := f_t q_23 H
            have b_41 : r7.toInt = 0 := congrArg Int32.toInt q_23
            have z_42 : (0 : Int32).toInt = 0 := rfl
            exact h9ret (0 : Int32) σ6 mσ6 fσ6 (by omega) (by omega) (H0.trans H.symm)
  have U48 := T 90
  have f0 : FX (fun id => id = c0 + 1 ∨ id = c0 + 2 ∨ id = c0 + 3 ∨ id = c0 + 4) (fun id k => (id = c0 ∧ k = 0) ∨ (id = c0 ∧ k = 1) ∨ (id = c0 ∧ k = 2) ∨ (id = c0 ∧ k = 4) ∨ (id = c0 ∧ k = 8) ∨ (id = c0 ∧ k = 9) ∨ (id = c0 ∧ k = 10) ∨ (id = c0 ∧ k = 11)) σ0 σ0 := FX_rf
  have t_43 := XI_c1 m0 (id := c0) (k := 10) (lim_F0_10 hc0)
  have t_44 := XI_c1 m0 (id := c0) (k := 11) (lim_F0_11 hc0)
  have H := H0
  unfold F_X2_reads at H
  refine s_X2_reads_0 C hN hc0 lc0 ha1 la1 ?_
  intro σ1 eσ1
  replace H := f_l eσ1 H
  have mσ1 : XI (mV M) σ1 := by rw [eσ1]; exact XIs_n m0 (lim_F0_n hc0 _ (by decide +kernel))
  have fσ1 : FX (fun id => id = c0 + 1 ∨ id = c0 + 2 ∨ id = c0 + 3 ∨ id = c0 + 4) (fun id k => (id = c0 ∧ k = 0) ∨ (id = c0 ∧ k = 1) ∨ (id = c0 ∧ k = 2) ∨ (id = c0 ∧ k = 4) ∨ (id = c0 ∧ k = 8) ∨ (id = c0 ∧ k = 9) ∨ (id = c0 ∧ k = 10) ∨ (id = c0 ∧ k = 11)) σ0 σ1 := by rw [eσ1]; exact FX_si f0 (Or.inr (show (c0 = c0 ∧ 0 = 0) ∨ (c0 = c0 ∧ 0 = 1) ∨ (c0 = c0 ∧ 0 = 2) ∨ (c0 = c0 ∧ 0 = 4) ∨ (c0 = c0 ∧ 0 = 8) ∨ (c0 = c0 ∧ 0 = 9) ∨ (c0 = c0 ∧ 0 = 10) ∨ (c0 = c0 ∧ 0 = 11) from Or.inl (⟨rfl, rfl⟩)))
  have k_45 : (gi σ1 c0 10).toInt = (gi σ0 c0 10).toInt := gk_r eσ1 rfl
  have k_46 : (gi σ1 c0 11).toInt = (gi σ0 c0 11).toInt := gk_r eσ1 rfl
  intro σ2 eσ2
  replace H := f_l eσ2 H
  have mσ2 : XI (mV M) σ2 := by rw [eσ2]; exact XIs_n mσ1 (lim_F0_n hc0 _ (by decide +kernel))
  have fσ2 : FX (fun id => id = c0 + 1 ∨ id = c0 + 2 ∨ id = c0 + 3 ∨ id = c0 + 4) (fun id k => (id = c0 ∧ k = 0) ∨ (id = c0 ∧ k = 1) ∨ (id = c0 ∧ k = 2) ∨ (id = c0 ∧ k = 4) ∨ (id = c0 ∧ k = 8) ∨ (id = c0 ∧ k = 9) ∨ (id = c0 ∧ k = 10) ∨ (id = c0 ∧ k = 11)) σ0 σ2 := by rw [eσ2]; exact FX_si fσ1 (Or.inr (show (c0 = c0 ∧ 1 = 0) ∨ (c0 = c0 ∧ 1 = 1) ∨ (c0 = c0 ∧ 1 = 2) ∨ (c0 = c0 ∧ 1 = 4) ∨ (c0 = c0 ∧ 1 = 8) ∨ (c0 = c0 ∧ 1 = 9) ∨ (c0 = c0 ∧ 1 = 10) ∨ (c0 = c0 ∧ 1 = 11) from Or.inr (Or.inl (⟨rfl, rfl⟩))))
  have k_47 : (gi σ2 c0 10).toInt = (gi σ1 c0 10).toInt := gk_r eσ2 rfl
  have k_48 : (gi σ2 c0 11).toInt = (gi σ1 c0 11).toInt := gk_r eσ2 rfl
  intro σ3 eσ3
  replace H := f_l eσ3 H
  have mσ3 : XI (mV M) σ3 := by rw [eσ3]; exact XIs_n mσ2 (lim_F0_n hc0 _ (by decide +kernel))
  have fσ3 : FX (fun id => id = c0 + 1 ∨ id = c0 + 2 ∨ id = c0 + 3 ∨ id = c0 + 4) (fun id k => (id = c0 ∧ k = 0) ∨ (id = c0 ∧ k = 1) ∨ (id = c0 ∧ k = 2) ∨ (id = c0 ∧ k = 4) ∨ (id = c0 ∧ k = 8) ∨ (id = c0 ∧ k = 9) ∨ (id = c0 ∧ k = 10) ∨ (id = c0 ∧ k = 11)) σ0 σ3 := by rw [eσ3]; exact FX_si fσ2 (Or.inr (show (c0 = c0 ∧ 2 = 0) ∨ (c0 = c0 ∧ 2 = 1) ∨ (c0 = c0 ∧ 2 = 2) ∨ (c0 = c0 ∧ 2 = 4) ∨ (c0 = c0 ∧ 2 = 8) ∨ (c0 = c0 ∧ 2 = 9) ∨ (c0 = c0 ∧ 2 = 10) ∨ (c0 = c0 ∧ 2 = 11) from Or.inr (Or.inr (Or.inl (⟨rfl, rfl⟩)))))
  have k_49 : (gi σ3 c0 10).toInt = (gi σ2 c0 10).toInt := gk_r eσ3 rfl
  have k_50 : (gi σ3 c0 11).toInt = (gi σ2 c0 11).toInt := gk_r eσ3 rfl
  intro σ4 eσ4
  replace H := f_l eσ4 H
  have z_51 : (0 : Int32).toInt = 0 := rfl
  have mσ4 : XI (mV M) σ4 := by rw [eσ4]; exact XIs_b mσ3 (lim_F0_4 hc0) (by omega) (by omega)
  have fσ4 : FX (fun id => id = c0 + 1 ∨ id = c0 + 2 ∨ id = c0 + 3 ∨ id = c0 + 4) (fun id k => (id = c0 ∧ k = 0) ∨ (id = c0 ∧ k = 1) ∨ (id = c0 ∧ k = 2) ∨ (id = c0 ∧ k = 4) ∨ (id = c0 ∧ k = 8) ∨ (id = c0 ∧ k = 9) ∨ (id = c0 ∧ k = 10) ∨ (id = c0 ∧ k = 11)) σ0 σ4 := by rw [eσ4]; exact FX_si fσ3 (Or.inr (show (c0 = c0 ∧ 4 = 0) ∨ (c0 = c0 ∧ 4 = 1) ∨ (c0 = c0 ∧ 4 = 2) ∨ (c0 = c0 ∧ 4 = 4) ∨ (c0 = c0 ∧ 4 = 8) ∨ (c0 = c0 ∧ 4 = 9) ∨ (c0 = c0 ∧ 4 = 10) ∨ (c0 = c0 ∧ 4 = 11) from Or.inr (Or.inr (Or.inr (Or.inl (⟨rfl, rfl⟩))))))
  have k_52 : (gi σ4 c0 10).toInt = (gi σ3 c0 10).toInt := gk_r eσ4 rfl
  have k_53 : (gi σ4 c0 11).toInt = (gi σ3 c0 11).toInt := gk_r eσ4 rfl
  intro σ5 eσ5
  replace H := f_l eσ5 H
  have mσ5 : XI (mV M) σ5 := by rw [eσ5]; exact XIs_b mσ4 (lim_F0_8 hc0) (by omega) (by omega)
  have fσ5 : FX (fun id => id = c0 + 1 ∨ id = c0 + 2 ∨ id = c0 + 3 ∨ id = c0 + 4) (fun id k => (id = c0 ∧ k = 0) ∨ (id = c0 ∧ k = 1) ∨ (id = c0 ∧ k = 2) ∨ (id = c0 ∧ k = 4) ∨ (id = c0 ∧ k = 8) ∨ (id = c0 ∧ k = 9) ∨ (id = c0 ∧ k = 10) ∨ (id = c0 ∧ k = 11)) σ0 σ5 := by rw [eσ5]; exact FX_si fσ4 (Or.inr (show (c0 = c0 ∧ 8 = 0) ∨ (c0 = c0 ∧ 8 = 1) ∨ (c0 = c0 ∧ 8 = 2) ∨ (c0 = c0 ∧ 8 = 4) ∨ (c0 = c0 ∧ 8 = 8) ∨ (c0 = c0 ∧ 8 = 9) ∨ (c0 = c0 ∧ 8 = 10) ∨ (c0 = c0 ∧ 8 = 11) from Or.inr (Or.inr (Or.inr (Or.inr (Or.inl (⟨rfl, rfl⟩)))))))
  have k_54 : (gi σ5 c0 10).toInt = (gi σ4 c0 10).toInt := gk_r eσ5 rfl
  have k_55 : (gi σ5 c0 11).toInt = (gi σ4 c0 11).toInt := gk_r eσ5 rfl
  intro σ6 eσ6
  replace H := f_l eσ6 H
  have e50 : a1 = 50 := by omega
  have mσ6 : XI (mV M) σ6 := by
    rw [eσ6]
    exact XIs_r mσ5 (fun c hc e _ => by have g9 := un gc0; rcases hc with rfl | rfl | rfl <;> (exfalso; omega)) (fun c hc e => by have g9 := un gc0; rcases hc with rfl | rfl | rfl <;> (exfalso; omega)) (fun e => by have g9 := un gc0; exfalso; omega) (fun _ _ => Or.inr (by rw [e50]))
  have fσ6 : FX (fun id => id = c0 + 1 ∨ id = c0 + 2 ∨ id = c0 + 3 ∨ id = c0 + 4) (fun id k => (id = c0 ∧ k = 0) ∨ (id = c0 ∧ k = 1) ∨ (id = c0 ∧ k = 2) ∨ (id = c0 ∧ k = 4) ∨ (id = c0 ∧ k = 8) ∨ (id = c0 ∧ k = 9) ∨ (id = c0 ∧ k = 10) ∨ (id = c0 ∧ k = 11)) σ0 σ6 := by rw [eσ6]; exact FX_sr fσ5 (Or.inr (show (c0 = c0 ∧ 9 = 0) ∨ (c0 = c0 ∧ 9 = 1) ∨ (c0 = c0 ∧ 9 = 2) ∨ (c0 = c0 ∧ 9 = 4) ∨ (c0 = c0 ∧ 9 = 8) ∨ (c0 = c0 ∧ 9 = 9) ∨ (c0 = c0 ∧ 9 = 10) ∨ (c0 = c0 ∧ 9 = 11) from Or.inr (Or.inr (Or.inr (Or.inr (Or.inr (Or.inl (⟨rfl, rfl⟩))))))))
  have k_56 : (gi σ6 c0 10).toInt = (gi σ5 c0 10).toInt := by rw [eσ6]; rfl
  have k_57 : (gi σ6 c0 11).toInt = (gi σ5 c0 11).toInt := by rw [eσ6]; rfl
  have kr_58 : gr σ6 c0 9 = some 50 := by rw [eσ6, gr_sr, if_pos ⟨rfl, rfl⟩, e50]
  intro v7 ev7
  replace H := f_l (show v7 = jmin a2 (Int32.ofNat 100) from by rw [← pre1]; exact ev7) H
  have t_59 := jmin_b a2 (Int32.ofNat na1)
  have t_60 : v7.toInt = (jmin a2 (Int32.ofNat na1)).toInt := congrArg Int32.toInt ev7
  intro σ8 eσ8
  replace H := f_l eσ8 H
  have w_61 := Int32.toInt_lt v7
  have w_62 := Int32.le_toInt v7
  have mσ8 : XI (mV M) σ8 := by rw [eσ8]; exact XIs_b mσ6 (lim_F0_10 hc0) (by omega) (by omega)
  have fσ8 : FX (fun id => id = c0 + 1 ∨ id = c0 + 2 ∨ id = c0 + 3 ∨ id = c0 + 4) (fun id k => (id = c0 ∧ k = 0) ∨ (id = c0 ∧ k = 1) ∨ (id = c0 ∧ k = 2) ∨ (id = c0 ∧ k = 4) ∨ (id = c0 ∧ k = 8) ∨ (id = c0 ∧ k = 9) ∨ (id = c0 ∧ k = 10) ∨ (id = c0 ∧ k = 11)) σ0 σ8 := by rw [eσ8]; exact FX_si fσ6 (Or.inr (show (c0 = c0 ∧ 10 = 0) ∨ (c0 = c0 ∧ 10 = 1) ∨ (c0 = c0 ∧ 10 = 2) ∨ (c0 = c0 ∧ 10 = 4) ∨ (c0 = c0 ∧ 10 = 8) ∨ (c0 = c0 ∧ 10 = 9) ∨ (c0 = c0 ∧ 10 = 10) ∨ (c0 = c0 ∧ 10 = 11) from Or.inr (Or.inr (Or.inr (Or.inr (Or.inr (Or.inr (Or.inl (⟨rfl, rfl⟩)))))))))
  have k_63 : (gi σ8 c0 10).toInt = v7.toInt := by rw [eσ8]; exact congrArg Int32.toInt gi_si_eq
  have k_64 : (gi σ8 c0 11).toInt = (gi σ6 c0 11).toInt := gk_r eσ8 rfl
  have kr_65 : gr σ8 c0 9 = some 50 := ((by rw [eσ8]; rfl : gr σ8 c0 9 = gr σ6 c0 9)).trans kr_58
  intro σ9 eσ9
  replace H := f_l eσ9 H
  have mσ9 : XI (mV M) σ9 := by rw [eσ9]; exact XIs_b mσ8 (lim_F0_11 hc0) (by omega) (by omega)
  have fσ9 : FX (fun id => id = c0 + 1 ∨ id = c0 + 2 ∨ id = c0 + 3 ∨ id = c0 + 4) (fun id k => (id = c0 ∧ k = 0) ∨ (id = c0 ∧ k = 1) ∨ (id = c0 ∧ k = 2) ∨ (id = c0 ∧ k = 4) ∨ (id = c0 ∧ k = 8) ∨ (id = c0 ∧ k = 9) ∨ (id = c0 ∧ k = 10) ∨ (id = c0 ∧ k = 11)) σ0 σ9 := by rw [eσ9]; exact FX_si fσ8 (Or.inr (show (c0 = c0 ∧ 11 = 0) ∨ (c0 = c0 ∧ 11 = 1) ∨ (c0 = c0 ∧ 11 = 2) ∨ (c0 = c0 ∧ 11 = 4) ∨ (c0 = c0 ∧ 11 = 8) ∨ (c0 = c0 ∧ 11 = 9) ∨ (c0 = c0 ∧ 11 = 10) ∨ (c0 = c0 ∧ 11 = 11) from Or.inr (Or.inr (Or.inr (Or.inr (Or.inr (Or.inr (Or.inr (⟨rfl, rfl⟩)))))))))
  have k_66 : (gi σ9 c0 10).toInt = (gi σ8 c0 10).toInt := gk_r eσ9 rfl
  have k_67 : (gi σ9 c0 11).toInt = 0 := by rw [eσ9]; exact congrArg Int32.toInt gi_si_eq
  have kr_68 : gr σ9 c0 9 = some 50 := ((by rw [eσ9]; rfl : gr σ9 c0 9 = gr σ8 c0 9)).trans kr_65
  have z_69 : (1 : Int32).toInt = 1 := rfl
  exact U48 (1 : Int32) σ9 mσ9 fσ9 (by omega) (by omega) (by first | with_reducible assumption | with_reducible rfl | omega | assumption | rfl) H (by omega)
set_option maxRecDepth 100000 in
set_option maxHeartbeats 4000000 in
theorem kF_X11_feed {l : Launch} {V : Vx} {a1 : Int32} {σ0 : Sg} {Qk : Int32 → Sg → Prop} (m0 : XI V σ0) (h9ret : ∀ (r : Int32) (σ' : Sg), XI V σ' → FX (fun id => id = 50) (fun id k => (id = 0 ∧ k = 7)) σ0 σ' → (F_X11_feed a1 σ0 = (r, σ')) → Qk r σ') : K_X11_feed l V a1 σ0 Qk := by
  refine e_X11_feed (fun M hl hV hN C => ?_)
  subst hl
  subst hV
  obtain ⟨R9, H0⟩ : ∃ R9, F_X11_feed a1 σ0 = R9 := ⟨_, rfl⟩
  have f0 : FX (fun id => id = 50) (fun id k => (id = 0 ∧ k = 7)) σ0 σ0 := FX_rf
  have t_1 := XI_c1 m0 (id := 0) (k := 7) (rfl)
  have t_2 := XI_c1 m0 (id := 1) (k := 1) (lim_C0_1 (Or.inl rfl))
  have H := H0
  unfold F_X11_feed at H
  refine s_X11_feed_0 C hN  ?_
  refine ⟨?_, ?_⟩
  · intro q_3
    replace H := f_t q_3 H
    have w_4 := Int32.toInt_lt a1
    have w_5 := Int32.le_toInt a1
    have b_6 : a1.toInt < 0 := Int32.lt_iff_toInt_lt.mp q_3
    have z_7 : (-2 : Int32).toInt = -2 := rfl
    exact h9ret (-2 : Int32) σ0 m0 f0 (H0.trans H.symm)
  · intro q_3
    replace H := f_f q_3 H
    have w_8 := Int32.toInt_lt a1
    have w_9 := Int32.le_toInt a1
    have b_10 : ¬ a1.toInt < 0 := fun h9 => q_3 (Int32.lt_iff_toInt_lt.mpr h9)
    refine ⟨?_, ?_⟩
    · intro q_11
      replace H := f_t q_11 H
      have b_12 : a1.toInt ≤ 127 := Int32.le_iff_toInt_le.mp q_11
      refine ⟨?_, ?_⟩
      · intro q_13
        replace H := f_t q_13 H
        have b_14 : (gi σ0 0 7).toInt < 100 := Int32.lt_iff_toInt_lt.mp q_13
        have hv_15 : vp_in (gi σ0 0 7) 100 := vp_in_iff.mpr ⟨by omega, by omega⟩
        refine ⟨hv_15, ?_⟩
        intro σ5 eσ5
        replace H := f_l eσ5 H
        have mσ5 : XI (mV M) σ5 := by rw [eσ5]; exact XIs_n m0 (rfl)
        have fσ5 : FX (fun id => id = 50) (fun id k => (id = 0 ∧ k = 7)) σ0 σ5 := by rw [eσ5]; exact FX_si f0 (Or.inl (show 50 = 50 from rfl))
        have k_16 : (gi σ5 0 7).toInt = (gi σ0 0 7).toInt := by rw [eσ5]; exact congrArg Int32.toInt (gi_si_ne (Or.inl (by omega)))
        have k_17 : (gi σ5 1 1).toInt = (gi σ0 1 1).toInt := by rw [eσ5]; exact congrArg Int32.toInt (gi_si_ne (Or.inl (by omega)))
        intro σ6 eσ6
        replace H := f_l eσ6 H
        have t_18 := XI_c1 mσ5 (id := 0) (k := 7) (rfl)
        have t_19 : ((gi σ5 0 7) + (1 : Int32)).toInt = (gi σ5 0 7).toInt + 1 := i_add (x := (gi σ5 0 7)) (y := (1 : Int32)) (by show (_ : Int) ≤ (gi σ5 0 7).toInt + 1; omega) (by show (gi σ5 0 7).toInt + 1 ≤ (_ : Int); omega)
        have mσ6 : XI (mV M) σ6 := by rw [eσ6]; exact XIs_b mσ5 (rfl) (by omega) (by omega)
        have fσ6 : FX (fun id => id = 50) (fun id k => (id = 0 ∧ k = 7)) σ0 σ6 := by rw [eσ6]; exact FX_si fσ5 (Or.inr (show (0 = 0 ∧ 7 = 7) from ⟨rfl, rfl⟩))
        have k_20 : (gi σ6 0 7).toInt = ((gi σ5 0 7) + (1 : Int32)).toInt := by rw [eσ6]; exact congrArg Int32.toInt gi_si_eq
        have k_21 : (gi σ6 1 1).toInt = (gi σ5 1 1).toInt := by rw [eσ6]; exact congrArg Int32.toInt (gi_si_ne (Or.inl (by omega)))
        exact h9ret (gi σ6 0 7) σ6 mσ6 fσ6 (H0.trans H.symm)
      · intro q_13
        replace H := f_f q_13 H
        have b_22 : ¬ (gi σ0 0 7).toInt < 100 := fun h9 => q_13 (Int32.lt_iff_toInt_lt.mpr h9)
        have z_23 : (-4 : Int32).toInt = -4 := rfl
        exact h9ret (-4 : Int32) σ0 m0 f0 (H0.trans H.symm)
    · intro q_11
      replace H := f_f q_11 H
      have b_24 : ¬ a1.toInt ≤ 127 := fun h9 => q_11 (Int32.le_iff_toInt_le.mpr h9)
      have z_25 : (-2 : Int32).toInt = -2 := rfl
      exact h9ret (-2 : Int32) σ0 m0 f0 (H0.trans H.symm)
set_option maxRecDepth 100000 in
set_option maxHeartbeats 4000000 in
theorem kF_X11_count {l : Launch} {V : Vx} {a1 : Int32} {σ0 : Sg} {Qk : Int32 → Sg → Prop} (m0 : XI V σ0) (h9ret : ∀ (r : Int32) (σ' : Sg), XI V σ' → FX (fun id => False) (fun _ _ => False) σ0 σ' → (F_X11_count a1 σ0 = (r, σ')) → Qk r σ') : K_X11_count l V a1 σ0 Qk := by
  refine e_X11_count (fun M hl hV hN C => ?_)
  subst hl
  subst hV
  obtain ⟨R9, H0⟩ : ∃ R9, F_X11_count a1 σ0 = R9 := ⟨_, rfl⟩
  have f0 : FX (fun id => False) (fun _ _ => False) σ0 σ0 := FX_rf
  have t_1 := XI_c1 m0 (id := 0) (k := 5) (rfl)
  have t_2 := XI_c1 m0 (id := 0) (k := 7) (rfl)
  have t_3 := XI_c1 m0 (id := 1) (k := 1) (lim_C0_1 (Or.inl rfl))
  have t_4 := XI_c1 m0 (id := 11) (k := 1) (lim_C10_1 (Or.inl rfl))
  have t_5 := XI_c1 m0 (id := 13) (k := 1) (lim_C12_1 (Or.inl rfl))
  have t_6 := XI_c1 m0 (lim_N (Or.inr (Or.inr (Or.inr (Or.inr (Or.inr (Or.inr (Or.inr (Or.inr (Or.inr (rfl)))))))))))
  have t_7 := nl_le (Or.inr (Or.inr (Or.inr (Or.inr (Or.inr (Or.inr (Or.inr (Or.inr (Or.inr (rfl))))))))))
  have t_8 := XI_c1 m0 (id := 9) (k := 1) (lim_C8_1 (Or.inl rfl))
  have H := H0
  unfold F_X11_count at H
  refine s_X11_count_0 C hN  ?_
  refine ⟨?_, ?_, ?_, ?_, ?_, ?_, ?_, ?_⟩
  · intro q_9
    replace H := f_f (by omega) H
    replace H := f_f (by omega) H
    replace H := f_f (by omega) H
    replace H := f_f (by omega) H
    replace H := f_f (by omega) H
    replace H := f_f (by omega) H
    replace H := f_f (by omega) H
    have z_10 : (-2 : Int32).toInt = -2 := rfl
    exact h9ret (-2 : Int32) σ0 m0 f0 (H0.trans H.symm)
  · intro q_9
    replace H := f_t q_9 H
    exact h9ret (gi σ0 1 1) σ0 m0 f0 (H0.trans H.symm)
  · intro q_9
    replace H := f_f (by omega) H
    replace H := f_t q_9 H
    exact h9ret (gi σ0 0 5) σ0 m0 f0 (H0.trans H.symm)
  · intro q_9
    replace H := f_f (by omega) H
    replace H := f_f (by omega) H
    replace H := f_t q_9 H
    exact h9ret ((gi σ0 9 1) / (3 : Int32)) σ0 m0 f0 (H0.trans H.symm)
  · intro q_9
    replace H := f_f (by omega) H
    replace H := f_f (by omega) H
    replace H := f_f (by omega) H
    replace H := f_t q_9 H
    exact h9ret (gi σ0 11 1) σ0 m0 f0 (H0.trans H.symm)
  · intro q_9
    replace H := f_f (by omega) H
    replace H := f_f (by omega) H
    replace H := f_f (by omega) H
    replace H := f_f (by omega) H
    replace H := f_t q_9 H
    exact h9ret (gi σ0 13 1) σ0 m0 f0 (H0.trans H.symm)
  · intro q_9
    replace H := f_f (by omega) H
    replace H := f_f (by omega) H
    replace H := f_f (by omega) H
    replace H := f_f (by omega) H
    replace H := f_f (by omega) H
    replace H := f_t q_9 H
    exact h9ret (gi σ0 0 7) σ0 m0 f0 (H0.trans H.symm)
  · intro q_9
    replace H := f_f (by omega) H
    replace H := f_f (by omega) H
    replace H := f_f (by omega) H
    replace H := f_f (by omega) H
    replace H := f_f (by omega) H
    replace H := f_f (by omega) H
    replace H := f_t q_9 H
    exact h9ret (gi σ0 64 1) σ0 m0 f0 (H0.trans H.symm)
set_option maxRecDepth 100000 in
set_option maxHeartbeats 4000000 in
theorem kF_X12_has {l : Launch} {V : Vx} {a1 : Int32} {a2 : Int32} {σ0 : Sg} {Qk : Int32 → Sg → Prop} (m0 : MI σ0) (h9ret : ∀ (r : Int32) (σ' : Sg), MI σ' → Fr [] [] σ0 σ' → (0 ≤ r.toInt) → (r.toInt ≤ 1) → (BQ r a1 a2) → (F_X12_has a1 a2 σ0 = (r, σ')) → Qk r σ') : K_X12_has l V a1 a2 σ0 Qk := by
  refine e_X12_has (fun M hl hV hN C => ?_)
  subst hl
  subst hV
  obtain ⟨R9, H0⟩ : ∃ R9, F_X12_has a1 a2 σ0 = R9 := ⟨_, rfl⟩
  have f0 : Fr [] [] σ0 σ0 := Fr_rf
  have H := H0
  unfold F_X12_has at H
  refine s_X12_has_0 C hN ?_
  refine ⟨?_, ?_⟩
  · intro q_1
    replace H := f_f q_1 H
    have w_2 := Int32.toInt_lt a1
    have w_3 := Int32.le_toInt a1
    have w_4 := Int32.toInt_lt a2
    have w_5 := Int32.le_toInt a2
    have b_6 : ¬ ((a1 >>> (a2 &&& (31 : Int32))) &&& (1 : Int32)).toInt = 1 := fun h9 => q_1 (Int32.toInt_inj.mp h9)
    have z_7 : (0 : Int32).toInt = 0 := rfl
    exact h9ret (0 : Int32) σ0 m0 f0 (by omega) (by omega) (by first | exact BQ_0 (by first | with_reducible assumption | assumption) | exact BQ_1 (by first | with_reducible assumption | assumption)) (H0.trans H.symm)
  · intro q_1
    replace H := f_t q_1 H
    have w_8 := Int32.toInt_lt a1
    have w_9 := Int32.le_toInt a1
    have w_10 := Int32.toInt_lt a2
    have w_11 := Int32.le_toInt a2
    have b_12 : ((a1 >>> (a2 &&& (31 : Int32))) &&& (1 : Int32)).toInt = 1 := congrArg Int32.toInt q_1
    have z_13 : (1 : Int32).toInt = 1 := rfl
    exact h9ret (1 : Int32) σ0 m0 f0 (by omega) (by omega) (by first | exact BQ_0 (by first | with_reducible assumption | assumption) | exact BQ_1 (by first | with_reducible assumption | assumption)) (H0.trans H.symm)
set_option maxRecDepth 100000 in
set_option maxHeartbeats 4000000 in
theorem kF_X12_least {l : Launch} {V : Vx} {a1 : Int32} {a2 : Int32} {σ0 : Sg} {Qk : Int32 → Sg → Prop} (m0 : MI σ0) (h9ret : ∀ (r : Int32) (σ' : Sg), MI σ' → Fr [] [] σ0 σ' → (r.toInt ≤ a1.toInt ∧ r.toInt ≤ a2.toInt ∧ (r.toInt = a1.toInt ∨ r.toInt = a2.toInt)) → (F_X12_least a1 a2 σ0 = (r, σ')) → Qk r σ') : K_X12_least l V a1 a2 σ0 Qk := by
  refine e_X12_least (fun M hl hV hN C => ?_)
  subst hl
  subst hV
  obtain ⟨R9, H0⟩ : ∃ R9, F_X12_least a1 a2 σ0 = R9 := ⟨_, rfl⟩
  have f0 : Fr [] [] σ0 σ0 := Fr_rf
  have H := H0
  unfold F_X12_least at H
  refine s_X12_least_0 C hN ?_
  refine ⟨?_, ?_⟩
  · intro q_1
    replace H := f_t q_1 H
    have w_2 := Int32.toInt_lt a2
    have w_3 := Int32.le_toInt a2
    have w_4 := Int32.toInt_lt a1
    have w_5 := Int32.le_toInt a1
    have b_6 : a2.toInt ≤ a1.toInt := Int32.le_iff_toInt_le.mp q_1
    exact h9ret a2 σ0 m0 f0 (by first | with_reducible assumption | with_reducible rfl | omega | assumption | rfl) (H0.trans H.symm)
  · intro q_1
    replace H := f_f q_1 H
    have w_7 := Int32.toInt_lt a2
    have w_8 := Int32.le_toInt a2
    have w_9 := Int32.toInt_lt a1
    have w_10 := Int32.le_toInt a1
    have b_11 : ¬ a2.toInt ≤ a1.toInt := fun h9 => q_1 (Int32.le_iff_toInt_le.mpr h9)
    exact h9ret a1 σ0 m0 f0 (by first | with_reducible assumption | with_reducible rfl | omega | assumption | rfl) (H0.trans H.symm)
set_option maxRecDepth 100000 in
set_option maxHeartbeats 4000000 in
theorem kF_X12_most {l : Launch} {V : Vx} {a1 : Int32} {a2 : Int32} {σ0 : Sg} {Qk : Int32 → Sg → Prop} (m0 : MI σ0) (h9ret : ∀ (r : Int32) (σ' : Sg), MI σ' → Fr [] [] σ0 σ' → (a1.toInt ≤ r.toInt ∧ a2.toInt ≤ r.toInt ∧ (r.toInt = a1.toInt ∨ r.toInt = a2.toInt)) → (F_X12_most a1 a2 σ0 = (r, σ')) → Qk r σ') : K_X12_most l V a1 a2 σ0 Qk := by
  refine e_X12_most (fun M hl hV hN C => ?_)
  subst hl
  subst hV
  obtain ⟨R9, H0⟩ : ∃ R9, F_X12_most a1 a2 σ0 = R9 := ⟨_, rfl⟩
  have f0 : Fr [] [] σ0 σ0 := Fr_rf
  have H := H0
  unfold F_X12_most at H
  refine s_X12_most_0 C hN ?_
  refine ⟨?_, ?_⟩
  · intro q_1
    replace H := f_t q_1 H
    have w_2 := Int32.toInt_lt a1
    have w_3 := Int32.le_toInt a1
    have w_4 := Int32.toInt_lt a2
    have w_5 := Int32.le_toInt a2
    have b_6 : a1.toInt ≤ a2.toInt := Int32.le_iff_toInt_le.mp q_1
    exact h9ret a2 σ0 m0 f0 (by first | with_reducible assumption | with_reducible rfl | omega | assumption | rfl) (H0.trans H.symm)
  · intro q_1
    replace H := f_f q_1 H
    have w_7 := Int32.toInt_lt a1
    have w_8 := Int32.le_toInt a1
    have w_9 := Int32.toInt_lt a2
    have w_10 := Int32.le_toInt a2
    have b_11 : ¬ a1.toInt ≤ a2.toInt := fun h9 => q_1 (Int32.le_iff_toInt_le.mpr h9)
    exact h9ret a1 σ0 m0 f0 (by first | with_reducible assumption | with_reducible rfl | omega | assumption | rfl) (H0.trans H.symm)
set_option maxRecDepth 100000 in
set_option maxHeartbeats 4000000 in
theorem kF_X12_feed {l : Launch} {V : Vx} {a1 : Int32} {σ0 : Sg} {Qk : Int32 → Sg → Prop} (m0 : MI σ0) (h9ret : ∀ (r : Int32) (σ' : Sg), MI σ' → Fr [74, 116] [13] σ0 σ' → (F_X12_feed a1 σ0 = (r, σ')) → Qk r σ') : K_X12_feed l V a1 σ0 Qk := by
  refine e_X12_feed (fun M hl hV hN C => ?_)
  subst hl
  subst hV
  obtain ⟨R9, H0⟩ : ∃ R9, F_X12_feed a1 σ0 = R9 := ⟨_, rfl⟩
  have f0 : Fr [74, 116] [13] σ0 σ0 := Fr_rf
  have H := H0
  unfold F_X12_feed at H
  refine s_X12_feed_0 C hN ?_
  refine kF_X12_in m0  (fun r2 σ1 mσ1 cσ1 plσ1 phσ1 (pσ1_0 : (r2.toInt = 1 ∧ (0 : Int) ≤ a1.toInt ∧ a1.toInt ≤ (127 : Int)) ∨ (r2.toInt = 0 ∧ (a1.toInt < (0 : Int) ∨ (127 : Int) < a1.toInt))) hσ1 => ?_)
  obtain rfl := Fr_nil cσ1
  replace H := f_b hσ1 H
  refine ⟨?_, ?_⟩
  · intro q_1
    replace H := f_f q_1 H
    have b_2 : ¬ r2.toInt = 0 := fun h9 => q_1 (Int32.toInt_inj.mp h9)
    refine ⟨?_, ?_⟩
    · intro q_3
      replace H := f_f q_3 H
      have t_4 := MI_f13 m0
      have b_5 : ¬ (gi σ0 74 13).toInt = 100 := fun h9 => q_3 (Int32.toInt_inj.mp h9)
      have hv_6 : vp_in (gi σ0 74 13) 100 := vp_in_iff.mpr ⟨by omega, by omega⟩
      refine ⟨hv_6, ?_⟩
      intro σ6 eσ6
      replace H := f_l eσ6 H
      have w_7 := Int32.toInt_lt a1
      have w_8 := Int32.le_toInt a1
      have mσ6 : MI σ6 := by rw [eσ6]; exact MIs_a116 m0 (by omega) (by omega)
      have fσ6 : Fr [74, 116] [13] σ0 σ6 := by rw [eσ6]; exact Fr_si f0 (by decide +kernel) (fun h9 => absurd h9 (by decide +kernel))
      have k_9 : (gi σ6 74 13).toInt = (gi σ0 74 13).toInt := gk_l eσ6 rfl
      intro σ7 eσ7
      replace H := f_l eσ7 H
      have t_10 := MI_f13 mσ6
      have t_11 : ((gi σ6 74 13) + (1 : Int32)).toInt = (gi σ6 74 13).toInt + 1 := i_add (x := (gi σ6 74 13)) (y := (1 : Int32)) (by show (_ : Int) ≤ (gi σ6 74 13).toInt + 1; omega) (by show (gi σ6 74 13).toInt + 1 ≤ (_ : Int); omega)
      have mσ7 : MI σ7 := by rw [eσ7]; exact MIs_f13 mσ6 (by omega) (by omega)
      have fσ7 : Fr [74, 116] [13] σ0 σ7 := by rw [eσ7]; exact Fr_si fσ6 (by decide +kernel) (fun _ => by decide +kernel)
      have k_12 : (gi σ7 74 13).toInt = ((gi σ6 74 13) + (1 : Int32)).toInt := by rw [eσ7]; exact congrArg Int32.toInt gi_si_eq
      exact h9ret (gi σ7 74 13) σ7 mσ7 fσ7 (H0.trans H.symm)
    · intro q_3
      replace H := f_t q_3 H
      have t_13 := MI_f13 m0
      have b_14 : (gi σ0 74 13).toInt = 100 := congrArg Int32.toInt q_3
      have z_15 : (-4 : Int32).toInt = -4 := rfl
      exact h9ret (-4 : Int32) σ0 m0 f0 (H0.trans H.symm)
  · intro q_1
    replace H := f_t q_1 H
    have b_16 : r2.toInt = 0 := congrArg Int32.toInt q_1
    have z_17 : (-2 : Int32).toInt = -2 := rfl
    exact h9ret (-2 : Int32) σ0 m0 f0 (H0.trans H.symm)
set_option maxRecDepth 100000 in
set_option maxHeartbeats 4000000 in
theorem kF_X12_next {l : Launch} {V : Vx} {σ0 : Sg} {Qk : Int32 → Sg → Prop} (m0 : MI σ0) (h9ret : ∀ (r : Int32) (σ' : Sg), MI σ' → Fr [] [] σ0 σ' → (r.toInt = (nxt σ0).toInt) → (F_X12_next σ0 = (r, σ')) → Qk r σ') : K_X12_next l V σ0 Qk := by
  refine e_X12_next (fun M hl hV hN C => ?_)
  subst hl
  subst hV
  obtain ⟨R9, H0⟩ : ∃ R9, F_X12_next σ0 = R9 := ⟨_, rfl⟩
  have f0 : Fr [] [] σ0 σ0 := Fr_rf
  have H := H0
  unfold F_X12_next at H
  refine s_X12_next_0 C hN ?_
  refine ⟨?_, ?_⟩
  · intro q_1
    replace H := f_t q_1 H
    have t_2 := MI_f13 m0
    have t_3 := MI_f14 m0
    have b_4 : (gi σ0 74 13).toInt ≤ (gi σ0 74 14).toInt := Int32.le_iff_toInt_le.mp q_1
    have z_5 : (-1 : Int32).toInt = -1 := rfl
    exact h9ret (-1 : Int32) σ0 m0 f0 (by first | exact congrArg Int32.toInt (nxt_a (by first | with_reducible assumption | assumption)).symm | exact congrArg Int32.toInt (nxt_b (by first | with_reducible assumption | assumption)).symm) (H0.trans H.symm)
  · intro q_1
    replace H := f_f q_1 H
    have t_6 := MI_f13 m0
    have t_7 := MI_f14 m0
    have b_8 : ¬ (gi σ0 74 13).toInt ≤ (gi σ0 74 14).toInt := fun h9 => q_1 (Int32.le_iff_toInt_le.mpr h9)
    have hv_9 : vp_in (gi σ0 74 14) 100 := vp_in_iff.mpr ⟨by omega, by omega⟩
    refine ⟨hv_9, ?_⟩
    have t_10 := MI_a116 m0 hv_9
    exact h9ret (gi σ0 116 (gi σ0 74 14).toNatClampNeg) σ0 m0 f0 (by first | exact congrArg Int32.toInt (nxt_a (by first | with_reducible assumption | assumption)).symm | exact congrArg Int32.toInt (nxt_b (by first | with_reducible assumption | assumption)).symm) (H0.trans H.symm)
set_option maxRecDepth 100000 in
set_option maxHeartbeats 4000000 in
theorem kF_X12_begin {l : Launch} {V : Vx} {σ0 : Sg} {Qk : Int32 → Sg → Prop} (m0 : MI σ0) (h9ret : ∀ (r : Int32) (σ' : Sg), MI σ' → Fr [] [] σ0 σ' → (0 ≤ r.toInt) → (r.toInt ≤ 50) → (((gi σ0 74 12).toInt < 0 ∧ r.toInt = 0) ∨ (0 ≤ (gi σ0 74 12).toInt ∧ r.toInt = 10 * (gi σ0 74 12).toInt)) → (F_X12_begin σ0 = (r, σ')) → Qk r σ') : K_X12_begin l V σ0 Qk := by
  refine e_X12_begin (fun M hl hV hN C => ?_)
  subst hl
  subst hV
  obtain ⟨R9, H0⟩ : ∃ R9, F_X12_begin σ0 = R9 := ⟨_, rfl⟩
  have f0 : Fr [] [] σ0 σ0 := Fr_rf
  have H := H0
  unfold F_X12_begin at H
  refine s_X12_begin_0 C hN ?_
  refine ⟨?_, ?_⟩
  · intro q_1
    replace H := f_t q_1 H
    have t_2 := MI_f12 m0
    have b_3 : (0 : Int) ≤ (gi σ0 74 12).toInt := Int32.le_iff_toInt_le.mp q_1
    have t_4 : ((10 : Int32) * (gi σ0 74 12)).toInt = 10 * (gi σ0 74 12).toInt := i_mull rfl (by omega) (by omega)
    have t_5 := MI_f12 m0
    exact h9ret ((10 : Int32) * (gi σ0 74 12)) σ0 m0 f0 (by omega) (by omega) (by first | with_reducible assumption | with_reducible rfl | omega | assumption | rfl) (H0.trans H.symm)
  · intro q_1
    replace H := f_f q_1 H
    have t_6 := MI_f12 m0
    have b_7 : ¬ (0 : Int) ≤ (gi σ0 74 12).toInt := fun h9 => q_1 (Int32.le_iff_toInt_le.mpr h9)
    have z_8 : (0 : Int32).toInt = 0 := rfl
    have t_9 := MI_f12 m0
    exact h9ret (0 : Int32) σ0 m0 f0 (by omega) (by omega) (by first | with_reducible assumption | with_reducible rfl | omega | assumption | rfl) (H0.trans H.symm)
set_option maxRecDepth 100000 in
set_option maxHeartbeats 4000000 in
theorem kF_X12_behind {l : Launch} {V : Vx} {σ0 : Sg} {Qk : Int32 → Sg → Prop} (m0 : MI σ0) (h9ret : ∀ (r : Int32) (σ' : Sg), MI σ' → Fr [] [] σ0 σ' → (0 ≤ r.toInt) → (r.toInt ≤ 60) → (((gi σ0 74 12).toInt < 0 ∧ r.toInt = 0) ∨ (0 ≤ (gi σ0 74 12).toInt ∧ r.toInt = 10 * (gi σ0 74 12).toInt + (gi σ0 117 (gi σ0 74 12).toNatClampNeg).toInt)) → (F_X12_behind σ0 = (r, σ')) → Qk r σ') : K_X12_behind l V σ0 Qk := by
  refine e_X12_behind (fun M hl hV hN C => ?_)
  subst hl
  subst hV
  obtain ⟨R9, H0⟩ : ∃ R9, F_X12_behind σ0 = R9 := ⟨_, rfl⟩
  have f0 : Fr [] [] σ0 σ0 := Fr_rf
  have H := H0
  unfold F_X12_behind at H
  refine s_X12_behind_0 C hN ?_
  refine ⟨?_, ?_⟩
  · intro q_1
    replace H := f_t q_1 H
    have t_2 := MI_f12 m0
    have b_3 : (0 : Int) ≤ (gi σ0 74 12).toInt := Int32.le_iff_toInt_le.mp q_1
    have hv_4 : vp_in (gi σ0 74 12) 6 := vp_in_iff.mpr ⟨by omega, by omega⟩
    refine ⟨hv_4, ?_⟩
    have t_5 : ((10 : Int32) * (gi σ0 74 12)).toInt = 10 * (gi σ0 74 12).toInt := i_mull rfl (by omega) (by omega)
    have t_6 := MI_a117 m0 hv_4
    have t_7 : (((10 : Int32) * (gi σ0 74 12)) + (gi σ0 117 (gi σ0 74 12).toNatClampNeg)).toInt = ((10 : Int32) * (gi σ0 74 12)).toInt + (gi σ0 117 (gi σ0 74 12).toNatClampNeg).toInt := i_add (x := ((10 : Int32) * (gi σ0 74 12))) (y := (gi σ0 117 (gi σ0 74 12).toNatClampNeg)) (by show (_ : Int) ≤ ((10 : Int32) * (gi σ0 74 12)).toInt + (gi σ0 117 (gi σ0 74 12).toNatClampNeg).toInt; omega) (by show ((10 : Int32) * (gi σ0 74 12)).toInt + (gi σ0 117 (gi σ0 74 12).toNatClampNeg).toInt ≤ (_ : Int); omega)
    have t_8 := MI_f12 m0
    exact h9ret (((10 : Int32) * (gi σ0 74 12)) + (gi σ0 117 (gi σ0 74 12).toNatClampNeg)) σ0 m0 f0 (by omega) (by omega) (by first | with_reducible assumption | with_reducible rfl | omega | assumption | rfl) (H0.trans H.symm)
  · intro q_1
    replace H := f_f q_1 H
    have t_9 := MI_f12 m0
    have b_10 : ¬ (0 : Int) ≤ (gi σ0 74 12).toInt := fun h9 => q_1 (Int32.le_iff_toInt_le.mpr h9)
    have z_11 : (0 : Int32).toInt = 0 := rfl
    have t_12 := MI_f12 m0
    exact h9ret (0 : Int32) σ0 m0 f0 (by omega) (by omega) (by first | with_reducible assumption | with_reducible rfl | omega | assumption | rfl) (H0.trans H.symm)
set_option maxRecDepth 100000 in
set_option maxHeartbeats 4000000 in
theorem kF_X12_set {l : Launch} {V : Vx} {a1 : Int32} {a2 : Int32} {a3 : Int32} {σ0 : Sg} {Qk : Int32 → Sg → Prop} (m0 : MI σ0) (h9ret : ∀ (r : Int32) (σ' : Sg), MI σ' → Fr [105, 106, 107, 108] [] σ0 σ' → (F_X12_set a1 a2 a3 σ0 = (r, σ')) → Qk r σ') : K_X12_set l V a1 a2 a3 σ0 Qk := by
  refine e_X12_set (fun M hl hV hN C => ?_)
  subst hl
  subst hV
  obtain ⟨R9, H0⟩ : ∃ R9, F_X12_set a1 a2 a3 σ0 = R9 := ⟨_, rfl⟩
  have T : ∀ n : Nat, (∀ (x1 : Int32) (x2 : Int32) (x3 : Int32) (z0 : Int32) (z1 : Int32) (z2 : Int32) (σ : Sg), MI σ → Fr [105, 106, 107, 108] [] σ0 σ → (0 ≤ x1.toInt) → (x1.toInt ≤ 5) → (z1.toInt = 0) → (z2.toInt = x3.toInt) → ((x2.toInt = 0 ∧ z0.toInt = 9999) ∨ (¬ x2.toInt = 0 ∧ z0.toInt ≤ 99)) → (LF_X12_set n 0 x1 x2 x3 z0 z1 z2 0 σ = R9) → 3 < n → PS M 45 [(0, .ref 74), (1, .int x1), (2, .int x2), (3, .int x3)] [.int z0, .int z1, .int z2, .ref 74] σ (0, 0)) ∧ (∀ (x1 : Int32) (x2 : Int32) (x3 : Int32) (x4 : Int32) (σ : Sg), MI σ → Fr [105, 106, 107, 108] [] σ0 σ → (0 ≤ x1.toInt) → (x1.toInt ≤ 5) → (LF_X12_set n 1 x1 x2 x3 0 0 0 x4 σ = R9) → 2 < n → PS M 114 [(0, .ref 74), (1, .int x1), (2, .int x2), (3, .int x3), (4, .int x4)] [] σ (0, 0)) ∧ (∀ (x1 : Int32) (x2 : Int32) (x3 : Int32) (x4 : Int32) (σ : Sg), MI σ → Fr [105, 106, 107, 108] [] σ0 σ → (0 ≤ x1.toInt) → (x1.toInt ≤ 5) → (LF_X12_set n 2 x1 x2 x3 0 0 0 x4 σ = R9) → 1 < n → PS M 138 [(0, .ref 74), (1, .int x1), (2, .int x2), (3, .int x3), (4, .int x4)] [] σ (0, 0)) := by
    intro n
    induction n with
    | zero => exact ⟨fun _ _ _ _ _ _ _ _ _ _ _ _ _ _ _ h8 => absurd h8 (Nat.not_lt_zero _), fun _ _ _ _ _ _ _ _ _ _ h8 => absurd h8 (Nat.not_lt_zero _), fun _ _ _ _ _ _ _ _ _ _ h8 => absurd h8 (Nat.not_lt_zero _)⟩
    | succ n ih =>
      obtain ⟨ih45, ih114, ih138⟩ := ih
      refine ⟨?_, ?_, ?_⟩
      · intro x1 x2 x3 z0 z1 z2 σ mσ fσ lx1 ux1 i0 i1 i2 H hmu
        replace H : LB_X12_set_45 (LF_X12_set n) x1 x2 x3 z0 z1 z2 σ = R9 := H
        unfold LB_X12_set_45 at H
        refine s_X12_set_45 C hN ?_
        refine kF_X12_in mσ  (fun r2 σ1 mσ1 cσ1 plσ1 phσ1 (pσ1_0 : (r2.toInt = 1 ∧ z1.toInt ≤ z2.toInt ∧ z2.toInt ≤ z0.toInt) ∨ (r2.toInt = 0 ∧ (z2.toInt < z1.toInt ∨ z0.toInt < z2.toInt))) hσ1 => ?_)
        obtain rfl := Fr_nil cσ1
        replace H := f_b hσ1 H
        refine ⟨?_, ?_⟩
        · intro q_1
          replace H := f_f q_1 H
          have b_2 : ¬ r2.toInt = 0 := fun h9 => q_1 (Int32.toInt_inj.mp h9)
          refine ⟨?_, ?_⟩
          · intro q_3
            replace H := f_f q_3 H
            have w_4 := Int32.toInt_lt x2
            have w_5 := Int32.le_toInt x2
            have b_6 : ¬ x2.toInt = 0 := fun h9 => q_3 (Int32.toInt_inj.mp h9)
            refine ⟨?_, ?_⟩
            · intro q_7
              replace H := f_f q_7 H
              have b_8 : ¬ x2.toInt = 1 := fun h9 => q_7 (Int32.toInt_inj.mp h9)
              refine ⟨?_, ?_⟩
              · intro q_9
                replace H := f_f q_9 H
                have b_10 : ¬ x2.toInt = 2 := fun h9 => q_9 (Int32.toInt_inj.mp h9)
                have hv_11 : vp_in x1 6 := vp_in_iff.mpr ⟨by omega, by omega⟩
                refine ⟨hv_11, ?_⟩
                intro v8 ev8
                replace H := f_l ev8 H
                refine ⟨?_, ?_⟩
                · intro q_12
                  replace H := f_f q_12 H
                  have b_13 : ¬ x2.toInt = 0 := fun h9 => q_12 (Int32.toInt_inj.mp h9)
                  exact ih114 x1 x2 x3 v8 σ mσ fσ (by omega) (by omega) H (by omega)
                · intro q_12
                  replace H := f_t q_12 H
                  have b_14 : x2.toInt = 0 := congrArg Int32.toInt q_12
                  refine ⟨hv_11, ?_⟩
                  intro σ11 eσ11
                  replace H := f_l eσ11 H
                  have w_15 := Int32.toInt_lt x3
                  have w_16 := Int32.le_toInt x3
                  have mσ11 : MI σ11 := by rw [eσ11]; exact MIs_a105 mσ (by omega) (by omega)
                  have fσ11 : Fr [105, 106, 107, 108] [] σ0 σ11 := by rw [eσ11]; exact Fr_si fσ (by decide +kernel) (fun h9 => absurd h9 (by decide +kernel))
                  exact ih114 x1 x2 x3 v8 σ11 mσ11 fσ11 (by omega) (by omega) H (by omega)
              · intro q_9
                replace H := f_t q_9 H
                have b_17 : x2.toInt = 2 := congrArg Int32.toInt q_9
                have hv_18 : vp_in x1 6 := vp_in_iff.mpr ⟨by omega, by omega⟩
                refine ⟨hv_18, ?_⟩
                intro v13 ev13
                replace H := f_l ev13 H
                refine ⟨?_, ?_⟩
                · intro q_19
                  replace H := f_f q_19 H
                  have b_20 : ¬ x2.toInt = 0 := fun h9 => q_19 (Int32.toInt_inj.mp h9)
                  exact ih114 x1 x2 x3 v13 σ mσ fσ (by omega) (by omega) H (by omega)
                · intro q_19
                  replace H := f_t q_19 H
                  have b_21 : x2.toInt = 0 := congrArg Int32.toInt q_19
                  refine ⟨hv_18, ?_⟩
                  intro σ16 eσ16
                  replace H := f_l eσ16 H
                  have w_22 := Int32.toInt_lt x3
                  have w_23 := Int32.le_toInt x3
                  have mσ16 : MI σ16 := by rw [eσ16]; exact MIs_a105 mσ (by omega) (by omega)
                  have fσ16 : Fr [105, 106, 107, 108] [] σ0 σ16 := by rw [eσ16]; exact Fr_si fσ (by decide +kernel) (fun h9 => absurd h9 (by decide +kernel))
                  exact ih114 x1 x2 x3 v13 σ16 mσ16 fσ16 (by omega) (by omega) H (by omega)
            · intro q_7
              replace H := f_t q_7 H
              have b_24 : x2.toInt = 1 := congrArg Int32.toInt q_7
              have hv_25 : vp_in x1 6 := vp_in_iff.mpr ⟨by omega, by omega⟩
              refine ⟨hv_25, ?_⟩
              intro v18 ev18
              replace H := f_l ev18 H
              refine ⟨?_, ?_⟩
              · intro q_26
                replace H := f_f q_26 H
                have b_27 : ¬ x2.toInt = 0 := fun h9 => q_26 (Int32.toInt_inj.mp h9)
                exact ih114 x1 x2 x3 v18 σ mσ fσ (by omega) (by omega) H (by omega)
              · intro q_26
                replace H := f_t q_26 H
                have b_28 : x2.toInt = 0 := congrArg Int32.toInt q_26
                refine ⟨hv_25, ?_⟩
                intro σ21 eσ21
                replace H := f_l eσ21 H
                have w_29 := Int32.toInt_lt x3
                have w_30 := Int32.le_toInt x3
                have mσ21 : MI σ21 := by rw [eσ21]; exact MIs_a105 mσ (by omega) (by omega)
                have fσ21 : Fr [105, 106, 107, 108] [] σ0 σ21 := by rw [eσ21]; exact Fr_si fσ (by decide +kernel) (fun h9 => absurd h9 (by decide +kernel))
                exact ih114 x1 x2 x3 v18 σ21 mσ21 fσ21 (by omega) (by omega) H (by omega)
          · intro q_3
            replace H := f_t q_3 H
            have w_31 := Int32.toInt_lt x2
            have w_32 := Int32.le_toInt x2
            have b_33 : x2.toInt = 0 := congrArg Int32.toInt q_3
            have hv_34 : vp_in x1 6 := vp_in_iff.mpr ⟨by omega, by omega⟩
            refine ⟨hv_34, ?_⟩
            intro v23 ev23
            replace H := f_l ev23 H
            have t_35 := MI_a105 mσ hv_34
            have t_36 : v23.toInt = (gi σ 105 x1.toNatClampNeg).toInt := congrArg Int32.toInt ev23
            refine ⟨?_, ?_⟩
            · intro q_37
              replace H := f_f q_37 H
              have b_38 : ¬ x2.toInt = 0 := fun h9 => q_37 (Int32.toInt_inj.mp h9)
              exact ih114 x1 x2 x3 v23 σ mσ fσ (by omega) (by omega) H (by omega)
            · intro q_37
              replace H := f_t q_37 H
              have b_39 : x2.toInt = 0 := congrArg Int32.toInt q_37
              refine ⟨hv_34, ?_⟩
              intro σ26 eσ26
              replace H := f_l eσ26 H
              have w_40 := Int32.toInt_lt x3
              have w_41 := Int32.le_toInt x3
              have mσ26 : MI σ26 := by rw [eσ26]; exact MIs_a105 mσ (by omega) (by omega)
              have fσ26 : Fr [105, 106, 107, 108] [] σ0 σ26 := by rw [eσ26]; exact Fr_si fσ (by decide +kernel) (fun h9 => absurd h9 (by decide +kernel))
              exact ih114 x1 x2 x3 v23 σ26 mσ26 fσ26 (by omega) (by omega) H (by omega)
        · intro q_1
          replace H := f_t q_1 H
          have b_42 : r2.toInt = 0 := congrArg Int32.toInt q_1
          have z_43 : (-2 : Int32).toInt = -2 := rfl
          exact h9ret (-2 : Int32) σ mσ fσ (H0.trans H.symm)
      · intro x1 x2 x3 x4 σ mσ fσ lx1 ux1 H hmu
        replace H : LB_X12_set_114 (LF_X12_set n) x1 x2 x3 x4 σ = R9 := H
        unfold LB_X12_set_114 at H
        refine s_X12_set_114 C hN ?_
        refine ⟨?_, ?_⟩
        · intro q_44
          replace H := f_f q_44 H
          have w_45 := Int32.toInt_lt x2
          have w_46 := Int32.le_toInt x2
          have b_47 : ¬ x2.toInt = 1 := fun h9 => q_44 (Int32.toInt_inj.mp h9)
          refine ⟨?_, ?_⟩
          · intro q_48
            replace H := f_f q_48 H
            have b_49 : ¬ x2.toInt = 2 := fun h9 => q_48 (Int32.toInt_inj.mp h9)
            exact ih138 x1 x2 x3 x4 σ mσ fσ (by omega) (by omega) H (by omega)
          · intro q_48
            replace H := f_t q_48 H
            have b_50 : x2.toInt = 2 := congrArg Int32.toInt q_48
            have hv_51 : vp_in x1 6 := vp_in_iff.mpr ⟨by omega, by omega⟩
            refine ⟨hv_51, ?_⟩
            intro σ4 eσ4
            replace H := f_l eσ4 H
            have mσ4 : MI σ4 := by rw [eσ4]; exact MIs_au (a := 107) mσ rfl rfl
            have fσ4 : Fr [105, 106, 107, 108] [] σ0 σ4 := by rw [eσ4]; exact Fr_si fσ (by decide +kernel) (fun h9 => absurd h9 (by decide +kernel))
            exact ih138 x1 x2 x3 x4 σ4 mσ4 fσ4 (by omega) (by omega) H (by omega)
        · intro q_44
          replace H := f_t q_44 H
          have w_52 := Int32.toInt_lt x2
          have w_53 := Int32.le_toInt x2
          have b_54 : x2.toInt = 1 := congrArg Int32.toInt q_44
          have hv_55 : vp_in x1 6 := vp_in_iff.mpr ⟨by omega, by omega⟩
          refine ⟨hv_55, ?_⟩
          intro σ6 eσ6
          replace H := f_l eσ6 H
          have mσ6 : MI σ6 := by rw [eσ6]; exact MIs_au (a := 106) mσ rfl rfl
          have fσ6 : Fr [105, 106, 107, 108] [] σ0 σ6 := by rw [eσ6]; exact Fr_si fσ (by decide +kernel) (fun h9 => absurd h9 (by decide +kernel))
          refine ⟨?_, ?_⟩
          · intro q_56
            replace H := f_f q_56 H
            have b_57 : ¬ x2.toInt = 2 := fun h9 => q_56 (Int32.toInt_inj.mp h9)
            exact ih138 x1 x2 x3 x4 σ6 mσ6 fσ6 (by omega) (by omega) H (by omega)
          · intro q_56
            replace H := f_t q_56 H
            have b_58 : x2.toInt = 2 := congrArg Int32.toInt q_56
            refine ⟨hv_55, ?_⟩
            intro σ9 eσ9
            replace H := f_l eσ9 H
            have mσ9 : MI σ9 := by rw [eσ9]; exact MIs_au (a := 107) mσ6 rfl rfl
            have fσ9 : Fr [105, 106, 107, 108] [] σ0 σ9 := by rw [eσ9]; exact Fr_si fσ6 (by decide +kernel) (fun h9 => absurd h9 (by decide +kernel))
            exact ih138 x1 x2 x3 x4 σ9 mσ9 fσ9 (by omega) (by omega) H (by omega)
      · intro x1 x2 x3 x4 σ mσ fσ lx1 ux1 H hmu
        replace H : LB_X12_set_138 (LF_X12_set n) x1 x2 x3 x4 σ = R9 := H
        unfold LB_X12_set_138 at H
        refine s_X12_set_138 C hN ?_
        refine ⟨?_, ?_⟩
        · intro q_59
          replace H := f_f q_59 H
          have w_60 := Int32.toInt_lt x2
          have w_61 := Int32.le_toInt x2
          have b_62 : ¬ x2.toInt = 3 := fun h9 => q_59 (Int32.toInt_inj.mp h9)
          exact h9ret x4 σ mσ fσ (H0.trans H.symm)
        · intro q_59
          replace H := f_t q_59 H
          have w_63 := Int32.toInt_lt x2
          have w_64 := Int32.le_toInt x2
          have b_65 : x2.toInt = 3 := congrArg Int32.toInt q_59
          have hv_66 : vp_in x1 6 := vp_in_iff.mpr ⟨by omega, by omega⟩
          refine ⟨hv_66, ?_⟩
          intro σ3 eσ3
          replace H := f_l eσ3 H
          have mσ3 : MI σ3 := by rw [eσ3]; exact MIs_au (a := 108) mσ rfl rfl
          have fσ3 : Fr [105, 106, 107, 108] [] σ0 σ3 := by rw [eσ3]; exact Fr_si fσ (by decide +kernel) (fun h9 => absurd h9 (by decide +kernel))
          exact h9ret x4 σ3 mσ3 fσ3 (H0.trans H.symm)
  obtain ⟨U45, U114, U138⟩ := T 9
  have f0 : Fr [105, 106, 107, 108] [] σ0 σ0 := Fr_rf
  have H := H0
  unfold F_X12_set at H
  refine s_X12_set_0 C hN ?_
  refine kF_X12_isMower m0  (fun r2 σ1 mσ1 cσ1 plσ1 phσ1 (pσ1_0 : (r2.toInt = 1 ∧ 0 ≤ a1.toInt ∧ a1.toInt < (gi σ0 74 0).toInt) ∨ (r2.toInt = 0 ∧ (a1.toInt < 0 ∨ (gi σ0 74 0).toInt ≤ a1.toInt))) hσ1 => ?_)
  obtain rfl := Fr_nil cσ1
  replace H := f_b hσ1 H
  have t_67 := MI_f0 m0
  refine ⟨?_, ?_⟩
  · intro q_68
    replace H := f_t q_68 H
    have b_69 : r2.toInt = 0 := congrArg Int32.toInt q_68
    have z_70 : (-1 : Int32).toInt = -1 := rfl
    exact h9ret (-1 : Int32) σ0 m0 f0 (H0.trans H.symm)
  · intro q_68
    replace H := f_f q_68 H
    have b_71 : ¬ r2.toInt = 0 := fun h9 => q_68 (Int32.toInt_inj.mp h9)
    refine kF_X12_in m0  (fun r5 σ4 mσ4 cσ4 plσ4 phσ4 (pσ4_0 : (r5.toInt = 1 ∧ (0 : Int) ≤ a2.toInt ∧ a2.toInt ≤ (3 : Int)) ∨ (r5.toInt = 0 ∧ (a2.toInt < (0 : Int) ∨ (3 : Int) < a2.toInt))) hσ4 => ?_)
    obtain rfl := Fr_nil cσ4
    replace H := f_b hσ4 H
    refine ⟨?_, ?_⟩
    · intro q_72
      replace H := f_f q_72 H
      have b_73 : ¬ r5.toInt = 0 := fun h9 => q_72 (Int32.toInt_inj.mp h9)
      refine ⟨?_, ?_⟩
      · intro q_74
        replace H := f_f q_74 H
        have w_75 := Int32.toInt_lt a2
        have w_76 := Int32.le_toInt a2
        have b_77 : ¬ a2.toInt = 0 := fun h9 => q_74 (Int32.toInt_inj.mp h9)
        refine ⟨?_, ?_⟩
        · intro q_78
          replace H := f_f q_78 H
          have b_79 : ¬ a2.toInt = 1 := fun h9 => q_78 (Int32.toInt_inj.mp h9)
          have z_80 : (99 : Int32).toInt = 99 := rfl
          have z_81 : (0 : Int32).toInt = 0 := rfl
          exact U45 a1 a2 a3 (99 : Int32) (0 : Int32) a3 σ0 m0 f0 (by omega) (by omega) (by first | with_reducible assumption | with_reducible rfl | omega | assumption | rfl) (by first | with_reducible assumption | with_reducible rfl | omega | assumption | rfl) (by first | with_reducible assumption | with_reducible rfl | omega | assumption | rfl) H (by omega)
        · intro q_78
          replace H := f_t q_78 H
          have b_82 : a2.toInt = 1 := congrArg Int32.toInt q_78
          have z_83 : (10 : Int32).toInt = 10 := rfl
          have z_84 : (0 : Int32).toInt = 0 := rfl
          exact U45 a1 a2 a3 (10 : Int32) (0 : Int32) a3 σ0 m0 f0 (by omega) (by omega) (by first | with_reducible assumption | with_reducible rfl | omega | assumption | rfl) (by first | with_reducible assumption | with_reducible rfl | omega | assumption | rfl) (by first | with_reducible assumption | with_reducible rfl | omega | assumption | rfl) H (by omega)
      · intro q_74
        replace H := f_t q_74 H
        have w_85 := Int32.toInt_lt a2
        have w_86 := Int32.le_toInt a2
        have b_87 : a2.toInt = 0 := congrArg Int32.toInt q_74
        have z_88 : (9999 : Int32).toInt = 9999 := rfl
        have z_89 : (0 : Int32).toInt = 0 := rfl
        exact U45 a1 a2 a3 (9999 : Int32) (0 : Int32) a3 σ0 m0 f0 (by omega) (by omega) (by first | with_reducible assumption | with_reducible rfl | omega | assumption | rfl) (by first | with_reducible assumption | with_reducible rfl | omega | assumption | rfl) (by first | with_reducible assumption | with_reducible rfl | omega | assumption | rfl) H (by omega)
    · intro q_72
      replace H := f_t q_72 H
      have b_90 : r5.toInt = 0 := congrArg Int32.toInt q_72
      have z_91 : (-1 : Int32).toInt = -1 := rfl
      exact h9ret (-1 : Int32) σ0 m0 f0 (H0.trans H.symm)
set_option maxRecDepth 100000 in
set_option maxHeartbeats 4000000 in
theorem kF_X12_lastOf {l : Launch} {V : Vx} {a1 : Int32} {a2 : Int32} {σ0 : Sg} {Qk : Int32 → Sg → Prop} (m0 : MI σ0) (h9ret : ∀ (r : Int32) (σ' : Sg), MI σ' → Fr [] [] σ0 σ' → (F_X12_lastOf a1 a2 σ0 = (r, σ')) → Qk r σ') : K_X12_lastOf l V a1 a2 σ0 Qk := by
  refine e_X12_lastOf (fun M hl hV hN C => ?_)
  subst hl
  subst hV
  obtain ⟨R9, H0⟩ : ∃ R9, F_X12_lastOf a1 a2 σ0 = R9 := ⟨_, rfl⟩
  have T : ∀ n : Nat, (∀ (x1 : Int32) (x3 : Int32) (x4 : Int32) (σ : Sg), MI σ → Fr [] [] σ0 σ → (0 ≤ x4.toInt) → (x4.toInt ≤ 60) → (LF_X12_lastOf n x1 x3 x4 σ = R9) → (61 - x4.toInt).toNat < n → PS M 8 [(0, .ref 74), (1, .int x1), (3, .int x3), (4, .int x4)] [] σ (0, 0)) := by
    intro n
    induction n with
    | zero => exact fun _ _ _ _ _ _ _ _ _ h8 => absurd h8 (Nat.not_lt_zero _)
    | succ n ih =>
      have ih8 := ih
      · intro x1 x3 x4 σ mσ fσ lx4 ux4 H hmu
        replace H : LB_X12_lastOf_8 (LF_X12_lastOf n) x1 x3 x4 σ = R9 := H
        unfold LB_X12_lastOf_8 at H
        refine s_X12_lastOf_8 C hN ?_
        refine kF_X12_behind mσ  (fun r2 σ1 mσ1 cσ1 plσ1 phσ1 (pσ1_0 : ((gi σ 74 12).toInt < 0 ∧ r2.toInt = 0) ∨ (0 ≤ (gi σ 74 12).toInt ∧ r2.toInt = 10 * (gi σ 74 12).toInt + (gi σ 117 (gi σ 74 12).toNatClampNeg).toInt)) hσ1 => ?_)
        obtain rfl := Fr_nil cσ1
        replace H := f_b hσ1 H
        have t_1 := MI_f12 mσ
        refine ⟨?_, ?_⟩
        · intro q_2
          replace H := f_t q_2 H
          have b_3 : r2.toInt ≤ x4.toInt := Int32.le_iff_toInt_le.mp q_2
          exact h9ret x3 σ mσ fσ (H0.trans H.symm)
        · intro q_2
          replace H := f_f q_2 H
          have b_4 : ¬ r2.toInt ≤ x4.toInt := fun h9 => q_2 (Int32.le_iff_toInt_le.mpr h9)
          have hv_5 : vp_in x4 60 := vp_in_iff.mpr ⟨by omega, by omega⟩
          refine ⟨hv_5, ?_⟩
          refine ⟨?_, ?_⟩
          · intro q_6
            replace H := f_f q_6 H
            have w_7 := Int32.toInt_lt x1
            have w_8 := Int32.le_toInt x1
            have b_9 : ¬ (gi σ 118 x4.toNatClampNeg).toInt = x1.toInt := fun h9 => q_6 (Int32.toInt_inj.mp h9)
            intro v6 ev6
            replace H := f_l ev6 H
            have t_10 : (x4 + (1 : Int32)).toInt = x4.toInt + 1 := i_add (x := x4) (y := (1 : Int32)) (by show (_ : Int) ≤ x4.toInt + 1; omega) (by show x4.toInt + 1 ≤ (_ : Int); omega)
            have t_11 : v6.toInt = (x4 + (1 : Int32)).toInt := congrArg Int32.toInt ev6
            exact ih8 x1 x3 v6 σ mσ fσ (by omega) (by omega) H (by omega)
          · intro q_6
            replace H := f_t q_6 H
            have w_12 := Int32.toInt_lt x1
            have w_13 := Int32.le_toInt x1
            have b_14 : (gi σ 118 x4.toNatClampNeg).toInt = x1.toInt := congrArg Int32.toInt q_6
            refine ⟨hv_5, ?_⟩
            intro v8 ev8
            replace H := f_l ev8 H
            intro v9 ev9
            replace H := f_l ev9 H
            have t_15 : (x4 + (1 : Int32)).toInt = x4.toInt + 1 := i_add (x := x4) (y := (1 : Int32)) (by show (_ : Int) ≤ x4.toInt + 1; omega) (by show x4.toInt + 1 ≤ (_ : Int); omega)
            have t_16 : v9.toInt = (x4 + (1 : Int32)).toInt := congrArg Int32.toInt ev9
            exact ih8 x1 v8 v9 σ mσ fσ (by omega) (by omega) H (by omega)
  have U8 := T 90
  have f0 : Fr [] [] σ0 σ0 := Fr_rf
  have H := H0
  unfold F_X12_lastOf at H
  refine s_X12_lastOf_0 C hN ?_
  refine kF_X12_begin m0  (fun r2 σ1 mσ1 cσ1 plσ1 phσ1 (pσ1_0 : ((gi σ0 74 12).toInt < 0 ∧ r2.toInt = 0) ∨ (0 ≤ (gi σ0 74 12).toInt ∧ r2.toInt = 10 * (gi σ0 74 12).toInt)) hσ1 => ?_)
  obtain rfl := Fr_nil cσ1
  replace H := f_b hσ1 H
  have t_17 := MI_f12 m0
  exact U8 a1 a2 r2 σ0 m0 f0 (by omega) (by omega) H (by omega)
set_option maxRecDepth 100000 in
set_option maxHeartbeats 4000000 in
theorem kF_X12_gap {l : Launch} {V : Vx} {σ0 : Sg} {Qk : Int32 → Sg → Prop} (m0 : MI σ0) (h9ret : ∀ (r : Int32) (σ' : Sg), MI σ' → Fr [] [] σ0 σ' → (F_X12_gap σ0 = (r, σ')) → Qk r σ') : K_X12_gap l V σ0 Qk := by
  refine e_X12_gap (fun M hl hV hN C => ?_)
  subst hl
  subst hV
  obtain ⟨R9, H0⟩ : ∃ R9, F_X12_gap σ0 = R9 := ⟨_, rfl⟩
  have f0 : Fr [] [] σ0 σ0 := Fr_rf
  have H := H0
  unfold F_X12_gap at H
  refine s_X12_gap_0 C hN ?_
  refine ⟨?_, ?_⟩
  · intro q_1
    replace H := f_t q_1 H
    have b_2 : (0 : Int) ≤ (gi σ0 74 28).toInt := Int32.le_iff_toInt_le.mp q_1
    exact h9ret (gi σ0 74 28) σ0 m0 f0 (H0.trans H.symm)
  · intro q_1
    replace H := f_f q_1 H
    have b_3 : ¬ (0 : Int) ≤ (gi σ0 74 28).toInt := fun h9 => q_1 (Int32.le_iff_toInt_le.mpr h9)
    refine kF_X12_lastOf m0  (fun r3 σ2 mσ2 cσ2 hσ2 => ?_)
    obtain rfl := Fr_nil cσ2
    replace H := f_b hσ2 H
    exact h9ret r3 σ0 m0 f0 (H0.trans H.symm)
set_option maxRecDepth 100000 in
set_option maxHeartbeats 4000000 in
theorem kF_X12_fieldLong {l : Launch} {V : Vx} {σ0 : Sg} {Qk : Int32 → Sg → Prop} (m0 : MI σ0) (h9ret : ∀ (r : Int32) (σ' : Sg), MI σ' → Fr [] [] σ0 σ' → (F_X12_fieldLong σ0 = (r, σ')) → Qk r σ') : K_X12_fieldLong l V σ0 Qk := by
  refine e_X12_fieldLong (fun M hl hV hN C => ?_)
  subst hl
  subst hV
  obtain ⟨R9, H0⟩ : ∃ R9, F_X12_fieldLong σ0 = R9 := ⟨_, rfl⟩
  have f0 : Fr [] [] σ0 σ0 := Fr_rf
  have H := H0
  unfold F_X12_fieldLong at H
  refine s_X12_fieldLong_0 C hN ?_
  refine kF_X12_lastOf m0  (fun r2 σ1 mσ1 cσ1 hσ1 => ?_)
  obtain rfl := Fr_nil cσ1
  replace H := f_b hσ1 H
  refine kF_X12_most m0  (fun r4 σ3 mσ3 cσ3 (pσ3_0 : (1 : Int) ≤ r4.toInt ∧ r2.toInt ≤ r4.toInt ∧ (r4.toInt = (1 : Int) ∨ r4.toInt = r2.toInt)) hσ3 => ?_)
  obtain rfl := Fr_nil cσ3
  replace H := f_b hσ3 H
  exact h9ret r4 σ0 m0 f0 (H0.trans H.symm)
set_option maxRecDepth 100000 in
set_option maxHeartbeats 4000000 in
theorem kF_X12_factOf {l : Launch} {V : Vx} {a1 : Int32} {a2 : Int32} {σ0 : Sg} {Qk : Int32 → Sg → Prop} (m0 : MI σ0) (l_a2 : 0 ≤ a2.toInt) (u_a2 : a2.toInt ≤ 5) (h9ret : ∀ (r : Int32) (σ' : Sg), MI σ' → Fr [] [] σ0 σ' → (F_X12_factOf a1 a2 σ0 = (r, σ')) → Qk r σ') : K_X12_factOf l V a1 a2 σ0 Qk := by
  refine e_X12_factOf (fun M hl hV hN C => ?_)
  subst hl
  subst hV
  obtain ⟨R9, H0⟩ : ∃ R9, F_X12_factOf a1 a2 σ0 = R9 := ⟨_, rfl⟩
  have f0 : Fr [] [] σ0 σ0 := Fr_rf
  have H := H0
  unfold F_X12_factOf at H
  refine s_X12_factOf_0 C hN ?_
  refine ⟨?_, ?_, ?_, ?_, ?_, ?_⟩
  · intro q_1
    replace H := f_f (by omega) H
    replace H := f_f (by omega) H
    replace H := f_f (by omega) H
    replace H := f_f (by omega) H
    replace H := f_f (by omega) H
    exact h9ret ((gi σ0 74 1) - (gi σ0 74 1) / (10 : Int32) * (10 : Int32)) σ0 m0 f0 (H0.trans H.symm)
  · intro q_1
    replace H := f_t q_1 H
    exact h9ret a2 σ0 m0 f0 (H0.trans H.symm)
  · intro q_1
    replace H := f_f (by omega) H
    replace H := f_t q_1 H
    have hv_2 : vp_in a2 6 := vp_in_iff.mpr ⟨by omega, by omega⟩
    refine ⟨hv_2, ?_⟩
    exact h9ret (gi σ0 103 a2.toNatClampNeg) σ0 m0 f0 (H0.trans H.symm)
  · intro q_1
    replace H := f_f (by omega) H
    replace H := f_f (by omega) H
    replace H := f_t q_1 H
    exact h9ret (gi σ0 74 30) σ0 m0 f0 (H0.trans H.symm)
  · intro q_1
    replace H := f_f (by omega) H
    replace H := f_f (by omega) H
    replace H := f_f (by omega) H
    replace H := f_t q_1 H
    have hv_3 : vp_in a2 6 := vp_in_iff.mpr ⟨by omega, by omega⟩
    refine ⟨hv_3, ?_⟩
    exact h9ret (gi σ0 106 a2.toNatClampNeg) σ0 m0 f0 (H0.trans H.symm)
  · intro q_1
    replace H := f_f (by omega) H
    replace H := f_f (by omega) H
    replace H := f_f (by omega) H
    replace H := f_f (by omega) H
    replace H := f_t q_1 H
    have hv_4 : vp_in a2 6 := vp_in_iff.mpr ⟨by omega, by omega⟩
    refine ⟨hv_4, ?_⟩
    exact h9ret ((gi σ0 107 a2.toNatClampNeg) / (10 : Int32)) σ0 m0 f0 (H0.trans H.symm)
set_option maxRecDepth 100000 in
set_option maxHeartbeats 4000000 in
theorem kF_X12_emits {l : Launch} {V : Vx} {a1 : Int32} {σ0 : Sg} {Qk : Sg → Prop} (m0 : MI σ0) (pre0 : (gi σ0 74 12).toInt < (gi σ0 74 11).toInt) (pre1 : (gi σ0 74 50).toInt < (gi σ0 74 11).toInt) (pre2 : 100 * (gi σ0 74 11).toInt ≤ (gi σ0 74 24).toInt) (pre3 : (gi σ0 74 24).toInt ≤ 599) (h9ret : ∀ (σ' : Sg), MI σ' → Fr [74, 122] [24] σ0 σ' → ((gi σ' 74 24).toInt = (gi σ0 74 24).toInt + 1) → (EMT σ0 σ' a1) → (F_X12_emits a1 σ0 = σ') → Qk σ') : K_X12_emits l V a1 σ0 Qk := by
  refine e_X12_emits (fun M hl hV hN C => ?_)
  subst hl
  subst hV
  obtain ⟨R9, H0⟩ : ∃ R9, F_X12_emits a1 σ0 = R9 := ⟨_, rfl⟩
  have f0 : Fr [74, 122] [24] σ0 σ0 := Fr_rf
  have e24 := cl_eq (x := gi σ0 74 24) (by have := MI_f24 m0; omega)
  have H := H0
  unfold F_X12_emits at H
  refine s_X12_emits_0 C hN ?_
  have t_1 := MI_f24 m0
  have hv_2 : vp_in (gi σ0 74 24) 600 := vp_in_iff.mpr ⟨by omega, by omega⟩
  refine ⟨hv_2, ?_⟩
  intro σ2 eσ2
  replace H := f_l eσ2 H
  have mσ2 : MI σ2 := by rw [eσ2]; exact MIs_au0 m0 rfl (FV_sign m0.2.2 pre0 pre1 (by omega))
  have fσ2 : Fr [74, 122] [24] σ0 σ2 := by rw [eσ2]; exact Fr_si f0 (by decide +kernel) (fun h9 => absurd h9 (by decide +kernel))
  have k_3 : (gi σ2 74 11).toInt = (gi σ0 74 11).toInt := gk_l eσ2 rfl
  have k_4 : (gi σ2 74 12).toInt = (gi σ0 74 12).toInt := gk_l eσ2 rfl
  have k_5 : (gi σ2 74 24).toInt = (gi σ0 74 24).toInt := gk_l eσ2 rfl
  have k_6 : (gi σ2 74 50).toInt = (gi σ0 74 50).toInt := gk_l eσ2 rfl
  intro σ3 eσ3
  replace H := f_l eσ3 H
  have t_7 := MI_f24 mσ2
  have t_8 : ((gi σ2 74 24) + (1 : Int32)).toInt = (gi σ2 74 24).toInt + 1 := i_add (x := (gi σ2 74 24)) (y := (1 : Int32)) (by show (_ : Int) ≤ (gi σ2 74 24).toInt + 1; omega) (by show (gi σ2 74 24).toInt + 1 ≤ (_ : Int); omega)
  have mσ3 : MI σ3 := by rw [eσ3]; exact MIs_f24 mσ2 (by omega) (by omega)
  have fσ3 : Fr [74, 122] [24] σ0 σ3 := by rw [eσ3]; exact Fr_si fσ2 (by decide +kernel) (fun _ => by decide +kernel)
  have k_9 : (gi σ3 74 11).toInt = (gi σ2 74 11).toInt := gk_r eσ3 rfl
  have k_10 : (gi σ3 74 12).toInt = (gi σ2 74 12).toInt := gk_r eσ3 rfl
  have k_11 : (gi σ3 74 24).toInt = ((gi σ2 74 24) + (1 : Int32)).toInt := by rw [eσ3]; exact congrArg Int32.toInt gi_si_eq
  have k_12 : (gi σ3 74 50).toInt = (gi σ2 74 50).toInt := gk_r eσ3 rfl
  exact h9ret σ3 mσ3 fσ3 (by first | with_reducible assumption | with_reducible rfl | omega | assumption | rfl) (⟨by rw [eσ3, gi_si_ne (Or.inl (by decide +kernel)), eσ2, gi_si_eq], fun k hk => by rw [eσ3, gi_si_ne (Or.inl (by decide +kernel)), eσ2, gi_si_ne (Or.inr hk)]⟩) (H0.trans H.symm)
set_option maxRecDepth 100000 in
set_option maxHeartbeats 4000000 in
theorem kF_X12_whole {l : Launch} {V : Vx} {σ0 : Sg} {Qk : Sg → Prop} (m0 : MI σ0) (pre0 : (gi σ0 74 12).toInt < (gi σ0 74 11).toInt) (pre1 : (gi σ0 74 50).toInt < (gi σ0 74 11).toInt) (pre2 : 100 * (gi σ0 74 11).toInt ≤ (gi σ0 74 24).toInt) (pre3 : (gi σ0 74 24).toInt + (gi σ0 74 25).toInt ≤ 599) (h9ret : ∀ (σ' : Sg), MI σ' → Fr [74, 122] [24, 25, 26] σ0 σ' → (HK σ0 σ') → ((gi σ' 74 24).toInt + (gi σ' 74 25).toInt = (gi σ0 74 24).toInt + (gi σ0 74 25).toInt) → ((gi σ' 74 25).toInt ≤ (gi σ0 74 25).toInt) → (nbw σ' (gi σ' 74 25).toNatClampNeg = nbw σ0 (gi σ0 74 25).toNatClampNeg) → (BL σ0 σ') → ((gi σ0 74 24).toInt ≤ (gi σ' 74 24).toInt) → (F_X12_whole σ0 = σ') → Qk σ') : K_X12_whole l V σ0 Qk := by
  refine e_X12_whole (fun M hl hV hN C => ?_)
  subst hl
  subst hV
  obtain ⟨R9, H0⟩ : ∃ R9, F_X12_whole σ0 = R9 := ⟨_, rfl⟩
  have T : ∀ n : Nat, (∀ (σ : Sg), MI σ → Fr [74, 122] [24, 25, 26] σ0 σ → (HK σ0 σ) → ((gi σ 74 24).toInt + (gi σ 74 25).toInt = (gi σ0 74 24).toInt + (gi σ0 74 25).toInt) → ((gi σ 74 25).toInt ≤ (gi σ0 74 25).toInt) → (nbw σ0 (gi σ 74 25).toNatClampNeg = nbw σ0 (gi σ0 74 25).toNatClampNeg) → (100 * (gi σ 74 11).toInt ≤ (gi σ 74 24).toInt) → ((gi σ 74 12).toInt < (gi σ 74 11).toInt) → ((gi σ 74 50).toInt < (gi σ 74 11).toInt) → (BL σ0 σ) → ((gi σ0 74 24).toInt ≤ (gi σ 74 24).toInt) → (LF_X12_whole n  σ = R9) → (gi σ 74 25).toInt.toNat < n → PS M 0 [(0, .ref 74)] [] σ (0, 0)) := by
    intro n
    induction n with
    | zero => exact fun _ _ _ _ _ _ _ _ _ _ _ _ _ h8 => absurd h8 (Nat.not_lt_zero _)
    | succ n ih =>
      have ih0 := ih
      · intro σ mσ fσ i0 i1 i2 i3 i4 i5 i6 i7 i8 H hmu
        replace H : LB_X12_whole_0 (LF_X12_whole n) σ = R9 := H
        unfold LB_X12_whole_0 at H
        have mw24 := MI_f24 mσ
        have mw25 := MI_f25 mσ
        refine s_X12_whole_0 C hN ?_
        refine ⟨?_, ?_⟩
        · intro q_1
          replace H := f_t q_1 H
          have t_2 := MI_f25 mσ
          have b_3 : (gi σ 74 25).toInt ≤ 0 := Int32.le_iff_toInt_le.mp q_1
          exact h9ret σ mσ fσ (by first | with_reducible assumption | assumption) (by first | with_reducible assumption | with_reducible rfl | omega | assumption | rfl) (by first | with_reducible assumption | with_reducible rfl | omega | assumption | rfl) ((nbw_eq (fun k _ => congrFun (fσ.1 123 (by decide +kernel)).1 k)).trans i3) (by first | with_reducible assumption | with_reducible rfl | omega | assumption | rfl) (by first | with_reducible assumption | with_reducible rfl | omega | assumption | rfl) (H0.trans H.symm)
        · intro q_1
          replace H := f_f q_1 H
          have t_4 := MI_f25 mσ
          have b_5 : ¬ (gi σ 74 25).toInt ≤ 0 := fun h9 => q_1 (Int32.le_iff_toInt_le.mpr h9)
          have t_6 : ((gi σ 74 25) - (1 : Int32)).toInt = (gi σ 74 25).toInt - 1 := i_sub (x := (gi σ 74 25)) (y := (1 : Int32)) (by show (_ : Int) ≤ (gi σ 74 25).toInt - 1; omega) (by show (gi σ 74 25).toInt - 1 ≤ (_ : Int); omega)
          have hv_7 : vp_in ((gi σ 74 25) - (1 : Int32)) 101 := vp_in_iff.mpr ⟨by omega, by omega⟩
          refine ⟨hv_7, ?_⟩
          refine ⟨?_, ?_⟩
          · intro q_8
            replace H := f_f q_8 H
            have b_9 : ¬ (gi σ 123 ((gi σ 74 25) - (1 : Int32)).toNatClampNeg).toInt = 33 := fun h9 => q_8 (Int32.toInt_inj.mp h9)
            exact h9ret σ mσ fσ (by first | with_reducible assumption | assumption) (by first | with_reducible assumption | with_reducible rfl | omega | assumption | rfl) (by first | with_reducible assumption | with_reducible rfl | omega | assumption | rfl) ((nbw_eq (fun k _ => congrFun (fσ.1 123 (by decide +kernel)).1 k)).trans i3) (by first | with_reducible assumption | with_reducible rfl | omega | assumption | rfl) (by first | with_reducible assumption | with_reducible rfl | omega | assumption | rfl) (H0.trans H.symm)
          · intro q_8
            replace H := f_t q_8 H
            have b_10 : (gi σ 123 ((gi σ 74 25) - (1 : Int32)).toNatClampNeg).toInt = 33 := congrArg Int32.toInt q_8
            refine kF_X12_emits mσ (by first | with_reducible assumption | with_reducible rfl | omega | assumption | rfl) (by first | with_reducible assumption | with_reducible rfl | omega | assumption | rfl) (by first | with_reducible assumption | with_reducible rfl | omega | assumption | rfl) (by first | with_reducible assumption | with_reducible rfl | omega | assumption | rfl) (fun σ4 mσ4 cσ4 (pσ4_0 : (gi σ4 74 24).toInt = (gi σ 74 24).toInt + 1) (pσ4_1 : EMT σ σ4 (-33 : Int32)) hσ4 => ?_)
            replace H := f_v hσ4 H
            have fσ4 : Fr [74, 122] [24, 25, 26] σ0 σ4 := Fr_tr fσ cσ4 (by decide +kernel) (by decide +kernel)
            have k_11 : (gi σ4 74 11).toInt = (gi σ 74 11).toInt := congrArg Int32.toInt (cσ4.2.1 11 (by decide +kernel))
            have k_12 : (gi σ4 74 12).toInt = (gi σ 74 12).toInt := congrArg Int32.toInt (cσ4.2.1 12 (by decide +kernel))
            have k_13 : (gi σ4 74 14).toInt = (gi σ 74 14).toInt := congrArg Int32.toInt (cσ4.2.1 14 (by decide +kernel))
            have k_14 : (gi σ4 74 25).toInt = (gi σ 74 25).toInt := congrArg Int32.toInt (cσ4.2.1 25 (by decide +kernel))
            have k_15 : (gi σ4 74 50).toInt = (gi σ 74 50).toInt := congrArg Int32.toInt (cσ4.2.1 50 (by decide +kernel))
            intro σ5 eσ5
            replace H := f_l eσ5 H
            have t_16 := MI_f25 mσ4
            have t_17 : ((gi σ4 74 25) - (1 : Int32)).toInt = (gi σ4 74 25).toInt - 1 := i_sub (x := (gi σ4 74 25)) (y := (1 : Int32)) (by show (_ : Int) ≤ (gi σ4 74 25).toInt - 1; omega) (by show (gi σ4 74 25).toInt - 1 ≤ (_ : Int); omega)
            have mσ5 : MI σ5 := by rw [eσ5]; exact MIs_f25 mσ4 (by omega) (by omega)
            have fσ5 : Fr [74, 122] [24, 25, 26] σ0 σ5 := by rw [eσ5]; exact Fr_si fσ4 (by decide +kernel) (fun _ => by decide +kernel)
            have k_18 : (gi σ5 74 11).toInt = (gi σ4 74 11).toInt := gk_r eσ5 rfl
            have k_19 : (gi σ5 74 12).toInt = (gi σ4 74 12).toInt := gk_r eσ5 rfl
            have k_20 : (gi σ5 74 14).toInt = (gi σ4 74 14).toInt := gk_r eσ5 rfl
            have k_21 : (gi σ5 74 24).toInt = (gi σ4 74 24).toInt := gk_r eσ5 rfl
            have k_22 : (gi σ5 74 25).toInt = ((gi σ4 74 25) - (1 : Int32)).toInt := by rw [eσ5]; exact congrArg Int32.toInt gi_si_eq
            have k_23 : (gi σ5 74 50).toInt = (gi σ4 74 50).toInt := gk_r eσ5 rfl
            intro σ6 eσ6
            replace H := f_l eσ6 H
            have mσ6 : MI σ6 := by rw [eσ6]; exact MIs_fu mσ5 (by decide +kernel)
            have fσ6 : Fr [74, 122] [24, 25, 26] σ0 σ6 := by rw [eσ6]; exact Fr_si fσ5 (by decide +kernel) (fun _ => by decide +kernel)
            have k_24 : (gi σ6 74 11).toInt = (gi σ5 74 11).toInt := gk_r eσ6 rfl
            have k_25 : (gi σ6 74 12).toInt = (gi σ5 74 12).toInt := gk_r eσ6 rfl
            have k_26 : (gi σ6 74 14).toInt = (gi σ5 74 14).toInt := gk_r eσ6 rfl
            have k_27 : (gi σ6 74 24).toInt = (gi σ5 74 24).toInt := gk_r eσ6 rfl
            have k_28 : (gi σ6 74 25).toInt = (gi σ5 74 25).toInt := gk_r eσ6 rfl
            have k_29 : (gi σ6 74 50).toInt = (gi σ5 74 50).toInt := gk_r eσ6 rfl
            exact ih0  σ6 mσ6 fσ6 (by first | exact HK_rf | exact HK_emit rfl i0 pσ4_1 (by have := MI_f24 mσ; omega) (by omega) (fun k => by rw [eσ6, gi_si_ne (Or.inl (by decide +kernel)), eσ5, gi_si_ne (Or.inl (by decide +kernel))])) (by first | with_reducible assumption | with_reducible rfl | omega | assumption | rfl) (by first | with_reducible assumption | with_reducible rfl | omega | assumption | rfl) (by first | rfl | exact nbw_pop i3 (fun k => congrFun (fσ.1 123 (by decide +kernel)).1 k) (by omega) (by omega) (by omega) (by first | with_reducible assumption | assumption)) (by first | with_reducible assumption | with_reducible rfl | omega | assumption | rfl) (by first | with_reducible assumption | with_reducible rfl | omega | assumption | rfl) (by first | with_reducible assumption | with_reducible rfl | omega | assumption | rfl) (by first | exact BL_rf | exact BL_emit i7 pσ4_1 (by omega) (by omega) (fun k => by rw [eσ6, gi_si_ne (Or.inl (by decide +kernel)), eσ5, gi_si_ne (Or.inl (by decide +kernel))])) (by first | with_reducible assumption | with_reducible rfl | omega | assumption | rfl) H (by omega)
  have U0 := T 200
  have f0 : Fr [74, 122] [24, 25, 26] σ0 σ0 := Fr_rf
  have mw24 := MI_f24 m0
  have mw25 := MI_f25 m0
  have H := H0
  unfold F_X12_whole at H
  exact U0  σ0 m0 f0 (by first | exact HK_rf | exact HK_emit rfl i0 pσ4_1 (by have := MI_f24 mσ0; omega) (by omega) (fun k => by rw [eσ6, gi_si_ne (Or.inl (by decide +kernel)), eσ5, gi_si_ne (Or.inl (by decide +kernel))])) (by first | with_reducible assumption | with_reducible rfl | omega | assumption | rfl) (by first | with_reducible assumption | with_reducible rfl | omega | assumption | rfl) (by first | rfl | exact nbw_pop i3 (fun k => congrFun (fσ0.1 123 (by decide +kernel)).1 k) (by omega) (by omega) (by omega) (by first | with_reducible assumption | assumption)) (by first | with_reducible assumption | with_reducible rfl | omega | assumption | rfl) (by first | with_reducible assumption | with_reducible rfl | omega | assumption | rfl) (by first | with_reducible assumption | with_reducible rfl | omega | assumption | rfl) (by first | exact BL_rf | exact BL_emit i7 pσ4_1 (by omega) (by omega) (fun k => by rw [eσ6, gi_si_ne (Or.inl (by decide +kernel)), eσ5, gi_si_ne (Or.inl (by decide +kernel))])) (by first | with_reducible assumption | with_reducible rfl | omega | assumption | rfl) H (by omega)
set_option maxRecDepth 100000 in
set_option maxHeartbeats 4000000 in
theorem kF_X12_settle {l : Launch} {V : Vx} {a1 : Int32} {σ0 : Sg} {Qk : Sg → Prop} (m0 : MI σ0) (pre0 : (gi σ0 74 12).toInt < (gi σ0 74 11).toInt) (pre1 : (gi σ0 74 50).toInt < (gi σ0 74 11).toInt) (pre2 : 100 * (gi σ0 74 11).toInt ≤ (gi σ0 74 24).toInt) (pre3 : (gi σ0 74 24).toInt + (gi σ0 74 25).toInt ≤ 599) (h9ret : ∀ (σ' : Sg), MI σ' → Fr [74, 122] [24, 25] σ0 σ' → (HS σ0 σ') → ((gi σ' 74 24).toInt + (gi σ' 74 25).toInt = (gi σ0 74 24).toInt + (gi σ0 74 25).toInt) → ((gi σ' 74 25).toInt ≤ (gi σ0 74 25).toInt) → (nbw σ' (gi σ' 74 25).toNatClampNeg = nbw σ0 (gi σ' 74 25).toNatClampNeg) → ((gi σ' 74 25).toInt = 0 ∨ (¬ gi σ' 123 ((gi σ' 74 25) - (1 : Int32)).toNatClampNeg = 38 ∧ (¬ a1 = 38 → ¬ gi σ' 123 ((gi σ' 74 25) - (1 : Int32)).toNatClampNeg = 124))) → (BL σ0 σ') → ((gi σ0 74 24).toInt ≤ (gi σ' 74 24).toInt) → (F_X12_settle a1 σ0 = σ') → Qk σ') : K_X12_settle l V a1 σ0 Qk := by
  refine e_X12_settle (fun M hl hV hN C => ?_)
  subst hl
  subst hV
  obtain ⟨R9, H0⟩ : ∃ R9, F_X12_settle a1 σ0 = R9 := ⟨_, rfl⟩
  have T : ∀ n : Nat, (∀ (x1 : Int32) (σ : Sg), MI σ → Fr [74, 122] [24, 25] σ0 σ → (x1 = a1) → (HS σ0 σ) → ((gi σ 74 24).toInt + (gi σ 74 25).toInt = (gi σ0 74 24).toInt + (gi σ0 74 25).toInt) → ((gi σ 74 25).toInt ≤ (gi σ0 74 25).toInt) → (100 * (gi σ 74 11).toInt ≤ (gi σ 74 24).toInt) → ((gi σ 74 12).toInt < (gi σ 74 11).toInt) → ((gi σ 74 50).toInt < (gi σ 74 11).toInt) → (BL σ0 σ) → ((gi σ0 74 24).toInt ≤ (gi σ 74 24).toInt) → (LF_X12_settle n 0 x1 σ = R9) → (gi σ 74 25).toInt.toNat * 2 + 1 < n → PS M 0 [(0, .ref 74), (1, .int x1)] [] σ (0, 0)) ∧ (∀ (x1 : Int32) (σ : Sg), MI σ → Fr [74, 122] [24, 25] σ0 σ → (x1 = a1) → (HS σ0 σ) → ((gi σ 74 24).toInt + (gi σ 74 25).toInt = (gi σ0 74 24).toInt + (gi σ0 74 25).toInt) → ((gi σ 74 25).toInt ≤ (gi σ0 74 25).toInt) → (100 * (gi σ 74 11).toInt ≤ (gi σ 74 24).toInt) → ((gi σ 74 12).toInt < (gi σ 74 11).toInt) → ((gi σ 74 50).toInt < (gi σ 74 11).toInt) → (BL σ0 σ) → ((gi σ0 74 24).toInt ≤ (gi σ 74 24).toInt) → (1 ≤ (gi σ 74 25).toInt) → (gi σ 123 ((gi σ 74 25) - (1 : Int32)).toNatClampNeg = 38 ∨ gi σ 123 ((gi σ 74 25) - (1 : Int32)).toNatClampNeg = 124) → (LF_X12_settle n 1 x1 σ = R9) → (gi σ 74 25).toInt.toNat * 2 < n → PS M 45 [(0, .ref 74), (1, .int x1)] [] σ (0, 0)) := by
    intro n
    induction n with
    | zero => exact ⟨fun _ _ _ _ _ _ _ _ _ _ _ _ _ _ h8 => absurd h8 (Nat.not_lt_zero _), fun _ _ _ _ _ _ _ _ _ _ _ _ _ _ _ _ h8 => absurd h8 (Nat.not_lt_zero _)⟩
    | succ n ih =>
      obtain ⟨ih0, ih45⟩ := ih
      refine ⟨?_, ?_⟩
      · intro x1 σ mσ fσ i0 i1 i2 i3 i4 i5 i6 i7 i8 H hmu
        replace H : LB_X12_settle_0 (LF_X12_settle n) x1 σ = R9 := H
        unfold LB_X12_settle_0 at H
        have mw24 := MI_f24 mσ
        have mw25 := MI_f25 mσ
        refine s_X12_settle_0 C hN ?_
        refine ⟨?_, ?_⟩
        · intro q_1
          replace H := f_t q_1 H
          have t_2 := MI_f25 mσ
          have b_3 : (gi σ 74 25).toInt ≤ 0 := Int32.le_iff_toInt_le.mp q_1
          exact h9ret σ mσ fσ (by first | with_reducible assumption | assumption) (by first | with_reducible assumption | with_reducible rfl | omega | assumption | rfl) (by first | with_reducible assumption | with_reducible rfl | omega | assumption | rfl) (nbw_eq (fun k _ => congrFun (fσ.1 123 (by decide +kernel)).1 k)) (by first | (left; omega) | exact Or.inr ⟨by assumption, fun _ => by assumption⟩ | exact Or.inr ⟨by assumption, fun z => absurd (i0.symm.trans (by first | with_reducible assumption | assumption)) z⟩) (by first | with_reducible assumption | with_reducible rfl | omega | assumption | rfl) (by first | with_reducible assumption | with_reducible rfl | omega | assumption | rfl) (H0.trans H.symm)
        · intro q_1
          replace H := f_f q_1 H
          have t_4 := MI_f25 mσ
          have b_5 : ¬ (gi σ 74 25).toInt ≤ 0 := fun h9 => q_1 (Int32.le_iff_toInt_le.mpr h9)
          have t_6 : ((gi σ 74 25) - (1 : Int32)).toInt = (gi σ 74 25).toInt - 1 := i_sub (x := (gi σ 74 25)) (y := (1 : Int32)) (by show (_ : Int) ≤ (gi σ 74 25).toInt - 1; omega) (by show (gi σ 74 25).toInt - 1 ≤ (_ : Int); omega)
          have hv_7 : vp_in ((gi σ 74 25) - (1 : Int32)) 101 := vp_in_iff.mpr ⟨by omega, by omega⟩
          refine ⟨hv_7, ?_⟩
          refine ⟨?_, ?_⟩
          · intro q_8
            replace H := f_t q_8 H
            have b_9 : (gi σ 123 ((gi σ 74 25) - (1 : Int32)).toNatClampNeg).toInt = 38 := congrArg Int32.toInt q_8
            exact ih45 x1 σ mσ fσ (by first | with_reducible assumption | with_reducible rfl | omega | assumption | rfl) (by first | with_reducible assumption | with_reducible rfl | omega | assumption | rfl) (by first | with_reducible assumption | with_reducible rfl | omega | assumption | rfl) (by first | with_reducible assumption | with_reducible rfl | omega | assumption | rfl) (by first | with_reducible assumption | with_reducible rfl | omega | assumption | rfl) (by first | with_reducible assumption | with_reducible rfl | omega | assumption | rfl) (by first | with_reducible assumption | with_reducible rfl | omega | assumption | rfl) (by first | with_reducible assumption | assumption) (by first | with_reducible assumption | with_reducible rfl | omega | assumption | rfl) (by first | with_reducible assumption | with_reducible rfl | omega | assumption | rfl) (by first | (left; assumption) | (right; assumption)) H (by omega)
          · intro q_8
            replace H := f_f q_8 H
            have b_10 : ¬ (gi σ 123 ((gi σ 74 25) - (1 : Int32)).toNatClampNeg).toInt = 38 := fun h9 => q_8 (Int32.toInt_inj.mp h9)
            refine ⟨hv_7, ?_⟩
            refine ⟨?_, ?_⟩
            · intro q_11
              replace H := f_f q_11 H
              have b_12 : ¬ (gi σ 123 ((gi σ 74 25) - (1 : Int32)).toNatClampNeg).toInt = 124 := fun h9 => q_11 (Int32.toInt_inj.mp h9)
              exact h9ret σ mσ fσ (by first | with_reducible assumption | assumption) (by first | with_reducible assumption | with_reducible rfl | omega | assumption | rfl) (by first | with_reducible assumption | with_reducible rfl | omega | assumption | rfl) (nbw_eq (fun k _ => congrFun (fσ.1 123 (by decide +kernel)).1 k)) (by first | (left; omega) | exact Or.inr ⟨by assumption, fun _ => by assumption⟩ | exact Or.inr ⟨by assumption, fun z => absurd (i0.symm.trans (by first | with_reducible assumption | assumption)) z⟩) (by first | with_reducible assumption | with_reducible rfl | omega | assumption | rfl) (by first | with_reducible assumption | with_reducible rfl | omega | assumption | rfl) (H0.trans H.symm)
            · intro q_11
              replace H := f_t q_11 H
              have b_13 : (gi σ 123 ((gi σ 74 25) - (1 : Int32)).toNatClampNeg).toInt = 124 := congrArg Int32.toInt q_11
              refine ⟨?_, ?_⟩
              · intro q_14
                replace H := f_t q_14 H
                have w_15 := Int32.toInt_lt x1
                have w_16 := Int32.le_toInt x1
                have b_17 : x1.toInt = 38 := congrArg Int32.toInt q_14
                exact h9ret σ mσ fσ (by first | with_reducible assumption | assumption) (by first | with_reducible assumption | with_reducible rfl | omega | assumption | rfl) (by first | with_reducible assumption | with_reducible rfl | omega | assumption | rfl) (nbw_eq (fun k _ => congrFun (fσ.1 123 (by decide +kernel)).1 k)) (by first | (left; omega) | exact Or.inr ⟨by assumption, fun _ => by assumption⟩ | exact Or.inr ⟨by assumption, fun z => absurd (i0.symm.trans (by first | with_reducible assumption | assumption)) z⟩) (by first | with_reducible assumption | with_reducible rfl | omega | assumption | rfl) (by first | with_reducible assumption | with_reducible rfl | omega | assumption | rfl) (H0.trans H.symm)
              · intro q_14
                replace H := f_f q_14 H
                have w_18 := Int32.toInt_lt x1
                have w_19 := Int32.le_toInt x1
                have b_20 : ¬ x1.toInt = 38 := fun h9 => q_14 (Int32.toInt_inj.mp h9)
                exact ih45 x1 σ mσ fσ (by first | with_reducible assumption | with_reducible rfl | omega | assumption | rfl) (by first | with_reducible assumption | with_reducible rfl | omega | assumption | rfl) (by first | with_reducible assumption | with_reducible rfl | omega | assumption | rfl) (by first | with_reducible assumption | with_reducible rfl | omega | assumption | rfl) (by first | with_reducible assumption | with_reducible rfl | omega | assumption | rfl) (by first | with_reducible assumption | with_reducible rfl | omega | assumption | rfl) (by first | with_reducible assumption | with_reducible rfl | omega | assumption | rfl) (by first | with_reducible assumption | assumption) (by first | with_reducible assumption | with_reducible rfl | omega | assumption | rfl) (by first | with_reducible assumption | with_reducible rfl | omega | assumption | rfl) (by first | (left; assumption) | (right; assumption)) H (by omega)
      · intro x1 σ mσ fσ i0 i1 i2 i3 i4 i5 i6 i7 i8 i9 i10 H hmu
        replace H : LB_X12_settle_45 (LF_X12_settle n) x1 σ = R9 := H
        unfold LB_X12_settle_45 at H
        have mw24 := MI_f24 mσ
        have mw25 := MI_f25 mσ
        refine s_X12_settle_45 C hN ?_
        intro σ1 eσ1
        replace H := f_l eσ1 H
        have t_21 := MI_f25 mσ
        have t_22 : ((gi σ 74 25) - (1 : Int32)).toInt = (gi σ 74 25).toInt - 1 := i_sub (x := (gi σ 74 25)) (y := (1 : Int32)) (by show (_ : Int) ≤ (gi σ 74 25).toInt - 1; omega) (by show (gi σ 74 25).toInt - 1 ≤ (_ : Int); omega)
        have mσ1 : MI σ1 := by rw [eσ1]; exact MIs_f25 mσ (by omega) (by omega)
        have fσ1 : Fr [74, 122] [24, 25] σ0 σ1 := by rw [eσ1]; exact Fr_si fσ (by decide +kernel) (fun _ => by decide +kernel)
        have k_23 : (gi σ1 74 11).toInt = (gi σ 74 11).toInt := gk_r eσ1 rfl
        have k_24 : (gi σ1 74 12).toInt = (gi σ 74 12).toInt := gk_r eσ1 rfl
        have k_25 : (gi σ1 74 14).toInt = (gi σ 74 14).toInt := gk_r eσ1 rfl
        have k_26 : (gi σ1 74 24).toInt = (gi σ 74 24).toInt := gk_r eσ1 rfl
        have k_27 : (gi σ1 74 25).toInt = ((gi σ 74 25) - (1 : Int32)).toInt := by rw [eσ1]; exact congrArg Int32.toInt gi_si_eq
        have k_28 : (gi σ1 74 50).toInt = (gi σ 74 50).toInt := gk_r eσ1 rfl
        have t_29 := MI_f25 mσ1
        have hv_30 : vp_in (gi σ1 74 25) 101 := vp_in_iff.mpr ⟨by omega, by omega⟩
        refine ⟨hv_30, ?_⟩
        refine kF_X12_emits mσ1 (by first | with_reducible assumption | with_reducible rfl | omega | assumption | rfl) (by first | with_reducible assumption | with_reducible rfl | omega | assumption | rfl) (by first | with_reducible assumption | with_reducible rfl | omega | assumption | rfl) (by first | with_reducible assumption | with_reducible rfl | omega | assumption | rfl) (fun σ3 mσ3 cσ3 (pσ3_0 : (gi σ3 74 24).toInt = (gi σ1 74 24).toInt + 1) (pσ3_1 : EMT σ1 σ3 (-(gi σ1 123 (gi σ1 74 25).toNatClampNeg))) hσ3 => ?_)
        replace H := f_v hσ3 H
        have fσ3 : Fr [74, 122] [24, 25] σ0 σ3 := Fr_tr fσ1 cσ3 (by decide +kernel) (by decide +kernel)
        have k_31 : (gi σ3 74 11).toInt = (gi σ1 74 11).toInt := congrArg Int32.toInt (cσ3.2.1 11 (by decide +kernel))
        have k_32 : (gi σ3 74 12).toInt = (gi σ1 74 12).toInt := congrArg Int32.toInt (cσ3.2.1 12 (by decide +kernel))
        have k_33 : (gi σ3 74 14).toInt = (gi σ1 74 14).toInt := congrArg Int32.toInt (cσ3.2.1 14 (by decide +kernel))
        have k_34 : (gi σ3 74 25).toInt = (gi σ1 74 25).toInt := congrArg Int32.toInt (cσ3.2.1 25 (by decide +kernel))
        have k_35 : (gi σ3 74 50).toInt = (gi σ1 74 50).toInt := congrArg Int32.toInt (cσ3.2.1 50 (by decide +kernel))
        exact ih0 x1 σ3 mσ3 fσ3 (by first | rfl | assumption) (by first | exact HS_rf | assumption | exact HS_step i1 (fun k => congrFun (fσ.1 123 (by decide +kernel)).1 k) eσ1 (by omega) (by omega) i10 rfl pσ3_1 (by omega) (by omega) (by omega)) (by first | with_reducible assumption | with_reducible rfl | omega | assumption | rfl) (by first | with_reducible assumption | with_reducible rfl | omega | assumption | rfl) (by first | with_reducible assumption | with_reducible rfl | omega | assumption | rfl) (by first | with_reducible assumption | with_reducible rfl | omega | assumption | rfl) (by first | with_reducible assumption | with_reducible rfl | omega | assumption | rfl) (by first | exact BL_rf | assumption | exact BL_emit (fun k hk => by rw [eσ1, gi_si_ne (Or.inl (by decide +kernel))]; exact i7 k hk) pσ3_1 (by omega) (by omega) (fun _ => rfl)) (by first | with_reducible assumption | with_reducible rfl | omega | assumption | rfl) H (by omega)
  obtain ⟨U0, U45⟩ := T 400
  have f0 : Fr [74, 122] [24, 25] σ0 σ0 := Fr_rf
  have mw24 := MI_f24 m0
  have mw25 := MI_f25 m0
  have H := H0
  unfold F_X12_settle at H
  exact U0 a1 σ0 m0 f0 (by first | rfl | assumption) (by first | exact HS_rf | assumption | exact HS_step i1 (fun k => congrFun (fσ0.1 123 (by decide +kernel)).1 k) eσ1 (by omega) (by omega) i10 rfl pσ3_1 (by omega) (by omega) (by omega)) (by first | with_reducible assumption | with_reducible rfl | omega | assumption | rfl) (by first | with_reducible assumption | with_reducible rfl | omega | assumption | rfl) (by first | with_reducible assumption | with_reducible rfl | omega | assumption | rfl) (by first | with_reducible assumption | with_reducible rfl | omega | assumption | rfl) (by first | with_reducible assumption | with_reducible rfl | omega | assumption | rfl) (by first | exact BL_rf | assumption | exact BL_emit (fun k hk => by rw [eσ1, gi_si_ne (Or.inl (by decide +kernel))]; exact i7 k hk) pσ3_1 (by omega) (by omega) (fun _ => rfl)) (by first | with_reducible assumption | with_reducible rfl | omega | assumption | rfl) H (by omega)
set_option maxRecDepth 100000 in
set_option maxHeartbeats 4000000 in
theorem kF_X12_isDigit {l : Launch} {V : Vx} {σ0 : Sg} {Qk : Int32 → Sg → Prop} (m0 : MI σ0) (h9ret : ∀ (r : Int32) (σ' : Sg), MI σ' → Fr [] [] σ0 σ' → (0 ≤ r.toInt) → (r.toInt ≤ 1) → ((r.toInt = 1 ∧ 48 ≤ (nxt σ0).toInt ∧ (nxt σ0).toInt ≤ 57) ∨ r.toInt = 0) → (F_X12_isDigit σ0 = (r, σ')) → Qk r σ') : K_X12_isDigit l V σ0 Qk := by
  refine e_X12_isDigit (fun M hl hV hN C => ?_)
  subst hl
  subst hV
  obtain ⟨R9, H0⟩ : ∃ R9, F_X12_isDigit σ0 = R9 := ⟨_, rfl⟩
  have f0 : Fr [] [] σ0 σ0 := Fr_rf
  have H := H0
  unfold F_X12_isDigit at H
  refine s_X12_isDigit_0 C hN ?_
  refine kF_X12_next m0  (fun r2 σ1 mσ1 cσ1 (pσ1_0 : r2.toInt = (nxt σ0).toInt) hσ1 => ?_)
  obtain rfl := Fr_nil cσ1
  replace H := f_b hσ1 H
  refine kF_X12_in m0  (fun r4 σ3 mσ3 cσ3 plσ3 phσ3 (pσ3_0 : (r4.toInt = 1 ∧ (48 : Int) ≤ r2.toInt ∧ r2.toInt ≤ (57 : Int)) ∨ (r4.toInt = 0 ∧ (r2.toInt < (48 : Int) ∨ (57 : Int) < r2.toInt))) hσ3 => ?_)
  obtain rfl := Fr_nil cσ3
  replace H := f_b hσ3 H
  refine ⟨i_bool (by omega) (by omega), ?_⟩
  exact h9ret r4 σ0 m0 f0 (by omega) (by omega) (by first | with_reducible assumption | with_reducible rfl | omega | assumption | rfl) (H0.trans H.symm)
set_option maxRecDepth 100000 in
set_option maxHeartbeats 4000000 in
theorem kF_X12_takes {l : Launch} {V : Vx} {a1 : Int32} {σ0 : Sg} {Qk : Int32 → Sg → Prop} (m0 : MI σ0) (l_a1 : 0 ≤ a1.toInt) (u_a1 : a1.toInt ≤ 127) (h9ret : ∀ (r : Int32) (σ' : Sg), MI σ' → Fr [74] [14] σ0 σ' → (0 ≤ r.toInt) → (r.toInt ≤ 1) → ((r.toInt = 1 ∧ (gi σ' 74 14).toInt = (gi σ0 74 14).toInt + 1 ∧ (gi σ0 74 14).toInt < (gi σ0 74 13).toInt) ∨ (r.toInt = 0 ∧ (gi σ' 74 14).toInt = (gi σ0 74 14).toInt)) → (F_X12_takes a1 σ0 = (r, σ')) → Qk r σ') : K_X12_takes l V a1 σ0 Qk := by
  refine e_X12_takes (fun M hl hV hN C => ?_)
  subst hl
  subst hV
  obtain ⟨R9, H0⟩ : ∃ R9, F_X12_takes a1 σ0 = R9 := ⟨_, rfl⟩
  have f0 : Fr [74] [14] σ0 σ0 := Fr_rf
  have H := H0
  unfold F_X12_takes at H
  refine s_X12_takes_0 C hN ?_
  refine kF_X12_next m0  (fun r2 σ1 mσ1 cσ1 (pσ1_0 : r2.toInt = (nxt σ0).toInt) hσ1 => ?_)
  obtain rfl := Fr_nil cσ1
  replace H := f_b hσ1 H
  have hlt := fun h9 => nxt_lt (by assumption : MI σ0) h9
  have fd9 := MI_f13 (by assumption : MI σ0)
  refine ⟨?_, ?_⟩
  · intro q_1
    replace H := f_t q_1 H
    have w_2 := Int32.toInt_lt r2
    have w_3 := Int32.le_toInt r2
    have b_4 : r2.toInt = a1.toInt := congrArg Int32.toInt q_1
    intro σ4 eσ4
    replace H := f_l eσ4 H
    have t_5 := MI_f14 m0
    have t_6 : ((gi σ0 74 14) + (1 : Int32)).toInt = (gi σ0 74 14).toInt + 1 := i_add (x := (gi σ0 74 14)) (y := (1 : Int32)) (by show (_ : Int) ≤ (gi σ0 74 14).toInt + 1; omega) (by show (gi σ0 74 14).toInt + 1 ≤ (_ : Int); omega)
    have mσ4 : MI σ4 := by rw [eσ4]; exact MIs_f14 m0 (by omega) (by omega)
    have fσ4 : Fr [74] [14] σ0 σ4 := by rw [eσ4]; exact Fr_si f0 (by decide +kernel) (fun _ => by decide +kernel)
    have k_7 : (gi σ4 74 13).toInt = (gi σ0 74 13).toInt := gk_r eσ4 rfl
    have k_8 : (gi σ4 74 14).toInt = ((gi σ0 74 14) + (1 : Int32)).toInt := by rw [eσ4]; exact congrArg Int32.toInt gi_si_eq
    have z_9 : (1 : Int32).toInt = 1 := rfl
    exact h9ret (1 : Int32) σ4 mσ4 fσ4 (by omega) (by omega) (by first | with_reducible assumption | with_reducible rfl | omega | assumption | rfl) (H0.trans H.symm)
  · intro q_1
    replace H := f_f q_1 H
    have w_10 := Int32.toInt_lt r2
    have w_11 := Int32.le_toInt r2
    have b_12 : ¬ r2.toInt = a1.toInt := fun h9 => q_1 (Int32.toInt_inj.mp h9)
    have z_13 : (0 : Int32).toInt = 0 := rfl
    exact h9ret (0 : Int32) σ0 m0 f0 (by omega) (by omega) (by first | with_reducible assumption | with_reducible rfl | omega | assumption | rfl) (H0.trans H.symm)
set_option maxRecDepth 100000 in
set_option maxHeartbeats 4000000 in
theorem kF_X12_takesWord {l : Launch} {V : Vx} {a1 : Int32} {a2 : Int32} {σ0 : Sg} {Qk : Int32 → Sg → Prop} (m0 : MI σ0) (l_a1 : 0 ≤ a1.toInt) (u_a1 : a1.toInt ≤ 18) (l_a2 : 0 ≤ a2.toInt) (u_a2 : a2.toInt ≤ 5) (pre0 : a1.toInt + a2.toInt ≤ 19) (pre1 : (gi σ0 74 14).toInt ≤ (gi σ0 74 13).toInt) (h9ret : ∀ (r : Int32) (σ' : Sg), MI σ' → Fr [74] [14] σ0 σ' → (0 ≤ r.toInt) → (r.toInt ≤ 1) → ((gi σ0 74 14).toInt ≤ (gi σ' 74 14).toInt) → ((gi σ' 74 14).toInt ≤ (gi σ0 74 13).toInt) → (F_X12_takesWord a1 a2 σ0 = (r, σ')) → Qk r σ') : K_X12_takesWord l V a1 a2 σ0 Qk := by
  refine e_X12_takesWord (fun M hl hV hN C => ?_)
  subst hl
  subst hV
  obtain ⟨R9, H0⟩ : ∃ R9, F_X12_takesWord a1 a2 σ0 = R9 := ⟨_, rfl⟩
  have T : ∀ n : Nat, (∀ (x1 : Int32) (x2 : Int32) (x3 : Int32) (σ : Sg), MI σ → Fr [74] [14] σ0 σ → (0 ≤ x1.toInt) → (x1.toInt ≤ 18) → (0 ≤ x2.toInt) → (x2.toInt ≤ 5) → (0 ≤ x3.toInt) → (x3.toInt ≤ 5) → ((gi σ0 74 14).toInt ≤ (gi σ 74 14).toInt) → ((gi σ 74 14).toInt ≤ (gi σ0 74 13).toInt) → ((gi σ 74 13).toInt = (gi σ0 74 13).toInt) → (x1.toInt + x2.toInt ≤ 19) → (LF_X12_takesWord n x1 x2 x3 σ = R9) → (7 - x3.toInt).toNat < n → PS M 2 [(0, .ref 74), (1, .int x1), (2, .int x2), (3, .int x3)] [] σ (0, 0)) := by
    intro n
    induction n with
    | zero => exact fun _ _ _ _ _ _ _ _ _ _ _ _ _ _ _ _ _ h8 => absurd h8 (Nat.not_lt_zero _)
    | succ n ih =>
      have ih2 := ih
      · intro x1 x2 x3 σ mσ fσ lx1 ux1 lx2 ux2 lx3 ux3 i0 i1 i2 i3 H hmu
        replace H : LB_X12_takesWord_2 (LF_X12_takesWord n) x1 x2 x3 σ = R9 := H
        unfold LB_X12_takesWord_2 at H
        refine s_X12_takesWord_2 C hN ?_
        refine ⟨?_, ?_⟩
        · intro q_1
          replace H := f_t q_1 H
          have b_2 : x2.toInt ≤ x3.toInt := Int32.le_iff_toInt_le.mp q_1
          have z_3 : (32 : Int32).toInt = 32 := rfl
          refine kF_X12_takes mσ (by omega) (by omega) (fun r3 σ2 mσ2 cσ2 plσ2 phσ2 (pσ2_0 : (r3.toInt = 1 ∧ (gi σ2 74 14).toInt = (gi σ 74 14).toInt + 1 ∧ (gi σ 74 14).toInt < (gi σ 74 13).toInt) ∨ (r3.toInt = 0 ∧ (gi σ2 74 14).toInt = (gi σ 74 14).toInt)) hσ2 => ?_)
          replace H := f_b hσ2 H
          have fσ2 : Fr [74] [14] σ0 σ2 := Fr_tr fσ cσ2 (by decide +kernel) (by decide +kernel)
          have k_4 : (gi σ2 74 13).toInt = (gi σ 74 13).toInt := congrArg Int32.toInt (cσ2.2.1 13 (by decide +kernel))
          refine ⟨i_bool (by omega) (by omega), ?_⟩
          exact h9ret r3 σ2 mσ2 fσ2 (by omega) (by omega) (by first | with_reducible assumption | with_reducible rfl | omega | assumption | rfl) (by first | with_reducible assumption | with_reducible rfl | omega | assumption | rfl) (H0.trans H.symm)
        · intro q_1
          replace H := f_f q_1 H
          have b_5 : ¬ x2.toInt ≤ x3.toInt := fun h9 => q_1 (Int32.le_iff_toInt_le.mpr h9)
          have t_6 : (x1 + x3).toInt = x1.toInt + x3.toInt := i_add (x := x1) (y := x3) (by show (_ : Int) ≤ x1.toInt + x3.toInt; omega) (by show x1.toInt + x3.toInt ≤ (_ : Int); omega)
          have hv_7 : vp_in (x1 + x3) 19 := vp_in_iff.mpr ⟨by omega, by omega⟩
          refine ⟨hv_7, ?_⟩
          have t_8 := MI_a127 mσ hv_7
          refine kF_X12_takes mσ (by omega) (by omega) (fun r6 σ5 mσ5 cσ5 plσ5 phσ5 (pσ5_0 : (r6.toInt = 1 ∧ (gi σ5 74 14).toInt = (gi σ 74 14).toInt + 1 ∧ (gi σ 74 14).toInt < (gi σ 74 13).toInt) ∨ (r6.toInt = 0 ∧ (gi σ5 74 14).toInt = (gi σ 74 14).toInt)) hσ5 => ?_)
          replace H := f_b hσ5 H
          have fσ5 : Fr [74] [14] σ0 σ5 := Fr_tr fσ cσ5 (by decide +kernel) (by decide +kernel)
          have k_9 : (gi σ5 74 13).toInt = (gi σ 74 13).toInt := congrArg Int32.toInt (cσ5.2.1 13 (by decide +kernel))
          refine ⟨?_, ?_⟩
          · intro q_10
            replace H := f_f q_10 H
            have b_11 : ¬ r6.toInt = 0 := fun h9 => q_10 (Int32.toInt_inj.mp h9)
            intro v8 ev8
            replace H := f_l ev8 H
            have t_12 : (x3 + (1 : Int32)).toInt = x3.toInt + 1 := i_add (x := x3) (y := (1 : Int32)) (by show (_ : Int) ≤ x3.toInt + 1; omega) (by show x3.toInt + 1 ≤ (_ : Int); omega)
            have t_13 : v8.toInt = (x3 + (1 : Int32)).toInt := congrArg Int32.toInt ev8
            exact ih2 x1 x2 v8 σ5 mσ5 fσ5 (by omega) (by omega) (by omega) (by omega) (by omega) (by omega) (by first | with_reducible assumption | with_reducible rfl | omega | assumption | rfl) (by first | with_reducible assumption | with_reducible rfl | omega | assumption | rfl) (by first | with_reducible assumption | with_reducible rfl | omega | assumption | rfl) (by first | with_reducible assumption | with_reducible rfl | omega | assumption | rfl) H (by omega)
          · intro q_10
            replace H := f_t q_10 H
            have b_14 : r6.toInt = 0 := congrArg Int32.toInt q_10
            have z_15 : (0 : Int32).toInt = 0 := rfl
            exact h9ret (0 : Int32) σ5 mσ5 fσ5 (by omega) (by omega) (by first | with_reducible assumption | with_reducible rfl | omega | assumption | rfl) (by first | with_reducible assumption | with_reducible rfl | omega | assumption | rfl) (H0.trans H.symm)
  have U2 := T 9
  have f0 : Fr [74] [14] σ0 σ0 := Fr_rf
  have H := H0
  unfold F_X12_takesWord at H
  refine s_X12_takesWord_0 C hN ?_
  have z_16 : (0 : Int32).toInt = 0 := rfl
  exact U2 a1 a2 (0 : Int32) σ0 m0 f0 (by omega) (by omega) (by omega) (by omega) (by omega) (by omega) (by first | with_reducible assumption | with_reducible rfl | omega | assumption | rfl) (by first | with_reducible assumption | with_reducible rfl | omega | assumption | rfl) (by first | with_reducible assumption | with_reducible rfl | omega | assumption | rfl) (by first | with_reducible assumption | with_reducible rfl | omega | assumption | rfl) H (by omega)
set_option maxRecDepth 100000 in
set_option maxHeartbeats 4000000 in
theorem kF_X12_takesNumber {l : Launch} {V : Vx} {σ0 : Sg} {Qk : Int32 → Sg → Prop} (m0 : MI σ0) (pre0 : (gi σ0 74 14).toInt ≤ (gi σ0 74 13).toInt) (h9ret : ∀ (r : Int32) (σ' : Sg), MI σ' → Fr [74] [14, 15] σ0 σ' → (0 ≤ r.toInt) → (r.toInt ≤ 1) → ((gi σ0 74 14).toInt ≤ (gi σ' 74 14).toInt) → ((gi σ' 74 14).toInt ≤ (gi σ0 74 13).toInt) → (F_X12_takesNumber σ0 = (r, σ')) → Qk r σ') : K_X12_takesNumber l V σ0 Qk := by
  refine e_X12_takesNumber (fun M hl hV hN C => ?_)
  subst hl
  subst hV
  obtain ⟨R9, H0⟩ : ∃ R9, F_X12_takesNumber σ0 = R9 := ⟨_, rfl⟩
  have T : ∀ n : Nat, (∀ (x1 : Int32) (σ : Sg), MI σ → Fr [74] [14, 15] σ0 σ → (0 ≤ x1.toInt) → (x1.toInt ≤ 2) → ((gi σ0 74 14).toInt ≤ (gi σ 74 14).toInt) → ((gi σ 74 14).toInt ≤ (gi σ0 74 13).toInt) → ((gi σ 74 13).toInt = (gi σ0 74 13).toInt) → ((x1.toInt = 0 ∧ (gi σ 74 15).toInt = 0) ∨ (x1.toInt = 1 ∧ (gi σ 74 15).toInt ≤ 9) ∨ x1.toInt = 2) → (LF_X12_takesNumber n x1 σ = R9) → (7 - x1.toInt).toNat < n → PS M 16 [(0, .ref 74), (1, .int x1)] [] σ (0, 0)) := by
    intro n
    induction n with
    | zero => exact fun _ _ _ _ _ _ _ _ _ _ _ h8 => absurd h8 (Nat.not_lt_zero _)
    | succ n ih =>
      have ih16 := ih
      · intro x1 σ mσ fσ lx1 ux1 i0 i1 i2 i3 H hmu
        replace H : LB_X12_takesNumber_16 (LF_X12_takesNumber n) x1 σ = R9 := H
        unfold LB_X12_takesNumber_16 at H
        have mw15 := MI_f15 mσ
        refine s_X12_takesNumber_16 C hN ?_
        refine ⟨?_, ?_⟩
        · intro q_1
          replace H := f_t q_1 H
          have b_2 : (2 : Int) ≤ x1.toInt := Int32.le_iff_toInt_le.mp q_1
          have z_3 : (1 : Int32).toInt = 1 := rfl
          exact h9ret (1 : Int32) σ mσ fσ (by omega) (by omega) (by first | with_reducible assumption | with_reducible rfl | omega | assumption | rfl) (by first | with_reducible assumption | with_reducible rfl | omega | assumption | rfl) (H0.trans H.symm)
        · intro q_1
          replace H := f_f q_1 H
          have b_4 : ¬ (2 : Int) ≤ x1.toInt := fun h9 => q_1 (Int32.le_iff_toInt_le.mpr h9)
          refine kF_X12_isDigit mσ  (fun r3 σ2 mσ2 cσ2 plσ2 phσ2 (pσ2_0 : (r3.toInt = 1 ∧ 48 ≤ (nxt σ).toInt ∧ (nxt σ).toInt ≤ 57) ∨ r3.toInt = 0) hσ2 => ?_)
          obtain rfl := Fr_nil cσ2
          replace H := f_b hσ2 H
          refine ⟨?_, ?_⟩
          · intro q_5
            replace H := f_t q_5 H
            have b_6 : r3.toInt = 0 := congrArg Int32.toInt q_5
            have z_7 : (1 : Int32).toInt = 1 := rfl
            exact h9ret (1 : Int32) σ mσ fσ (by omega) (by omega) (by first | with_reducible assumption | with_reducible rfl | omega | assumption | rfl) (by first | with_reducible assumption | with_reducible rfl | omega | assumption | rfl) (H0.trans H.symm)
          · intro q_5
            replace H := f_f q_5 H
            have b_8 : ¬ r3.toInt = 0 := fun h9 => q_5 (Int32.toInt_inj.mp h9)
            refine kF_X12_next mσ  (fun r6 σ5 mσ5 cσ5 (pσ5_0 : r6.toInt = (nxt σ).toInt) hσ5 => ?_)
            obtain rfl := Fr_nil cσ5
            replace H := f_b hσ5 H
            have hlt := fun h9 => nxt_lt (by assumption : MI σ) h9
            have fd9 := MI_f13 (by assumption : MI σ)
            intro σ7 eσ7
            replace H := f_l eσ7 H
            have t_9 := MI_f15 mσ
            have t_10 : ((10 : Int32) * (gi σ 74 15)).toInt = 10 * (gi σ 74 15).toInt := i_mull rfl (by omega) (by omega)
            have w_11 := Int32.toInt_lt r6
            have w_12 := Int32.le_toInt r6
            try have t_13 : (((10 : Int32) * (gi σ 74 15)) + r6).toInt = ((10 : Int32) * (gi σ 74 15)).toInt + r6.toInt := i_add (x := ((10 : Int32) * (gi σ 74 15))) (y := r6) (by show (_ : Int) ≤ ((10 : Int32) * (gi σ 74 15)).toInt + r6.toInt; omega) (by show ((10 : Int32) * (gi σ 74 15)).toInt + r6.toInt ≤ (_ : Int); omega)
            try have t_14 : ((((10 : Int32) * (gi σ 74 15)) + r6) - (48 : Int32)).toInt = (((10 : Int32) * (gi σ 74 15)) + r6).toInt - 48 := i_sub (x := (((10 : Int32) * (gi σ 74 15)) + r6)) (y := (48 : Int32)) (by show (_ : Int) ≤ (((10 : Int32) * (gi σ 74 15)) + r6).toInt - 48; omega) (by show (((10 : Int32) * (gi σ 74 15)) + r6).toInt - 48 ≤ (_ : Int); omega)
            have mσ7 : MI σ7 := by rw [eσ7]; exact MIs_f15 mσ (by omega) (by omega)
            have fσ7 : Fr [74] [14, 15] σ0 σ7 := by rw [eσ7]; exact Fr_si fσ (by decide +kernel) (fun _ => by decide +kernel)
            have k_15 : (gi σ7 74 13).toInt = (gi σ 74 13).toInt := gk_r eσ7 rfl
            have k_16 : (gi σ7 74 14).toInt = (gi σ 74 14).toInt := gk_r eσ7 rfl
            have k_17 : (gi σ7 74 15).toInt = ((((10 : Int32) * (gi σ 74 15)) + r6) - (48 : Int32)).toInt := by rw [eσ7]; exact congrArg Int32.toInt gi_si_eq
            intro σ8 eσ8
            replace H := f_l eσ8 H
            have t_18 := MI_f14 mσ7
            have t_19 : ((gi σ7 74 14) + (1 : Int32)).toInt = (gi σ7 74 14).toInt + 1 := i_add (x := (gi σ7 74 14)) (y := (1 : Int32)) (by show (_ : Int) ≤ (gi σ7 74 14).toInt + 1; omega) (by show (gi σ7 74 14).toInt + 1 ≤ (_ : Int); omega)
            have mσ8 : MI σ8 := by rw [eσ8]; exact MIs_f14 mσ7 (by omega) (by omega)
            have fσ8 : Fr [74] [14, 15] σ0 σ8 := by rw [eσ8]; exact Fr_si fσ7 (by decide +kernel) (fun _ => by decide +kernel)
            have k_20 : (gi σ8 74 13).toInt = (gi σ7 74 13).toInt := gk_r eσ8 rfl
            have k_21 : (gi σ8 74 14).toInt = ((gi σ7 74 14) + (1 : Int32)).toInt := by rw [eσ8]; exact congrArg Int32.toInt gi_si_eq
            have k_22 : (gi σ8 74 15).toInt = (gi σ7 74 15).toInt := gk_r eσ8 rfl
            intro v9 ev9
            replace H := f_l ev9 H
            have t_23 : (x1 + (1 : Int32)).toInt = x1.toInt + 1 := i_add (x := x1) (y := (1 : Int32)) (by show (_ : Int) ≤ x1.toInt + 1; omega) (by show x1.toInt + 1 ≤ (_ : Int); omega)
            have t_24 : v9.toInt = (x1 + (1 : Int32)).toInt := congrArg Int32.toInt ev9
            exact ih16 v9 σ8 mσ8 fσ8 (by omega) (by omega) (by first | with_reducible assumption | with_reducible rfl | omega | assumption | rfl) (by first | with_reducible assumption | with_reducible rfl | omega | assumption | rfl) (by first | with_reducible assumption | with_reducible rfl | omega | assumption | rfl) (by first | with_reducible assumption | with_reducible rfl | omega | assumption | rfl) H (by omega)
  have U16 := T 9
  have f0 : Fr [74] [14, 15] σ0 σ0 := Fr_rf
  have H := H0
  unfold F_X12_takesNumber at H
  refine s_X12_takesNumber_0 C hN ?_
  refine kF_X12_isDigit m0  (fun r2 σ1 mσ1 cσ1 plσ1 phσ1 (pσ1_0 : (r2.toInt = 1 ∧ 48 ≤ (nxt σ0).toInt ∧ (nxt σ0).toInt ≤ 57) ∨ r2.toInt = 0) hσ1 => ?_)
  obtain rfl := Fr_nil cσ1
  replace H := f_b hσ1 H
  refine ⟨?_, ?_⟩
  · intro q_25
    replace H := f_f q_25 H
    have b_26 : ¬ r2.toInt = 0 := fun h9 => q_25 (Int32.toInt_inj.mp h9)
    intro σ4 eσ4
    replace H := f_l eσ4 H
    have z_27 : (0 : Int32).toInt = 0 := rfl
    have mσ4 : MI σ4 := by rw [eσ4]; exact MIs_f15 m0 (by omega) (by omega)
    have fσ4 : Fr [74] [14, 15] σ0 σ4 := by rw [eσ4]; exact Fr_si f0 (by decide +kernel) (fun _ => by decide +kernel)
    have k_28 : (gi σ4 74 13).toInt = (gi σ0 74 13).toInt := gk_r eσ4 rfl
    have k_29 : (gi σ4 74 14).toInt = (gi σ0 74 14).toInt := gk_r eσ4 rfl
    have k_30 : (gi σ4 74 15).toInt = 0 := by rw [eσ4]; exact congrArg Int32.toInt gi_si_eq
    exact U16 (0 : Int32) σ4 mσ4 fσ4 (by omega) (by omega) (by first | with_reducible assumption | with_reducible rfl | omega | assumption | rfl) (by first | with_reducible assumption | with_reducible rfl | omega | assumption | rfl) (by first | with_reducible assumption | with_reducible rfl | omega | assumption | rfl) (by first | with_reducible assumption | with_reducible rfl | omega | assumption | rfl) H (by omega)
  · intro q_25
    replace H := f_t q_25 H
    have b_31 : r2.toInt = 0 := congrArg Int32.toInt q_25
    have z_32 : (0 : Int32).toInt = 0 := rfl
    exact h9ret (0 : Int32) σ0 m0 f0 (by omega) (by omega) (by first | with_reducible assumption | with_reducible rfl | omega | assumption | rfl) (by first | with_reducible assumption | with_reducible rfl | omega | assumption | rfl) (H0.trans H.symm)
set_option maxRecDepth 100000 in
set_option maxHeartbeats 4000000 in
theorem kF_X12_letterAt {l : Launch} {V : Vx} {a1 : Int32} {σ0 : Sg} {Qk : Int32 → Sg → Prop} (m0 : MI σ0) (h9ret : ∀ (r : Int32) (σ' : Sg), MI σ' → Fr [] [] σ0 σ' → (-1 ≤ r.toInt) → (r.toInt ≤ 5) → (r.toInt = -1 ∨ 0 ≤ a1.toInt) → (F_X12_letterAt a1 σ0 = (r, σ')) → Qk r σ') : K_X12_letterAt l V a1 σ0 Qk := by
  refine e_X12_letterAt (fun M hl hV hN C => ?_)
  subst hl
  subst hV
  obtain ⟨R9, H0⟩ : ∃ R9, F_X12_letterAt a1 σ0 = R9 := ⟨_, rfl⟩
  have f0 : Fr [] [] σ0 σ0 := Fr_rf
  have H := H0
  unfold F_X12_letterAt at H
  refine s_X12_letterAt_0 C hN ?_
  refine ⟨?_, ?_, ?_, ?_, ?_, ?_, ?_, ?_, ?_, ?_, ?_, ?_, ?_, ?_, ?_, ?_, ?_, ?_⟩
  · intro q_1
    replace H := f_f (by omega) H
    replace H := f_f (by omega) H
    replace H := f_f (by omega) H
    replace H := f_f (by omega) H
    replace H := f_f (by omega) H
    replace H := f_f (by omega) H
    replace H := f_f (by omega) H
    replace H := f_f (by omega) H
    replace H := f_f (by omega) H
    replace H := f_f (by omega) H
    replace H := f_f (by omega) H
    replace H := f_f (by omega) H
    replace H := f_f (by omega) H
    replace H := f_f (by omega) H
    replace H := f_f (by omega) H
    replace H := f_f (by omega) H
    replace H := f_f (by omega) H
    have z_2 : (-1 : Int32).toInt = -1 := rfl
    exact h9ret (-1 : Int32) σ0 m0 f0 (by omega) (by omega) (by first | with_reducible assumption | with_reducible rfl | omega | assumption | rfl) (H0.trans H.symm)
  · intro q_1
    replace H := f_t q_1 H
    have z_3 : (5 : Int32).toInt = 5 := rfl
    exact h9ret (5 : Int32) σ0 m0 f0 (by omega) (by omega) (by first | with_reducible assumption | with_reducible rfl | omega | assumption | rfl) (H0.trans H.symm)
  · intro q_1
    replace H := f_f (by omega) H
    replace H := f_t q_1 H
    have z_4 : (3 : Int32).toInt = 3 := rfl
    exact h9ret (3 : Int32) σ0 m0 f0 (by omega) (by omega) (by first | with_reducible assumption | with_reducible rfl | omega | assumption | rfl) (H0.trans H.symm)
  · intro q_1
    replace H := f_f (by omega) H
    replace H := f_f (by omega) H
    replace H := f_t q_1 H
    have z_5 : (-1 : Int32).toInt = -1 := rfl
    exact h9ret (-1 : Int32) σ0 m0 f0 (by omega) (by omega) (by first | with_reducible assumption | with_reducible rfl | omega | assumption | rfl) (H0.trans H.symm)
  · intro q_1
    replace H := f_f (by omega) H
    replace H := f_f (by omega) H
    replace H := f_f (by omega) H
    replace H := f_t q_1 H
    have z_6 : (-1 : Int32).toInt = -1 := rfl
    exact h9ret (-1 : Int32) σ0 m0 f0 (by omega) (by omega) (by first | with_reducible assumption | with_reducible rfl | omega | assumption | rfl) (H0.trans H.symm)
  · intro q_1
    replace H := f_f (by omega) H
    replace H := f_f (by omega) H
    replace H := f_f (by omega) H
    replace H := f_f (by omega) H
    replace H := f_t q_1 H
    have z_7 : (-1 : Int32).toInt = -1 := rfl
    exact h9ret (-1 : Int32) σ0 m0 f0 (by omega) (by omega) (by first | with_reducible assumption | with_reducible rfl | omega | assumption | rfl) (H0.trans H.symm)
  · intro q_1
    replace H := f_f (by omega) H
    replace H := f_f (by omega) H
    replace H := f_f (by omega) H
    replace H := f_f (by omega) H
    replace H := f_f (by omega) H
    replace H := f_t q_1 H
    have z_8 : (-1 : Int32).toInt = -1 := rfl
    exact h9ret (-1 : Int32) σ0 m0 f0 (by omega) (by omega) (by first | with_reducible assumption | with_reducible rfl | omega | assumption | rfl) (H0.trans H.symm)
  · intro q_1
    replace H := f_f (by omega) H
    replace H := f_f (by omega) H
    replace H := f_f (by omega) H
    replace H := f_f (by omega) H
    replace H := f_f (by omega) H
    replace H := f_f (by omega) H
    replace H := f_t q_1 H
    have z_9 : (-1 : Int32).toInt = -1 := rfl
    exact h9ret (-1 : Int32) σ0 m0 f0 (by omega) (by omega) (by first | with_reducible assumption | with_reducible rfl | omega | assumption | rfl) (H0.trans H.symm)
  · intro q_1
    replace H := f_f (by omega) H
    replace H := f_f (by omega) H
    replace H := f_f (by omega) H
    replace H := f_f (by omega) H
    replace H := f_f (by omega) H
    replace H := f_f (by omega) H
    replace H := f_f (by omega) H
    replace H := f_t q_1 H
    have z_10 : (1 : Int32).toInt = 1 := rfl
    exact h9ret (1 : Int32) σ0 m0 f0 (by omega) (by omega) (by first | with_reducible assumption | with_reducible rfl | omega | assumption | rfl) (H0.trans H.symm)
  · intro q_1
    replace H := f_f (by omega) H
    replace H := f_f (by omega) H
    replace H := f_f (by omega) H
    replace H := f_f (by omega) H
    replace H := f_f (by omega) H
    replace H := f_f (by omega) H
    replace H := f_f (by omega) H
    replace H := f_f (by omega) H
    replace H := f_t q_1 H
    have z_11 : (-1 : Int32).toInt = -1 := rfl
    exact h9ret (-1 : Int32) σ0 m0 f0 (by omega) (by omega) (by first | with_reducible assumption | with_reducible rfl | omega | assumption | rfl) (H0.trans H.symm)
  · intro q_1
    replace H := f_f (by omega) H
    replace H := f_f (by omega) H
    replace H := f_f (by omega) H
    replace H := f_f (by omega) H
    replace H := f_f (by omega) H
    replace H := f_f (by omega) H
    replace H := f_f (by omega) H
    replace H := f_f (by omega) H
    replace H := f_f (by omega) H
    replace H := f_t q_1 H
    have z_12 : (0 : Int32).toInt = 0 := rfl
    exact h9ret (0 : Int32) σ0 m0 f0 (by omega) (by omega) (by first | with_reducible assumption | with_reducible rfl | omega | assumption | rfl) (H0.trans H.symm)
  · intro q_1
    replace H := f_f (by omega) H
    replace H := f_f (by omega) H
    replace H := f_f (by omega) H
    replace H := f_f (by omega) H
    replace H := f_f (by omega) H
    replace H := f_f (by omega) H
    replace H := f_f (by omega) H
    replace H := f_f (by omega) H
    replace H := f_f (by omega) H
    replace H := f_f (by omega) H
    replace H := f_t q_1 H
    have z_13 : (-1 : Int32).toInt = -1 := rfl
    exact h9ret (-1 : Int32) σ0 m0 f0 (by omega) (by omega) (by first | with_reducible assumption | with_reducible rfl | omega | assumption | rfl) (H0.trans H.symm)
  · intro q_1
    replace H := f_f (by omega) H
    replace H := f_f (by omega) H
    replace H := f_f (by omega) H
    replace H := f_f (by omega) H
    replace H := f_f (by omega) H
    replace H := f_f (by omega) H
    replace H := f_f (by omega) H
    replace H := f_f (by omega) H
    replace H := f_f (by omega) H
    replace H := f_f (by omega) H
    replace H := f_f (by omega) H
    replace H := f_t q_1 H
    have z_14 : (-1 : Int32).toInt = -1 := rfl
    exact h9ret (-1 : Int32) σ0 m0 f0 (by omega) (by omega) (by first | with_reducible assumption | with_reducible rfl | omega | assumption | rfl) (H0.trans H.symm)
  · intro q_1
    replace H := f_f (by omega) H
    replace H := f_f (by omega) H
    replace H := f_f (by omega) H
    replace H := f_f (by omega) H
    replace H := f_f (by omega) H
    replace H := f_f (by omega) H
    replace H := f_f (by omega) H
    replace H := f_f (by omega) H
    replace H := f_f (by omega) H
    replace H := f_f (by omega) H
    replace H := f_f (by omega) H
    replace H := f_f (by omega) H
    replace H := f_t q_1 H
    have z_15 : (2 : Int32).toInt = 2 := rfl
    exact h9ret (2 : Int32) σ0 m0 f0 (by omega) (by omega) (by first | with_reducible assumption | with_reducible rfl | omega | assumption | rfl) (H0.trans H.symm)
  · intro q_1
    replace H := f_f (by omega) H
    replace H := f_f (by omega) H
    replace H := f_f (by omega) H
    replace H := f_f (by omega) H
    replace H := f_f (by omega) H
    replace H := f_f (by omega) H
    replace H := f_f (by omega) H
    replace H := f_f (by omega) H
    replace H := f_f (by omega) H
    replace H := f_f (by omega) H
    replace H := f_f (by omega) H
    replace H := f_f (by omega) H
    replace H := f_f (by omega) H
    replace H := f_t q_1 H
    have z_16 : (-1 : Int32).toInt = -1 := rfl
    exact h9ret (-1 : Int32) σ0 m0 f0 (by omega) (by omega) (by first | with_reducible assumption | with_reducible rfl | omega | assumption | rfl) (H0.trans H.symm)
  · intro q_1
    replace H := f_f (by omega) H
    replace H := f_f (by omega) H
    replace H := f_f (by omega) H
    replace H := f_f (by omega) H
    replace H := f_f (by omega) H
    replace H := f_f (by omega) H
    replace H := f_f (by omega) H
    replace H := f_f (by omega) H
    replace H := f_f (by omega) H
    replace H := f_f (by omega) H
    replace H := f_f (by omega) H
    replace H := f_f (by omega) H
    replace H := f_f (by omega) H
    replace H := f_f (by omega) H
    replace H := f_t q_1 H
    have z_17 : (-1 : Int32).toInt = -1 := rfl
    exact h9ret (-1 : Int32) σ0 m0 f0 (by omega) (by omega) (by first | with_reducible assumption | with_reducible rfl | omega | assumption | rfl) (H0.trans H.symm)
  · intro q_1
    replace H := f_f (by omega) H
    replace H := f_f (by omega) H
    replace H := f_f (by omega) H
    replace H := f_f (by omega) H
    replace H := f_f (by omega) H
    replace H := f_f (by omega) H
    replace H := f_f (by omega) H
    replace H := f_f (by omega) H
    replace H := f_f (by omega) H
    replace H := f_f (by omega) H
    replace H := f_f (by omega) H
    replace H := f_f (by omega) H
    replace H := f_f (by omega) H
    replace H := f_f (by omega) H
    replace H := f_f (by omega) H
    replace H := f_t q_1 H
    have z_18 : (-1 : Int32).toInt = -1 := rfl
    exact h9ret (-1 : Int32) σ0 m0 f0 (by omega) (by omega) (by first | with_reducible assumption | with_reducible rfl | omega | assumption | rfl) (H0.trans H.symm)
  · intro q_1
    replace H := f_f (by omega) H
    replace H := f_f (by omega) H
    replace H := f_f (by omega) H
    replace H := f_f (by omega) H
    replace H := f_f (by omega) H
    replace H := f_f (by omega) H
    replace H := f_f (by omega) H
    replace H := f_f (by omega) H
    replace H := f_f (by omega) H
    replace H := f_f (by omega) H
    replace H := f_f (by omega) H
    replace H := f_f (by omega) H
    replace H := f_f (by omega) H
    replace H := f_f (by omega) H
    replace H := f_f (by omega) H
    replace H := f_f (by omega) H
    replace H := f_t q_1 H
    have z_19 : (4 : Int32).toInt = 4 := rfl
    exact h9ret (4 : Int32) σ0 m0 f0 (by omega) (by omega) (by first | with_reducible assumption | with_reducible rfl | omega | assumption | rfl) (H0.trans H.symm)
set_option maxRecDepth 100000 in
set_option maxHeartbeats 4000000 in
theorem kF_X12_takesTest {l : Launch} {V : Vx} {σ0 : Sg} {Qk : Int32 → Sg → Prop} (m0 : MI σ0) (pre0 : (gi σ0 74 12).toInt < (gi σ0 74 11).toInt) (pre1 : (gi σ0 74 50).toInt < (gi σ0 74 11).toInt) (pre2 : 100 * (gi σ0 74 11).toInt ≤ (gi σ0 74 24).toInt) (pre3 : (gi σ0 74 24).toInt + (gi σ0 74 25).toInt ≤ 100 * (gi σ0 74 11).toInt + (gi σ0 74 14).toInt) (pre4 : (gi σ0 74 14).toInt ≤ (gi σ0 74 13).toInt) (pre5 : (gi σ0 74 11).toInt ≤ 5) (h9ret : ∀ (r : Int32) (σ' : Sg), MI σ' → Fr [74, 122] [14, 15, 24, 25, 26] σ0 σ' → (0 ≤ r.toInt) → (r.toInt ≤ 1) → ((gi σ0 74 14).toInt ≤ (gi σ' 74 14).toInt) → ((gi σ' 74 14).toInt ≤ (gi σ0 74 13).toInt) → ((r.toInt = 1 ∧ (gi σ0 74 14).toInt + 2 ≤ (gi σ' 74 14).toInt ∧ (gi σ' 74 24).toInt + (gi σ' 74 25).toInt = (gi σ0 74 24).toInt + (gi σ0 74 25).toInt + 1 ∧ (gi σ' 74 25).toInt ≤ (gi σ0 74 25).toInt) ∨ r.toInt = 0) → (hid (r.toInt = 1 → HT σ0 σ' ∧ nbw σ' (gi σ' 74 25).toNatClampNeg = nbw σ0 (gi σ0 74 25).toNatClampNeg ∧ BL σ0 σ')) → (F_X12_takesTest σ0 = (r, σ')) → Qk r σ') : K_X12_takesTest l V σ0 Qk := by
  refine e_X12_takesTest (fun M hl hV hN C => ?_)
  subst hl
  subst hV
  obtain ⟨R9, H0⟩ : ∃ R9, F_X12_takesTest σ0 = R9 := ⟨_, rfl⟩
  have f0 : Fr [74, 122] [14, 15, 24, 25, 26] σ0 σ0 := Fr_rf
  have mw24 := MI_f24 m0
  have mw25 := MI_f25 m0
  have H := H0
  unfold F_X12_takesTest at H
  refine s_X12_takesTest_0 C hN ?_
  refine kF_X12_next m0  (fun r2 σ1 mσ1 cσ1 (pσ1_0 : r2.toInt = (nxt σ0).toInt) hσ1 => ?_)
  obtain rfl := Fr_nil cσ1
  replace H := f_b hσ1 H
  have hlt := fun h9 => nxt_lt (by assumption : MI σ0) h9
  have fd9 := MI_f13 (by assumption : MI σ0)
  refine kF_X12_letterAt m0  (fun r4 σ3 mσ3 cσ3 plσ3 phσ3 (pσ3_0 : r4.toInt = -1 ∨ 0 ≤ r2.toInt) hσ3 => ?_)
  obtain rfl := Fr_nil cσ3
  replace H := f_b hσ3 H
  refine ⟨?_, ?_⟩
  · intro q_1
    replace H := f_t q_1 H
    have b_2 : (0 : Int) ≤ r4.toInt := Int32.le_iff_toInt_le.mp q_1
    intro σ6 eσ6
    replace H := f_l eσ6 H
    have t_3 := MI_f14 m0
    have t_4 : ((gi σ0 74 14) + (1 : Int32)).toInt = (gi σ0 74 14).toInt + 1 := i_add (x := (gi σ0 74 14)) (y := (1 : Int32)) (by show (_ : Int) ≤ (gi σ0 74 14).toInt + 1; omega) (by show (gi σ0 74 14).toInt + 1 ≤ (_ : Int); omega)
    have mσ6 : MI σ6 := by rw [eσ6]; exact MIs_f14 m0 (by omega) (by omega)
    have fσ6 : Fr [74, 122] [14, 15, 24, 25, 26] σ0 σ6 := by rw [eσ6]; exact Fr_si f0 (by decide +kernel) (fun _ => by decide +kernel)
    have k_5 : (gi σ6 74 11).toInt = (gi σ0 74 11).toInt := gk_r eσ6 rfl
    have k_6 : (gi σ6 74 12).toInt = (gi σ0 74 12).toInt := gk_r eσ6 rfl
    have k_7 : (gi σ6 74 13).toInt = (gi σ0 74 13).toInt := gk_r eσ6 rfl
    have k_8 : (gi σ6 74 14).toInt = ((gi σ0 74 14) + (1 : Int32)).toInt := by rw [eσ6]; exact congrArg Int32.toInt gi_si_eq
    have k_9 : (gi σ6 74 24).toInt = (gi σ0 74 24).toInt := gk_r eσ6 rfl
    have k_10 : (gi σ6 74 25).toInt = (gi σ0 74 25).toInt := gk_r eσ6 rfl
    have k_11 : (gi σ6 74 50).toInt = (gi σ0 74 50).toInt := gk_r eσ6 rfl
    refine kF_X12_next mσ6  (fun r8 σ7 mσ7 cσ7 (pσ7_0 : r8.toInt = (nxt σ6).toInt) hσ7 => ?_)
    obtain rfl := Fr_nil cσ7
    replace H := f_b hσ7 H
    have hlt := fun h9 => nxt_lt (by assumption : MI σ6) h9
    have fd9 := MI_f13 (by assumption : MI σ6)
    refine kF_X12_in mσ6  (fun r10 σ9 mσ9 cσ9 plσ9 phσ9 (pσ9_0 : (r10.toInt = 1 ∧ (60 : Int) ≤ r8.toInt ∧ r8.toInt ≤ (62 : Int)) ∨ (r10.toInt = 0 ∧ (r8.toInt < (60 : Int) ∨ (62 : Int) < r8.toInt))) hσ9 => ?_)
    obtain rfl := Fr_nil cσ9
    replace H := f_b hσ9 H
    refine ⟨?_, ?_⟩
    · intro q_12
      replace H := f_f q_12 H
      have b_13 : ¬ r10.toInt = 0 := fun h9 => q_12 (Int32.toInt_inj.mp h9)
      intro σ12 eσ12
      replace H := f_l eσ12 H
      have t_14 := MI_f14 mσ6
      have t_15 : ((gi σ6 74 14) + (1 : Int32)).toInt = (gi σ6 74 14).toInt + 1 := i_add (x := (gi σ6 74 14)) (y := (1 : Int32)) (by show (_ : Int) ≤ (gi σ6 74 14).toInt + 1; omega) (by show (gi σ6 74 14).toInt + 1 ≤ (_ : Int); omega)
      have mσ12 : MI σ12 := by rw [eσ12]; exact MIs_f14 mσ6 (by omega) (by omega)
      have fσ12 : Fr [74, 122] [14, 15, 24, 25, 26] σ0 σ12 := by rw [eσ12]; exact Fr_si fσ6 (by decide +kernel) (fun _ => by decide +kernel)
      have k_16 : (gi σ12 74 11).toInt = (gi σ6 74 11).toInt := gk_r eσ12 rfl
      have k_17 : (gi σ12 74 12).toInt = (gi σ6 74 12).toInt := gk_r eσ12 rfl
      have k_18 : (gi σ12 74 13).toInt = (gi σ6 74 13).toInt := gk_r eσ12 rfl
      have k_19 : (gi σ12 74 14).toInt = ((gi σ6 74 14) + (1 : Int32)).toInt := by rw [eσ12]; exact congrArg Int32.toInt gi_si_eq
      have k_20 : (gi σ12 74 24).toInt = (gi σ6 74 24).toInt := gk_r eσ12 rfl
      have k_21 : (gi σ12 74 25).toInt = (gi σ6 74 25).toInt := gk_r eσ12 rfl
      have k_22 : (gi σ12 74 50).toInt = (gi σ6 74 50).toInt := gk_r eσ12 rfl
      refine kF_X12_takesNumber mσ12 (by first | with_reducible assumption | with_reducible rfl | omega | assumption | rfl) (fun r14 σ13 mσ13 cσ13 plσ13 phσ13 (pσ13_0 : (gi σ12 74 14).toInt ≤ (gi σ13 74 14).toInt) (pσ13_1 : (gi σ13 74 14).toInt ≤ (gi σ12 74 13).toInt) hσ13 => ?_)
      replace H := f_b hσ13 H
      have fσ13 : Fr [74, 122] [14, 15, 24, 25, 26] σ0 σ13 := Fr_tr fσ12 cσ13 (by decide +kernel) (by decide +kernel)
      have k_23 : (gi σ13 74 11).toInt = (gi σ12 74 11).toInt := congrArg Int32.toInt (cσ13.2.1 11 (by decide +kernel))
      have k_24 : (gi σ13 74 12).toInt = (gi σ12 74 12).toInt := congrArg Int32.toInt (cσ13.2.1 12 (by decide +kernel))
      have k_25 : (gi σ13 74 13).toInt = (gi σ12 74 13).toInt := congrArg Int32.toInt (cσ13.2.1 13 (by decide +kernel))
      have k_26 : (gi σ13 74 24).toInt = (gi σ12 74 24).toInt := congrArg Int32.toInt (cσ13.2.1 24 (by decide +kernel))
      have k_27 : (gi σ13 74 25).toInt = (gi σ12 74 25).toInt := congrArg Int32.toInt (cσ13.2.1 25 (by decide +kernel))
      have k_28 : (gi σ13 74 50).toInt = (gi σ12 74 50).toInt := congrArg Int32.toInt (cσ13.2.1 50 (by decide +kernel))
      have u1 : (r8 - (60 : Int32)).toInt = r8.toInt - 60 := i_sub (y := (60 : Int32)) (by show _ ≤ r8.toInt - 60; omega) (by show r8.toInt - 60 ≤ _; omega)
      have u2 : ((100 : Int32) * (r8 - (60 : Int32))).toInt = 100 * (r8 - (60 : Int32)).toInt := i_mull rfl (by omega) (by omega)
      have u3 : ((1000 : Int32) * r4).toInt = 1000 * r4.toInt := i_mull rfl (by omega) (by omega)
      have u4 : (((1000 : Int32) * r4) + ((100 : Int32) * (r8 - (60 : Int32)))).toInt = ((1000 : Int32) * r4).toInt + ((100 : Int32) * (r8 - (60 : Int32))).toInt := i_add (by omega) (by omega)
      have mw15 := MI_f15 (by assumption : MI σ13)
      have u5 : ((((1000 : Int32) * r4) + ((100 : Int32) * (r8 - (60 : Int32)))) + (gi σ13 74 15)).toInt = (((1000 : Int32) * r4) + ((100 : Int32) * (r8 - (60 : Int32)))).toInt + (gi σ13 74 15).toInt := i_add (by omega) (by omega)
      refine ⟨?_, ?_⟩
      · intro q_29
        replace H := f_f q_29 H
        have b_30 : ¬ r14.toInt = 0 := fun h9 => q_29 (Int32.toInt_inj.mp h9)
        have t_31 : ((1000 : Int32) * r4).toInt = 1000 * r4.toInt := i_mull rfl (by omega) (by omega)
        have t_32 := MI_f15 mσ13
        refine kF_X12_emits mσ13 (by first | with_reducible assumption | with_reducible rfl | omega | assumption | rfl) (by first | with_reducible assumption | with_reducible rfl | omega | assumption | rfl) (by first | with_reducible assumption | with_reducible rfl | omega | assumption | rfl) (by first | with_reducible assumption | with_reducible rfl | omega | assumption | rfl) (fun σ16 mσ16 cσ16 (pσ16_0 : (gi σ16 74 24).toInt = (gi σ13 74 24).toInt + 1) (pσ16_1 : EMT σ13 σ16 ((((1000 : Int32) * r4) + ((100 : Int32) * (r8 - (60 : Int32)))) + (gi σ13 74 15))) hσ16 => ?_)
        replace H := f_v hσ16 H
        have fσ16 : Fr [74, 122] [14, 15, 24, 25, 26] σ0 σ16 := Fr_tr fσ13 cσ16 (by decide +kernel) (by decide +kernel)
        have k_33 : (gi σ16 74 11).toInt = (gi σ13 74 11).toInt := congrArg Int32.toInt (cσ16.2.1 11 (by decide +kernel))
        have k_34 : (gi σ16 74 12).toInt = (gi σ13 74 12).toInt := congrArg Int32.toInt (cσ16.2.1 12 (by decide +kernel))
        have k_35 : (gi σ16 74 13).toInt = (gi σ13 74 13).toInt := congrArg Int32.toInt (cσ16.2.1 13 (by decide +kernel))
        have k_36 : (gi σ16 74 14).toInt = (gi σ13 74 14).toInt := congrArg Int32.toInt (cσ16.2.1 14 (by decide +kernel))
        have k_37 : (gi σ16 74 15).toInt = (gi σ13 74 15).toInt := congrArg Int32.toInt (cσ16.2.1 15 (by decide +kernel))
        have k_38 : (gi σ16 74 25).toInt = (gi σ13 74 25).toInt := congrArg Int32.toInt (cσ16.2.1 25 (by decide +kernel))
        have k_39 : (gi σ16 74 50).toInt = (gi σ13 74 50).toInt := congrArg Int32.toInt (cσ16.2.1 50 (by decide +kernel))
        refine kF_X12_whole mσ16 (by first | with_reducible assumption | with_reducible rfl | omega | assumption | rfl) (by first | with_reducible assumption | with_reducible rfl | omega | assumption | rfl) (by first | with_reducible assumption | with_reducible rfl | omega | assumption | rfl) (by first | with_reducible assumption | with_reducible rfl | omega | assumption | rfl) (fun σ17 mσ17 cσ17 (pσ17_0 : HK σ16 σ17) (pσ17_1 : (gi σ17 74 24).toInt + (gi σ17 74 25).toInt = (gi σ16 74 24).toInt + (gi σ16 74 25).toInt) (pσ17_2 : (gi σ17 74 25).toInt ≤ (gi σ16 74 25).toInt) (pσ17_3 : nbw σ17 (gi σ17 74 25).toNatClampNeg = nbw σ16 (gi σ16 74 25).toNatClampNeg) (pσ17_4 : BL σ16 σ17) (pσ17_5 : (gi σ16 74 24).toInt ≤ (gi σ17 74 24).toInt) hσ17 => ?_)
        replace H := f_v hσ17 H
        have fσ17 : Fr [74, 122] [14, 15, 24, 25, 26] σ0 σ17 := Fr_tr fσ16 cσ17 (by decide +kernel) (by decide +kernel)
        have k_40 : (gi σ17 74 11).toInt = (gi σ16 74 11).toInt := congrArg Int32.toInt (cσ17.2.1 11 (by decide +kernel))
        have k_41 : (gi σ17 74 12).toInt = (gi σ16 74 12).toInt := congrArg Int32.toInt (cσ17.2.1 12 (by decide +kernel))
        have k_42 : (gi σ17 74 13).toInt = (gi σ16 74 13).toInt := congrArg Int32.toInt (cσ17.2.1 13 (by decide +kernel))
        have k_43 : (gi σ17 74 14).toInt = (gi σ16 74 14).toInt := congrArg Int32.toInt (cσ17.2.1 14 (by decide +kernel))
        have k_44 : (gi σ17 74 15).toInt = (gi σ16 74 15).toInt := congrArg Int32.toInt (cσ17.2.1 15 (by decide +kernel))
        have k_45 : (gi σ17 74 50).toInt = (gi σ16 74 50).toInt := congrArg Int32.toInt (cσ17.2.1 50 (by decide +kernel))
        have z_46 : (1 : Int32).toInt = 1 := rfl
        exact h9ret (1 : Int32) σ17 mσ17 fσ17 (by omega) (by omega) (by first | with_reducible assumption | with_reducible rfl | omega | assumption | rfl) (by first | with_reducible assumption | with_reducible rfl | omega | assumption | rfl) (by first | with_reducible assumption | with_reducible rfl | omega | assumption | rfl) (by first | exact fun z => absurd z (by decide +kernel) | exact fun _ => ⟨@HT_mk σ0 σ13 σ16 σ17 _ (by omega) (fun k => (congrFun (cσ13.1 122 (by decide +kernel)).1 k).trans (by show gi σ12 122 k = _; rw [eσ12, gi_si_ne (Or.inl (by decide +kernel)), eσ6, gi_si_ne (Or.inl (by decide +kernel))])) (by omega) (by have := MI_f24 mσ13; omega) pσ16_1 (by omega) pσ17_0, pσ17_3.trans (by have e9 : (gi σ16 74 25).toNatClampNeg = (gi σ0 74 25).toNatClampNeg := congrArg Int.toNat (show (gi σ16 74 25).toInt = (gi σ0 74 25).toInt from by omega); rw [e9]; exact nbw_eq (fun k _ => congrFun (fσ16.1 123 (by decide +kernel)).1 k)), fun k hk => (pσ17_4 k (by omega)).trans ((pσ16_1.2 k (by have := MI_f24 mσ13; have := cl_eq (x := gi σ13 74 24) (by omega); omega)).trans ((fun k => (congrFun (cσ13.1 122 (by decide +kernel)).1 k).trans (by show gi σ12 122 k = _; rw [eσ12, gi_si_ne (Or.inl (by decide +kernel)), eσ6, gi_si_ne (Or.inl (by decide +kernel))])) k))⟩) (H0.trans H.symm)
      · intro q_29
        replace H := f_t q_29 H
        have b_47 : r14.toInt = 0 := congrArg Int32.toInt q_29
        have z_48 : (0 : Int32).toInt = 0 := rfl
        exact h9ret (0 : Int32) σ13 mσ13 fσ13 (by omega) (by omega) (by first | with_reducible assumption | with_reducible rfl | omega | assumption | rfl) (by first | with_reducible assumption | with_reducible rfl | omega | assumption | rfl) (by first | with_reducible assumption | with_reducible rfl | omega | assumption | rfl) (by first | exact fun z => absurd z (by decide +kernel) | exact fun _ => ⟨@HT_mk σ0 σ13 σ16 σ17 _ (by omega) (fun k => (congrFun (cσ13.1 122 (by decide +kernel)).1 k).trans (by show gi σ12 122 k = _; rw [eσ12, gi_si_ne (Or.inl (by decide +kernel)), eσ6, gi_si_ne (Or.inl (by decide +kernel))])) (by omega) (by have := MI_f24 mσ13; omega) pσ16_1 (by omega) pσ17_0, pσ17_3.trans (by have e9 : (gi σ16 74 25).toNatClampNeg = (gi σ0 74 25).toNatClampNeg := congrArg Int.toNat (show (gi σ16 74 25).toInt = (gi σ0 74 25).toInt from by omega); rw [e9]; exact nbw_eq (fun k _ => congrFun (fσ16.1 123 (by decide +kernel)).1 k)), fun k hk => (pσ17_4 k (by omega)).trans ((pσ16_1.2 k (by have := MI_f24 mσ13; have := cl_eq (x := gi σ13 74 24) (by omega); omega)).trans ((fun k => (congrFun (cσ13.1 122 (by decide +kernel)).1 k).trans (by show gi σ12 122 k = _; rw [eσ12, gi_si_ne (Or.inl (by decide +kernel)), eσ6, gi_si_ne (Or.inl (by decide +kernel))])) k))⟩) (H0.trans H.symm)
    · intro q_12
      replace H := f_t q_12 H
      have b_49 : r10.toInt = 0 := congrArg Int32.toInt q_12
      have z_50 : (0 : Int32).toInt = 0 := rfl
      exact h9ret (0 : Int32) σ6 mσ6 fσ6 (by omega) (by omega) (by first | with_reducible assumption | with_reducible rfl | omega | assumption | rfl) (by first | with_reducible assumption | with_reducible rfl | omega | assumption | rfl) (by first | with_reducible assumption | with_reducible rfl | omega | assumption | rfl) (by first | exact fun z => absurd z (by decide +kernel) | exact fun _ => ⟨@HT_mk σ0 σ13 σ16 σ17 _ (by omega) (fun k => (congrFun (cσ13.1 122 (by decide +kernel)).1 k).trans (by show gi σ12 122 k = _; rw [eσ12, gi_si_ne (Or.inl (by decide +kernel)), eσ6, gi_si_ne (Or.inl (by decide +kernel))])) (by omega) (by have := MI_f24 mσ13; omega) pσ16_1 (by omega) pσ17_0, pσ17_3.trans (by have e9 : (gi σ16 74 25).toNatClampNeg = (gi σ0 74 25).toNatClampNeg := congrArg Int.toNat (show (gi σ16 74 25).toInt = (gi σ0 74 25).toInt from by omega); rw [e9]; exact nbw_eq (fun k _ => congrFun (fσ16.1 123 (by decide +kernel)).1 k)), fun k hk => (pσ17_4 k (by omega)).trans ((pσ16_1.2 k (by have := MI_f24 mσ13; have := cl_eq (x := gi σ13 74 24) (by omega); omega)).trans ((fun k => (congrFun (cσ13.1 122 (by decide +kernel)).1 k).trans (by show gi σ12 122 k = _; rw [eσ12, gi_si_ne (Or.inl (by decide +kernel)), eσ6, gi_si_ne (Or.inl (by decide +kernel))])) k))⟩) (H0.trans H.symm)
  · intro q_1
    replace H := f_f q_1 H
    have b_51 : ¬ (0 : Int) ≤ r4.toInt := fun h9 => q_1 (Int32.le_iff_toInt_le.mpr h9)
    have z_52 : (0 : Int32).toInt = 0 := rfl
    exact h9ret (0 : Int32) σ0 m0 f0 (by omega) (by omega) (by first | with_reducible assumption | with_reducible rfl | omega | assumption | rfl) (by first | with_reducible assumption | with_reducible rfl | omega | assumption | rfl) (by first | with_reducible assumption | with_reducible rfl | omega | assumption | rfl) (by first | exact fun z => absurd z (by decide +kernel) | exact fun _ => ⟨@HT_mk σ0 σ13 σ16 σ17 _ (by omega) (fun k => (congrFun (cσ13.1 122 (by decide +kernel)).1 k).trans (by show gi σ12 122 k = _; rw [eσ12, gi_si_ne (Or.inl (by decide +kernel)), eσ6, gi_si_ne (Or.inl (by decide +kernel))])) (by omega) (by have := MI_f24 mσ13; omega) pσ16_1 (by omega) pσ17_0, pσ17_3.trans (by have e9 : (gi σ16 74 25).toNatClampNeg = (gi σ0 74 25).toNatClampNeg := congrArg Int.toNat (show (gi σ16 74 25).toInt = (gi σ0 74 25).toInt from by omega); rw [e9]; exact nbw_eq (fun k _ => congrFun (fσ16.1 123 (by decide +kernel)).1 k)), fun k hk => (pσ17_4 k (by omega)).trans ((pσ16_1.2 k (by have := MI_f24 mσ13; have := cl_eq (x := gi σ13 74 24) (by omega); omega)).trans ((fun k => (congrFun (cσ13.1 122 (by decide +kernel)).1 k).trans (by show gi σ12 122 k = _; rw [eσ12, gi_si_ne (Or.inl (by decide +kernel)), eσ6, gi_si_ne (Or.inl (by decide +kernel))])) k))⟩) (H0.trans H.symm)
set_option maxRecDepth 100000 in
set_option maxHeartbeats 4000000 in
theorem kF_X12_takesHead {l : Launch} {V : Vx} {a1 : Int32} {σ0 : Sg} {Qk : Int32 → Sg → Prop} (m0 : MI σ0) (l_a1 : 0 ≤ a1.toInt) (u_a1 : a1.toInt ≤ 59) (pre0 : (gi σ0 74 12).toInt < (gi σ0 74 11).toInt) (pre1 : (gi σ0 74 50).toInt < (gi σ0 74 11).toInt) (pre2 : 10 * (gi σ0 74 11).toInt ≤ a1.toInt) (pre3 : (gi σ0 74 14).toInt ≤ (gi σ0 74 13).toInt) (h9ret : ∀ (r : Int32) (σ' : Sg), MI σ' → Fr [74, 118] [14] σ0 σ' → (0 ≤ r.toInt) → (r.toInt ≤ 1) → ((gi σ0 74 14).toInt ≤ (gi σ' 74 14).toInt) → ((gi σ' 74 14).toInt ≤ (gi σ0 74 13).toInt) → (hid (∀ k : Nat, ¬ k = a1.toNatClampNeg → gi σ' 118 k = gi σ0 118 k)) → (F_X12_takesHead a1 σ0 = (r, σ')) → Qk r σ') : K_X12_takesHead l V a1 σ0 Qk := by
  refine e_X12_takesHead (fun M hl hV hN C => ?_)
  subst hl
  subst hV
  obtain ⟨R9, H0⟩ : ∃ R9, F_X12_takesHead a1 σ0 = R9 := ⟨_, rfl⟩
  have f0 : Fr [74, 118] [14] σ0 σ0 := Fr_rf
  have e_a1 := cl_eq (x := a1) (by omega)
  have H := H0
  unfold F_X12_takesHead at H
  refine s_X12_takesHead_0 C hN ?_
  refine kF_X12_next m0  (fun r2 σ1 mσ1 cσ1 (pσ1_0 : r2.toInt = (nxt σ0).toInt) hσ1 => ?_)
  obtain rfl := Fr_nil cσ1
  replace H := f_b hσ1 H
  refine ⟨?_, ?_, ?_, ?_, ?_⟩
  · intro q_1
    replace H := f_f (by omega) H
    replace H := f_f (by omega) H
    replace H := f_f (by omega) H
    replace H := f_f (by omega) H
    have hv_2 : vp_in a1 60 := vp_in_iff.mpr ⟨by omega, by omega⟩
    refine ⟨hv_2, ?_⟩
    intro σ5 eσ5
    replace H := f_l eσ5 H
    have mσ5 : MI σ5 := by rw [eσ5]; exact MIs_au0 m0 rfl (FV_hi m0.2.2 (by decide +kernel) (by omega) (by omega) (by omega))
    have fσ5 : Fr [74, 118] [14] σ0 σ5 := by rw [eσ5]; exact Fr_si f0 (by decide +kernel) (fun h9 => absurd h9 (by decide +kernel))
    have k_3 : (gi σ5 74 11).toInt = (gi σ0 74 11).toInt := gk_l eσ5 rfl
    have k_4 : (gi σ5 74 12).toInt = (gi σ0 74 12).toInt := gk_l eσ5 rfl
    have k_5 : (gi σ5 74 13).toInt = (gi σ0 74 13).toInt := gk_l eσ5 rfl
    have k_6 : (gi σ5 74 14).toInt = (gi σ0 74 14).toInt := gk_l eσ5 rfl
    have k_7 : (gi σ5 74 50).toInt = (gi σ0 74 50).toInt := gk_l eσ5 rfl
    have hW9 : hid (∀ k : Nat, ¬ k = a1.toNatClampNeg → gi σ5 118 k = gi σ0 118 k) := fun k hk => by rw [eσ5, gi_si_ne (Or.inr hk)]
    have z_8 : (15 : Int32).toInt = 15 := rfl
    have z_9 : (4 : Int32).toInt = 4 := rfl
    refine kF_X12_takesWord mσ5 (by omega) (by omega) (by omega) (by omega) (by first | with_reducible assumption | with_reducible rfl | omega | assumption | rfl) (by first | with_reducible assumption | with_reducible rfl | omega | assumption | rfl) (fun r7 σ6 mσ6 cσ6 plσ6 phσ6 (pσ6_0 : (gi σ5 74 14).toInt ≤ (gi σ6 74 14).toInt) (pσ6_1 : (gi σ6 74 14).toInt ≤ (gi σ5 74 13).toInt) hσ6 => ?_)
    replace H := f_b hσ6 H
    have fσ6 : Fr [74, 118] [14] σ0 σ6 := Fr_tr fσ5 cσ6 (by decide +kernel) (by decide +kernel)
    have k_10 : (gi σ6 74 11).toInt = (gi σ5 74 11).toInt := congrArg Int32.toInt (cσ6.2.1 11 (by decide +kernel))
    have k_11 : (gi σ6 74 12).toInt = (gi σ5 74 12).toInt := congrArg Int32.toInt (cσ6.2.1 12 (by decide +kernel))
    have k_12 : (gi σ6 74 13).toInt = (gi σ5 74 13).toInt := congrArg Int32.toInt (cσ6.2.1 13 (by decide +kernel))
    have k_13 : (gi σ6 74 50).toInt = (gi σ5 74 50).toInt := congrArg Int32.toInt (cσ6.2.1 50 (by decide +kernel))
    have hW9 : hid (∀ k : Nat, ¬ k = a1.toNatClampNeg → gi σ6 118 k = gi σ0 118 k) := fun k hk => (congrFun (cσ6.1 118 (by decide +kernel)).1 k).trans (un hW9 k hk)
    refine ⟨i_bool (by omega) (by omega), ?_⟩
    exact h9ret r7 σ6 mσ6 fσ6 (by omega) (by omega) (by first | with_reducible assumption | with_reducible rfl | omega | assumption | rfl) (by first | with_reducible assumption | with_reducible rfl | omega | assumption | rfl) (by first | with_reducible assumption | with_reducible rfl | omega | assumption | rfl) (H0.trans H.symm)
  · intro q_1
    replace H := f_t q_1 H
    have hv_14 : vp_in a1 60 := vp_in_iff.mpr ⟨by omega, by omega⟩
    refine ⟨hv_14, ?_⟩
    intro σ9 eσ9
    replace H := f_l eσ9 H
    have mσ9 : MI σ9 := by rw [eσ9]; exact MIs_au0 m0 rfl (FV_hi m0.2.2 (by decide +kernel) (by omega) (by omega) (by omega))
    have fσ9 : Fr [74, 118] [14] σ0 σ9 := by rw [eσ9]; exact Fr_si f0 (by decide +kernel) (fun h9 => absurd h9 (by decide +kernel))
    have k_15 : (gi σ9 74 11).toInt = (gi σ0 74 11).toInt := gk_l eσ9 rfl
    have k_16 : (gi σ9 74 12).toInt = (gi σ0 74 12).toInt := gk_l eσ9 rfl
    have k_17 : (gi σ9 74 13).toInt = (gi σ0 74 13).toInt := gk_l eσ9 rfl
    have k_18 : (gi σ9 74 14).toInt = (gi σ0 74 14).toInt := gk_l eσ9 rfl
    have k_19 : (gi σ9 74 50).toInt = (gi σ0 74 50).toInt := gk_l eσ9 rfl
    have hW9 : hid (∀ k : Nat, ¬ k = a1.toNatClampNeg → gi σ9 118 k = gi σ0 118 k) := fun k hk => by rw [eσ9, gi_si_ne (Or.inr hk)]
    have z_20 : (0 : Int32).toInt = 0 := rfl
    have z_21 : (4 : Int32).toInt = 4 := rfl
    refine kF_X12_takesWord mσ9 (by omega) (by omega) (by omega) (by omega) (by first | with_reducible assumption | with_reducible rfl | omega | assumption | rfl) (by first | with_reducible assumption | with_reducible rfl | omega | assumption | rfl) (fun r11 σ10 mσ10 cσ10 plσ10 phσ10 (pσ10_0 : (gi σ9 74 14).toInt ≤ (gi σ10 74 14).toInt) (pσ10_1 : (gi σ10 74 14).toInt ≤ (gi σ9 74 13).toInt) hσ10 => ?_)
    replace H := f_b hσ10 H
    have fσ10 : Fr [74, 118] [14] σ0 σ10 := Fr_tr fσ9 cσ10 (by decide +kernel) (by decide +kernel)
    have k_22 : (gi σ10 74 11).toInt = (gi σ9 74 11).toInt := congrArg Int32.toInt (cσ10.2.1 11 (by decide +kernel))
    have k_23 : (gi σ10 74 12).toInt = (gi σ9 74 12).toInt := congrArg Int32.toInt (cσ10.2.1 12 (by decide +kernel))
    have k_24 : (gi σ10 74 13).toInt = (gi σ9 74 13).toInt := congrArg Int32.toInt (cσ10.2.1 13 (by decide +kernel))
    have k_25 : (gi σ10 74 50).toInt = (gi σ9 74 50).toInt := congrArg Int32.toInt (cσ10.2.1 50 (by decide +kernel))
    have hW9 : hid (∀ k : Nat, ¬ k = a1.toNatClampNeg → gi σ10 118 k = gi σ0 118 k) := fun k hk => (congrFun (cσ10.1 118 (by decide +kernel)).1 k).trans (un hW9 k hk)
    refine ⟨i_bool (by omega) (by omega), ?_⟩
    exact h9ret r11 σ10 mσ10 fσ10 (by omega) (by omega) (by first | with_reducible assumption | with_reducible rfl | omega | assumption | rfl) (by first | with_reducible assumption | with_reducible rfl | omega | assumption | rfl) (by first | with_reducible assumption | with_reducible rfl | omega | assumption | rfl) (H0.trans H.symm)
  · intro q_1
    replace H := f_f (by omega) H
    replace H := f_t q_1 H
    have hv_26 : vp_in a1 60 := vp_in_iff.mpr ⟨by omega, by omega⟩
    refine ⟨hv_26, ?_⟩
    intro σ13 eσ13
    replace H := f_l eσ13 H
    have mσ13 : MI σ13 := by rw [eσ13]; exact MIs_au0 m0 rfl (FV_hi m0.2.2 (by decide +kernel) (by omega) (by omega) (by omega))
    have fσ13 : Fr [74, 118] [14] σ0 σ13 := by rw [eσ13]; exact Fr_si f0 (by decide +kernel) (fun h9 => absurd h9 (by decide +kernel))
    have k_27 : (gi σ13 74 11).toInt = (gi σ0 74 11).toInt := gk_l eσ13 rfl
    have k_28 : (gi σ13 74 12).toInt = (gi σ0 74 12).toInt := gk_l eσ13 rfl
    have k_29 : (gi σ13 74 13).toInt = (gi σ0 74 13).toInt := gk_l eσ13 rfl
    have k_30 : (gi σ13 74 14).toInt = (gi σ0 74 14).toInt := gk_l eσ13 rfl
    have k_31 : (gi σ13 74 50).toInt = (gi σ0 74 50).toInt := gk_l eσ13 rfl
    have hW9 : hid (∀ k : Nat, ¬ k = a1.toNatClampNeg → gi σ13 118 k = gi σ0 118 k) := fun k hk => by rw [eσ13, gi_si_ne (Or.inr hk)]
    have z_32 : (8 : Int32).toInt = 8 := rfl
    have z_33 : (3 : Int32).toInt = 3 := rfl
    refine kF_X12_takesWord mσ13 (by omega) (by omega) (by omega) (by omega) (by first | with_reducible assumption | with_reducible rfl | omega | assumption | rfl) (by first | with_reducible assumption | with_reducible rfl | omega | assumption | rfl) (fun r15 σ14 mσ14 cσ14 plσ14 phσ14 (pσ14_0 : (gi σ13 74 14).toInt ≤ (gi σ14 74 14).toInt) (pσ14_1 : (gi σ14 74 14).toInt ≤ (gi σ13 74 13).toInt) hσ14 => ?_)
    replace H := f_b hσ14 H
    have fσ14 : Fr [74, 118] [14] σ0 σ14 := Fr_tr fσ13 cσ14 (by decide +kernel) (by decide +kernel)
    have k_34 : (gi σ14 74 11).toInt = (gi σ13 74 11).toInt := congrArg Int32.toInt (cσ14.2.1 11 (by decide +kernel))
    have k_35 : (gi σ14 74 12).toInt = (gi σ13 74 12).toInt := congrArg Int32.toInt (cσ14.2.1 12 (by decide +kernel))
    have k_36 : (gi σ14 74 13).toInt = (gi σ13 74 13).toInt := congrArg Int32.toInt (cσ14.2.1 13 (by decide +kernel))
    have k_37 : (gi σ14 74 50).toInt = (gi σ13 74 50).toInt := congrArg Int32.toInt (cσ14.2.1 50 (by decide +kernel))
    have hW9 : hid (∀ k : Nat, ¬ k = a1.toNatClampNeg → gi σ14 118 k = gi σ0 118 k) := fun k hk => (congrFun (cσ14.1 118 (by decide +kernel)).1 k).trans (un hW9 k hk)
    refine ⟨i_bool (by omega) (by omega), ?_⟩
    exact h9ret r15 σ14 mσ14 fσ14 (by omega) (by omega) (by first | with_reducible assumption | with_reducible rfl | omega | assumption | rfl) (by first | with_reducible assumption | with_reducible rfl | omega | assumption | rfl) (by first | with_reducible assumption | with_reducible rfl | omega | assumption | rfl) (H0.trans H.symm)
  · intro q_1
    replace H := f_f (by omega) H
    replace H := f_f (by omega) H
    replace H := f_t q_1 H
    have hv_38 : vp_in a1 60 := vp_in_iff.mpr ⟨by omega, by omega⟩
    refine ⟨hv_38, ?_⟩
    intro σ17 eσ17
    replace H := f_l eσ17 H
    have mσ17 : MI σ17 := by rw [eσ17]; exact MIs_au0 m0 rfl (FV_hi m0.2.2 (by decide +kernel) (by omega) (by omega) (by omega))
    have fσ17 : Fr [74, 118] [14] σ0 σ17 := by rw [eσ17]; exact Fr_si f0 (by decide +kernel) (fun h9 => absurd h9 (by decide +kernel))
    have k_39 : (gi σ17 74 11).toInt = (gi σ0 74 11).toInt := gk_l eσ17 rfl
    have k_40 : (gi σ17 74 12).toInt = (gi σ0 74 12).toInt := gk_l eσ17 rfl
    have k_41 : (gi σ17 74 13).toInt = (gi σ0 74 13).toInt := gk_l eσ17 rfl
    have k_42 : (gi σ17 74 14).toInt = (gi σ0 74 14).toInt := gk_l eσ17 rfl
    have k_43 : (gi σ17 74 50).toInt = (gi σ0 74 50).toInt := gk_l eσ17 rfl
    have hW9 : hid (∀ k : Nat, ¬ k = a1.toNatClampNeg → gi σ17 118 k = gi σ0 118 k) := fun k hk => by rw [eσ17, gi_si_ne (Or.inr hk)]
    have z_44 : (4 : Int32).toInt = 4 := rfl
    refine kF_X12_takesWord mσ17 (by omega) (by omega) (by omega) (by omega) (by first | with_reducible assumption | with_reducible rfl | omega | assumption | rfl) (by first | with_reducible assumption | with_reducible rfl | omega | assumption | rfl) (fun r19 σ18 mσ18 cσ18 plσ18 phσ18 (pσ18_0 : (gi σ17 74 14).toInt ≤ (gi σ18 74 14).toInt) (pσ18_1 : (gi σ18 74 14).toInt ≤ (gi σ17 74 13).toInt) hσ18 => ?_)
    replace H := f_b hσ18 H
    have fσ18 : Fr [74, 118] [14] σ0 σ18 := Fr_tr fσ17 cσ18 (by decide +kernel) (by decide +kernel)
    have k_45 : (gi σ18 74 11).toInt = (gi σ17 74 11).toInt := congrArg Int32.toInt (cσ18.2.1 11 (by decide +kernel))
    have k_46 : (gi σ18 74 12).toInt = (gi σ17 74 12).toInt := congrArg Int32.toInt (cσ18.2.1 12 (by decide +kernel))
    have k_47 : (gi σ18 74 13).toInt = (gi σ17 74 13).toInt := congrArg Int32.toInt (cσ18.2.1 13 (by decide +kernel))
    have k_48 : (gi σ18 74 50).toInt = (gi σ17 74 50).toInt := congrArg Int32.toInt (cσ18.2.1 50 (by decide +kernel))
    have hW9 : hid (∀ k : Nat, ¬ k = a1.toNatClampNeg → gi σ18 118 k = gi σ0 118 k) := fun k hk => (congrFun (cσ18.1 118 (by decide +kernel)).1 k).trans (un hW9 k hk)
    refine ⟨i_bool (by omega) (by omega), ?_⟩
    exact h9ret r19 σ18 mσ18 fσ18 (by omega) (by omega) (by first | with_reducible assumption | with_reducible rfl | omega | assumption | rfl) (by first | with_reducible assumption | with_reducible rfl | omega | assumption | rfl) (by first | with_reducible assumption | with_reducible rfl | omega | assumption | rfl) (H0.trans H.symm)
  · intro q_1
    replace H := f_f (by omega) H
    replace H := f_f (by omega) H
    replace H := f_f (by omega) H
    replace H := f_t q_1 H
    have hv_49 : vp_in a1 60 := vp_in_iff.mpr ⟨by omega, by omega⟩
    refine ⟨hv_49, ?_⟩
    intro σ21 eσ21
    replace H := f_l eσ21 H
    have mσ21 : MI σ21 := by rw [eσ21]; exact MIs_au0 m0 rfl (FV_hi m0.2.2 (by decide +kernel) (by omega) (by omega) (by omega))
    have fσ21 : Fr [74, 118] [14] σ0 σ21 := by rw [eσ21]; exact Fr_si f0 (by decide +kernel) (fun h9 => absurd h9 (by decide +kernel))
    have k_50 : (gi σ21 74 11).toInt = (gi σ0 74 11).toInt := gk_l eσ21 rfl
    have k_51 : (gi σ21 74 12).toInt = (gi σ0 74 12).toInt := gk_l eσ21 rfl
    have k_52 : (gi σ21 74 13).toInt = (gi σ0 74 13).toInt := gk_l eσ21 rfl
    have k_53 : (gi σ21 74 14).toInt = (gi σ0 74 14).toInt := gk_l eσ21 rfl
    have k_54 : (gi σ21 74 50).toInt = (gi σ0 74 50).toInt := gk_l eσ21 rfl
    have hW9 : hid (∀ k : Nat, ¬ k = a1.toNatClampNeg → gi σ21 118 k = gi σ0 118 k) := fun k hk => by rw [eσ21, gi_si_ne (Or.inr hk)]
    have z_55 : (11 : Int32).toInt = 11 := rfl
    have z_56 : (4 : Int32).toInt = 4 := rfl
    refine kF_X12_takesWord mσ21 (by omega) (by omega) (by omega) (by omega) (by first | with_reducible assumption | with_reducible rfl | omega | assumption | rfl) (by first | with_reducible assumption | with_reducible rfl | omega | assumption | rfl) (fun r23 σ22 mσ22 cσ22 plσ22 phσ22 (pσ22_0 : (gi σ21 74 14).toInt ≤ (gi σ22 74 14).toInt) (pσ22_1 : (gi σ22 74 14).toInt ≤ (gi σ21 74 13).toInt) hσ22 => ?_)
    replace H := f_b hσ22 H
    have fσ22 : Fr [74, 118] [14] σ0 σ22 := Fr_tr fσ21 cσ22 (by decide +kernel) (by decide +kernel)
    have k_57 : (gi σ22 74 11).toInt = (gi σ21 74 11).toInt := congrArg Int32.toInt (cσ22.2.1 11 (by decide +kernel))
    have k_58 : (gi σ22 74 12).toInt = (gi σ21 74 12).toInt := congrArg Int32.toInt (cσ22.2.1 12 (by decide +kernel))
    have k_59 : (gi σ22 74 13).toInt = (gi σ21 74 13).toInt := congrArg Int32.toInt (cσ22.2.1 13 (by decide +kernel))
    have k_60 : (gi σ22 74 50).toInt = (gi σ21 74 50).toInt := congrArg Int32.toInt (cσ22.2.1 50 (by decide +kernel))
    have hW9 : hid (∀ k : Nat, ¬ k = a1.toNatClampNeg → gi σ22 118 k = gi σ0 118 k) := fun k hk => (congrFun (cσ22.1 118 (by decide +kernel)).1 k).trans (un hW9 k hk)
    refine ⟨i_bool (by omega) (by omega), ?_⟩
    exact h9ret r23 σ22 mσ22 fσ22 (by omega) (by omega) (by first | with_reducible assumption | with_reducible rfl | omega | assumption | rfl) (by first | with_reducible assumption | with_reducible rfl | omega | assumption | rfl) (by first | with_reducible assumption | with_reducible rfl | omega | assumption | rfl) (H0.trans H.symm)
set_option maxRecDepth 100000 in
set_option maxHeartbeats 4000000 in
theorem kF_X12_takesE {l : Launch} {V : Vx} {a1 : Int32} {σ0 : Sg} {Qk : Int32 → Sg → Prop} (m0 : MI σ0) (l_a1 : 0 ≤ a1.toInt) (u_a1 : a1.toInt ≤ 59) (pre0 : (gi σ0 74 12).toInt < (gi σ0 74 11).toInt) (pre1 : (gi σ0 74 50).toInt < (gi σ0 74 11).toInt) (pre2 : 100 * (gi σ0 74 11).toInt ≤ (gi σ0 74 24).toInt) (pre3 : (gi σ0 74 24).toInt + 1 ≤ 100 * (gi σ0 74 11).toInt + (gi σ0 74 14).toInt) (pre4 : (gi σ0 74 14).toInt ≤ (gi σ0 74 13).toInt) (pre5 : (gi σ0 74 11).toInt ≤ 5) (pre6 : 10 * (gi σ0 74 11).toInt ≤ a1.toInt) (h9ret : ∀ (r : Int32) (σ' : Sg), MI σ' → Fr [74, 120, 121, 122, 123] [14, 15, 24, 25, 26] σ0 σ' → (0 ≤ r.toInt) → (r.toInt ≤ 1) → ((gi σ0 74 14).toInt ≤ (gi σ' 74 14).toInt) → ((gi σ' 74 14).toInt ≤ (gi σ0 74 13).toInt) → ((r.toInt = 1 ∧ (gi σ0 74 24).toInt ≤ (gi σ' 74 24).toInt ∧ (gi σ' 74 24).toInt + 1 ≤ 100 * (gi σ0 74 11).toInt + (gi σ' 74 14).toInt) ∨ r.toInt = 0) → (hid (r.toInt = 1 → TE σ0 σ' a1.toNatClampNeg)) → (F_X12_takesE a1 σ0 = (r, σ')) → Qk r σ') : K_X12_takesE l V a1 σ0 Qk := by
  refine e_X12_takesE (fun M hl hV hN C => ?_)
  subst hl
  subst hV
  obtain ⟨R9, H0⟩ : ∃ R9, F_X12_takesE a1 σ0 = R9 := ⟨_, rfl⟩
  have T : ∀ n : Nat, (∀ (x1 : Int32) (x2 : Int32) (σ : Sg), MI σ → Fr [74, 120, 121, 122, 123] [14, 15, 24, 25, 26] σ0 σ → (0 ≤ x1.toInt) → (x1.toInt ≤ 59) → (x1 = a1) → (BL σ0 σ) → ((gi σ0 74 24).toInt ≤ (gi σ 74 24).toInt) → ((gi σ 74 24).toInt + (gi σ 74 25).toInt + 1 ≤ 100 * (gi σ 74 11).toInt + (gi σ 74 14).toInt) → ((gi σ 74 14).toInt ≤ (gi σ 74 13).toInt) → ((gi σ 74 12).toInt < (gi σ 74 11).toInt) → ((gi σ 74 50).toInt < (gi σ 74 11).toInt) → ((gi σ 74 11).toInt ≤ 5) → (100 * (gi σ 74 11).toInt ≤ (gi σ 74 24).toInt) → (10 * (gi σ 74 11).toInt ≤ x1.toInt) → (K120 σ0 σ x1.toNatClampNeg) → ((gi σ0 74 14).toInt ≤ (gi σ 74 14).toInt) → ((gi σ 74 13).toInt = (gi σ0 74 13).toInt) → ((gi σ 74 11).toInt = (gi σ0 74 11).toInt) → (TW σ0 σ x2) → (LF_X12_takesE n 0 x1 x2 0 σ = R9) → (101 - (gi σ 74 14).toInt).toNat * 2 + 1 < n → PS M 22 [(0, .ref 74), (1, .int x1), (2, .int x2)] [] σ (0, 0)) ∧ (∀ (x1 : Int32) (x3 : Int32) (σ : Sg), MI σ → Fr [74, 120, 121, 122, 123] [14, 15, 24, 25, 26] σ0 σ → (0 ≤ x1.toInt) → (x1.toInt ≤ 59) → (x1 = a1) → (BL σ0 σ) → ((gi σ0 74 24).toInt ≤ (gi σ 74 24).toInt) → ((gi σ 74 24).toInt + (gi σ 74 25).toInt + 1 ≤ 100 * (gi σ 74 11).toInt + (gi σ 74 14).toInt) → ((gi σ 74 14).toInt ≤ (gi σ 74 13).toInt) → ((gi σ 74 12).toInt < (gi σ 74 11).toInt) → ((gi σ 74 50).toInt < (gi σ 74 11).toInt) → ((gi σ 74 11).toInt ≤ 5) → (100 * (gi σ 74 11).toInt ≤ (gi σ 74 24).toInt) → (10 * (gi σ 74 11).toInt ≤ x1.toInt) → (K120 σ0 σ x1.toNatClampNeg) → ((gi σ0 74 14).toInt ≤ (gi σ 74 14).toInt) → ((gi σ 74 13).toInt = (gi σ0 74 13).toInt) → ((gi σ 74 11).toInt = (gi σ0 74 11).toInt) → (TI σ0 σ 1) → ((gi σ 74 14).toInt < (gi σ 74 13).toInt) → (x3 = 38 ∨ x3 = 124) → (LF_X12_takesE n 1 x1 0 x3 σ = R9) → (101 - (gi σ 74 14).toInt).toNat * 2 < n → PS M 122 [(0, .ref 74), (1, .int x1), (3, .int x3)] [] σ (0, 0)) ∧ (∀ (x1 : Int32) (x2 : Int32) (x3 : Int32) (σ : Sg), MI σ → Fr [74, 120, 121, 122, 123] [14, 15, 24, 25, 26] σ0 σ → (0 ≤ x1.toInt) → (x1.toInt ≤ 59) → (x1 = a1) → (BL σ0 σ) → ((gi σ0 74 24).toInt ≤ (gi σ 74 24).toInt) → ((gi σ 74 24).toInt + (gi σ 74 25).toInt + 1 ≤ 100 * (gi σ 74 11).toInt + (gi σ 74 14).toInt) → ((gi σ 74 14).toInt ≤ (gi σ 74 13).toInt) → ((gi σ 74 12).toInt < (gi σ 74 11).toInt) → ((gi σ 74 50).toInt < (gi σ 74 11).toInt) → ((gi σ 74 11).toInt ≤ 5) → (100 * (gi σ 74 11).toInt ≤ (gi σ 74 24).toInt) → (10 * (gi σ 74 11).toInt ≤ x1.toInt) → (K120 σ0 σ x1.toNatClampNeg) → ((gi σ0 74 14).toInt ≤ (gi σ 74 14).toInt) → ((gi σ 74 13).toInt = (gi σ0 74 13).toInt) → ((gi σ 74 11).toInt = (gi σ0 74 11).toInt) → (¬ x2 = 0) → (TI σ0 σ 0) → ((gi σ 74 14).toInt < (gi σ 74 13).toInt) → (x3 = 33 ∨ x3 = 40) → (LF_X12_takesE n 2 x1 x2 x3 σ = R9) → (101 - (gi σ 74 14).toInt).toNat * 2 < n → PS M 43 [(0, .ref 74), (1, .int x1), (2, .int x2), (3, .int x3)] [] σ (0, 0)) := by
    intro n
    induction n with
    | zero => exact ⟨fun _ _ _ _ _ _ _ _ _ _ _ _ _ _ _ _ _ _ _ _ _ _ _ h8 => absurd h8 (Nat.not_lt_zero _), fun _ _ _ _ _ _ _ _ _ _ _ _ _ _ _ _ _ _ _ _ _ _ _ _ _ h8 => absurd h8 (Nat.not_lt_zero _), fun _ _ _ _ _ _ _ _ _ _ _ _ _ _ _ _ _ _ _ _ _ _ _ _ _ _ _ h8 => absurd h8 (Nat.not_lt_zero _)⟩
    | succ n ih =>
      obtain ⟨ih22, ih122, ih43⟩ := ih
      refine ⟨?_, ?_, ?_⟩
      · intro x1 x2 σ mσ fσ lx1 ux1 i0 i1 i2 i3 i4 i5 i6 i7 i8 i9 i10 i11 i12 i13 i14 H hmu
        replace H : LB_X12_takesE_22 (LF_X12_takesE n) x1 x2 σ = R9 := H
        unfold LB_X12_takesE_22 at H
        have mw24 := MI_f24 mσ
        have mw25 := MI_f25 mσ
        have mw13 := MI_f13 mσ
        have e_x1 := cl_eq (x := x1) (by omega)
        have i0n : x1.toNatClampNeg = a1.toNatClampNeg := by rw [i0]
        refine s_X12_takesE_22 C hN ?_
        refine kF_X12_next mσ  (fun r2 σ1 mσ1 cσ1 (pσ1_0 : r2.toInt = (nxt σ).toInt) hσ1 => ?_)
        obtain rfl := Fr_nil cσ1
        replace H := f_b hσ1 H
        have hlt := fun h9 => nxt_lt (by assumption : MI σ) h9
        have fd9 := MI_f13 (by assumption : MI σ)
        refine ⟨?_, ?_⟩
        · intro q_1
          replace H := f_t q_1 H
          have w_2 := Int32.toInt_lt x2
          have w_3 := Int32.le_toInt x2
          have b_4 : x2.toInt = 0 := congrArg Int32.toInt q_1
          have hT9 : TI σ0 σ 1 := i14.1 q_1
          refine ⟨?_, ?_⟩
          · intro q_5
            replace H := f_t q_5 H
            have w_6 := Int32.toInt_lt r2
            have w_7 := Int32.le_toInt r2
            have b_8 : r2.toInt = 38 := congrArg Int32.toInt q_5
            exact ih122 x1 r2 σ mσ fσ (by omega) (by omega) (by first | with_reducible assumption | with_reducible rfl | omega | assumption | rfl) (by first | with_reducible assumption | with_reducible rfl | omega | assumption | rfl) (by first | with_reducible assumption | with_reducible rfl | omega | assumption | rfl) (by first | with_reducible assumption | with_reducible rfl | omega | assumption | rfl) (by first | with_reducible assumption | with_reducible rfl | omega | assumption | rfl) (by first | with_reducible assumption | with_reducible rfl | omega | assumption | rfl) (by first | with_reducible assumption | with_reducible rfl | omega | assumption | rfl) (by first | with_reducible assumption | with_reducible rfl | omega | assumption | rfl) (by first | with_reducible assumption | with_reducible rfl | omega | assumption | rfl) (by first | with_reducible assumption | with_reducible rfl | omega | assumption | rfl) (by first | with_reducible assumption | with_reducible rfl | omega | assumption | rfl) (by first | with_reducible assumption | with_reducible rfl | omega | assumption | rfl) (by first | with_reducible assumption | with_reducible rfl | omega | assumption | rfl) (by first | with_reducible assumption | with_reducible rfl | omega | assumption | rfl) (by first | with_reducible assumption | with_reducible rfl | omega | assumption | rfl) (by first | with_reducible assumption | with_reducible rfl | omega | assumption | rfl) (by first | exact Or.inl (by first | with_reducible assumption | assumption) | exact Or.inr (by first | with_reducible assumption | assumption)) H (by omega)
          · intro q_5
            replace H := f_f q_5 H
            have w_9 := Int32.toInt_lt r2
            have w_10 := Int32.le_toInt r2
            have b_11 : ¬ r2.toInt = 38 := fun h9 => q_5 (Int32.toInt_inj.mp h9)
            refine ⟨?_, ?_⟩
            · intro q_12
              replace H := f_f q_12 H
              have b_13 : ¬ r2.toInt = 124 := fun h9 => q_12 (Int32.toInt_inj.mp h9)
              refine kF_X12_settle mσ (by first | with_reducible assumption | with_reducible rfl | omega | assumption | rfl) (by first | with_reducible assumption | with_reducible rfl | omega | assumption | rfl) (by first | with_reducible assumption | with_reducible rfl | omega | assumption | rfl) (by first | with_reducible assumption | with_reducible rfl | omega | assumption | rfl) (fun σ6 mσ6 cσ6 (pσ6_0 : HS σ σ6) (pσ6_1 : (gi σ6 74 24).toInt + (gi σ6 74 25).toInt = (gi σ 74 24).toInt + (gi σ 74 25).toInt) (pσ6_2 : (gi σ6 74 25).toInt ≤ (gi σ 74 25).toInt) (pσ6_3 : nbw σ6 (gi σ6 74 25).toNatClampNeg = nbw σ (gi σ6 74 25).toNatClampNeg) (pσ6_4 : (gi σ6 74 25).toInt = 0 ∨ (¬ gi σ6 123 ((gi σ6 74 25) - (1 : Int32)).toNatClampNeg = 38 ∧ (¬ (124 : Int32) = 38 → ¬ gi σ6 123 ((gi σ6 74 25) - (1 : Int32)).toNatClampNeg = 124))) (pσ6_5 : BL σ σ6) (pσ6_6 : (gi σ 74 24).toInt ≤ (gi σ6 74 24).toInt) hσ6 => ?_)
              replace H := f_v hσ6 H
              have fσ6 : Fr [74, 120, 121, 122, 123] [14, 15, 24, 25, 26] σ0 σ6 := Fr_tr fσ cσ6 (by decide +kernel) (by decide +kernel)
              have k_14 : (gi σ6 74 11).toInt = (gi σ 74 11).toInt := congrArg Int32.toInt (cσ6.2.1 11 (by decide +kernel))
              have k_15 : (gi σ6 74 12).toInt = (gi σ 74 12).toInt := congrArg Int32.toInt (cσ6.2.1 12 (by decide +kernel))
              have k_16 : (gi σ6 74 13).toInt = (gi σ 74 13).toInt := congrArg Int32.toInt (cσ6.2.1 13 (by decide +kernel))
              have k_17 : (gi σ6 74 14).toInt = (gi σ 74 14).toInt := congrArg Int32.toInt (cσ6.2.1 14 (by decide +kernel))
              have k_18 : (gi σ6 74 50).toInt = (gi σ 74 50).toInt := congrArg Int32.toInt (cσ6.2.1 50 (by decide +kernel))
              have hK9 : K120 σ0 σ6 x1.toNatClampNeg := K120_fr (by first | with_reducible assumption | assumption) cσ6 (by decide +kernel) (by decide +kernel)
              have hB9 : BL σ0 σ6 := BL_tr (by first | with_reducible assumption | assumption) pσ6_5 (by omega)
              have hT9 : TI σ0 σ6 1 := TI_settle (σ := σ) (by first | with_reducible assumption | assumption) pσ6_0 pσ6_3
              have hv_19 : vp_in x1 60 := vp_in_iff.mpr ⟨by omega, by omega⟩
              refine ⟨hv_19, ?_⟩
              intro σ8 eσ8
              replace H := f_l eσ8 H
              have mσ8 : MI σ8 := by rw [eσ8]; exact MIs_au0 mσ6 rfl (FV_hi mσ6.2.2 (by decide +kernel) (by omega) (by omega) (by omega))
              have fσ8 : Fr [74, 120, 121, 122, 123] [14, 15, 24, 25, 26] σ0 σ8 := by rw [eσ8]; exact Fr_si fσ6 (by decide +kernel) (fun h9 => absurd h9 (by decide +kernel))
              have k_20 : (gi σ8 74 11).toInt = (gi σ6 74 11).toInt := gk_l eσ8 rfl
              have k_21 : (gi σ8 74 12).toInt = (gi σ6 74 12).toInt := gk_l eσ8 rfl
              have k_22 : (gi σ8 74 13).toInt = (gi σ6 74 13).toInt := gk_l eσ8 rfl
              have k_23 : (gi σ8 74 14).toInt = (gi σ6 74 14).toInt := gk_l eσ8 rfl
              have k_24 : (gi σ8 74 24).toInt = (gi σ6 74 24).toInt := gk_l eσ8 rfl
              have k_25 : (gi σ8 74 25).toInt = (gi σ6 74 25).toInt := gk_l eσ8 rfl
              have k_26 : (gi σ8 74 50).toInt = (gi σ6 74 50).toInt := gk_l eσ8 rfl
              have hB9 : BL σ0 σ8 := by rw [eσ8]; exact BL_si (by first | with_reducible assumption | assumption) (by decide +kernel)
              have hK9 : K120 σ0 σ8 x1.toNatClampNeg := by rw [eσ8]; first | exact K120_si (by first | with_reducible assumption | assumption) (by decide +kernel) | exact K120_to (by first | with_reducible assumption | assumption)
              try have hT9 : TI σ0 σ8 1 := by first | exact TI_eq (σ := σ6) (by first | with_reducible assumption | assumption) (by omega) (by omega) (fun k => by rw [eσ8, gi_si_ne (Or.inl (by decide +kernel))]) (fun k => by rw [eσ8, gi_si_ne (Or.inl (by decide +kernel))]) | exact TI_pop (σ := σ6) (by first | with_reducible assumption | assumption) (by omega) (by first | with_reducible assumption | assumption) (by omega) (by omega) (by omega) (fun k => by rw [eσ8, gi_si_ne (Or.inl (by decide +kernel))]) (fun k => by rw [eσ8, gi_si_ne (Or.inl (by decide +kernel))])
              refine ⟨?_, ?_⟩
              · intro q_27
                replace H := f_f q_27 H
                have t_28 := MI_f25 mσ8
                have b_29 : ¬ (gi σ8 74 25).toInt = 0 := fun h9 => q_27 (Int32.toInt_inj.mp h9)
                have top9 := settle_top pσ6_4 (by decide +kernel) eσ8 q_27
                refine ⟨?_, ?_⟩
                · intro q_30
                  replace H := f_t q_30 H
                  have b_31 : r2.toInt = 41 := congrArg Int32.toInt q_30
                  intro σ11 eσ11
                  replace H := f_l eσ11 H
                  have t_32 : ((gi σ8 74 25) - (1 : Int32)).toInt = (gi σ8 74 25).toInt - 1 := i_sub (x := (gi σ8 74 25)) (y := (1 : Int32)) (by show (_ : Int) ≤ (gi σ8 74 25).toInt - 1; omega) (by show (gi σ8 74 25).toInt - 1 ≤ (_ : Int); omega)
                  have mσ11 : MI σ11 := by rw [eσ11]; exact MIs_f25 mσ8 (by omega) (by omega)
                  have fσ11 : Fr [74, 120, 121, 122, 123] [14, 15, 24, 25, 26] σ0 σ11 := by rw [eσ11]; exact Fr_si fσ8 (by decide +kernel) (fun _ => by decide +kernel)
                  have k_33 : (gi σ11 74 11).toInt = (gi σ8 74 11).toInt := gk_r eσ11 rfl
                  have k_34 : (gi σ11 74 12).toInt = (gi σ8 74 12).toInt := gk_r eσ11 rfl
                  have k_35 : (gi σ11 74 13).toInt = (gi σ8 74 13).toInt := gk_r eσ11 rfl
                  have k_36 : (gi σ11 74 14).toInt = (gi σ8 74 14).toInt := gk_r eσ11 rfl
                  have k_37 : (gi σ11 74 24).toInt = (gi σ8 74 24).toInt := gk_r eσ11 rfl
                  have k_38 : (gi σ11 74 25).toInt = ((gi σ8 74 25) - (1 : Int32)).toInt := by rw [eσ11]; exact congrArg Int32.toInt gi_si_eq
                  have k_39 : (gi σ11 74 50).toInt = (gi σ8 74 50).toInt := gk_r eσ11 rfl
                  have hB9 : BL σ0 σ11 := by rw [eσ11]; exact BL_si (by first | with_reducible assumption | assumption) (by decide +kernel)
                  have hK9 : K120 σ0 σ11 x1.toNatClampNeg := by rw [eσ11]; first | exact K120_si (by first | with_reducible assumption | assumption) (by decide +kernel) | exact K120_to (by first | with_reducible assumption | assumption)
                  try have hT9 : TI σ0 σ11 1 := by first | exact TI_eq (σ := σ8) (by first | with_reducible assumption | assumption) (by omega) (by omega) (fun k => by rw [eσ11, gi_si_ne (Or.inl (by decide +kernel))]) (fun k => by rw [eσ11, gi_si_ne (Or.inl (by decide +kernel))]) | exact TI_pop (σ := σ8) (by first | with_reducible assumption | assumption) (by omega) (by first | with_reducible assumption | assumption) (by omega) (by omega) (by omega) (fun k => by rw [eσ11, gi_si_ne (Or.inl (by decide +kernel))]) (fun k => by rw [eσ11, gi_si_ne (Or.inl (by decide +kernel))])
                  intro σ12 eσ12
                  replace H := f_l eσ12 H
                  have mσ12 : MI σ12 := by rw [eσ12]; exact MIs_fu mσ11 (by decide +kernel)
                  have fσ12 : Fr [74, 120, 121, 122, 123] [14, 15, 24, 25, 26] σ0 σ12 := by rw [eσ12]; exact Fr_si fσ11 (by decide +kernel) (fun _ => by decide +kernel)
                  have k_40 : (gi σ12 74 11).toInt = (gi σ11 74 11).toInt := gk_r eσ12 rfl
                  have k_41 : (gi σ12 74 12).toInt = (gi σ11 74 12).toInt := gk_r eσ12 rfl
                  have k_42 : (gi σ12 74 13).toInt = (gi σ11 74 13).toInt := gk_r eσ12 rfl
                  have k_43 : (gi σ12 74 14).toInt = (gi σ11 74 14).toInt := gk_r eσ12 rfl
                  have k_44 : (gi σ12 74 24).toInt = (gi σ11 74 24).toInt := gk_r eσ12 rfl
                  have k_45 : (gi σ12 74 25).toInt = (gi σ11 74 25).toInt := gk_r eσ12 rfl
                  have k_46 : (gi σ12 74 50).toInt = (gi σ11 74 50).toInt := gk_r eσ12 rfl
                  have hB9 : BL σ0 σ12 := by rw [eσ12]; exact BL_si (by first | with_reducible assumption | assumption) (by decide +kernel)
                  have hK9 : K120 σ0 σ12 x1.toNatClampNeg := by rw [eσ12]; first | exact K120_si (by first | with_reducible assumption | assumption) (by decide +kernel) | exact K120_to (by first | with_reducible assumption | assumption)
                  try have hT9 : TI σ0 σ12 1 := by first | exact TI_eq (σ := σ11) (by first | with_reducible assumption | assumption) (by omega) (by omega) (fun k => by rw [eσ12, gi_si_ne (Or.inl (by decide +kernel))]) (fun k => by rw [eσ12, gi_si_ne (Or.inl (by decide +kernel))]) | exact TI_pop (σ := σ11) (by first | with_reducible assumption | assumption) (by omega) (by first | with_reducible assumption | assumption) (by omega) (by omega) (by omega) (fun k => by rw [eσ12, gi_si_ne (Or.inl (by decide +kernel))]) (fun k => by rw [eσ12, gi_si_ne (Or.inl (by decide +kernel))])
                  intro σ13 eσ13
                  replace H := f_l eσ13 H
                  have t_47 := MI_f14 mσ12
                  have t_48 : ((gi σ12 74 14) + (1 : Int32)).toInt = (gi σ12 74 14).toInt + 1 := i_add (x := (gi σ12 74 14)) (y := (1 : Int32)) (by show (_ : Int) ≤ (gi σ12 74 14).toInt + 1; omega) (by show (gi σ12 74 14).toInt + 1 ≤ (_ : Int); omega)
                  have mσ13 : MI σ13 := by rw [eσ13]; exact MIs_f14 mσ12 (by omega) (by omega)
                  have fσ13 : Fr [74, 120, 121, 122, 123] [14, 15, 24, 25, 26] σ0 σ13 := by rw [eσ13]; exact Fr_si fσ12 (by decide +kernel) (fun _ => by decide +kernel)
                  have k_49 : (gi σ13 74 11).toInt = (gi σ12 74 11).toInt := gk_r eσ13 rfl
                  have k_50 : (gi σ13 74 12).toInt = (gi σ12 74 12).toInt := gk_r eσ13 rfl
                  have k_51 : (gi σ13 74 13).toInt = (gi σ12 74 13).toInt := gk_r eσ13 rfl
                  have k_52 : (gi σ13 74 14).toInt = ((gi σ12 74 14) + (1 : Int32)).toInt := by rw [eσ13]; exact congrArg Int32.toInt gi_si_eq
                  have k_53 : (gi σ13 74 24).toInt = (gi σ12 74 24).toInt := gk_r eσ13 rfl
                  have k_54 : (gi σ13 74 25).toInt = (gi σ12 74 25).toInt := gk_r eσ13 rfl
                  have k_55 : (gi σ13 74 50).toInt = (gi σ12 74 50).toInt := gk_r eσ13 rfl
                  have hB9 : BL σ0 σ13 := by rw [eσ13]; exact BL_si (by first | with_reducible assumption | assumption) (by decide +kernel)
                  have hK9 : K120 σ0 σ13 x1.toNatClampNeg := by rw [eσ13]; first | exact K120_si (by first | with_reducible assumption | assumption) (by decide +kernel) | exact K120_to (by first | with_reducible assumption | assumption)
                  try have hT9 : TI σ0 σ13 1 := by first | exact TI_eq (σ := σ12) (by first | with_reducible assumption | assumption) (by omega) (by omega) (fun k => by rw [eσ13, gi_si_ne (Or.inl (by decide +kernel))]) (fun k => by rw [eσ13, gi_si_ne (Or.inl (by decide +kernel))]) | exact TI_pop (σ := σ12) (by first | with_reducible assumption | assumption) (by omega) (by first | with_reducible assumption | assumption) (by omega) (by omega) (by omega) (fun k => by rw [eσ13, gi_si_ne (Or.inl (by decide +kernel))]) (fun k => by rw [eσ13, gi_si_ne (Or.inl (by decide +kernel))])
                  refine kF_X12_whole mσ13 (by first | with_reducible assumption | with_reducible rfl | omega | assumption | rfl) (by first | with_reducible assumption | with_reducible rfl | omega | assumption | rfl) (by first | with_reducible assumption | with_reducible rfl | omega | assumption | rfl) (by first | with_reducible assumption | with_reducible rfl | omega | assumption | rfl) (fun σ14 mσ14 cσ14 (pσ14_0 : HK σ13 σ14) (pσ14_1 : (gi σ14 74 24).toInt + (gi σ14 74 25).toInt = (gi σ13 74 24).toInt + (gi σ13 74 25).toInt) (pσ14_2 : (gi σ14 74 25).toInt ≤ (gi σ13 74 25).toInt) (pσ14_3 : nbw σ14 (gi σ14 74 25).toNatClampNeg = nbw σ13 (gi σ13 74 25).toNatClampNeg) (pσ14_4 : BL σ13 σ14) (pσ14_5 : (gi σ13 74 24).toInt ≤ (gi σ14 74 24).toInt) hσ14 => ?_)
                  replace H := f_v hσ14 H
                  have fσ14 : Fr [74, 120, 121, 122, 123] [14, 15, 24, 25, 26] σ0 σ14 := Fr_tr fσ13 cσ14 (by decide +kernel) (by decide +kernel)
                  have k_56 : (gi σ14 74 11).toInt = (gi σ13 74 11).toInt := congrArg Int32.toInt (cσ14.2.1 11 (by decide +kernel))
                  have k_57 : (gi σ14 74 12).toInt = (gi σ13 74 12).toInt := congrArg Int32.toInt (cσ14.2.1 12 (by decide +kernel))
                  have k_58 : (gi σ14 74 13).toInt = (gi σ13 74 13).toInt := congrArg Int32.toInt (cσ14.2.1 13 (by decide +kernel))
                  have k_59 : (gi σ14 74 14).toInt = (gi σ13 74 14).toInt := congrArg Int32.toInt (cσ14.2.1 14 (by decide +kernel))
                  have k_60 : (gi σ14 74 50).toInt = (gi σ13 74 50).toInt := congrArg Int32.toInt (cσ14.2.1 50 (by decide +kernel))
                  have hK9 : K120 σ0 σ14 x1.toNatClampNeg := K120_fr (by first | with_reducible assumption | assumption) cσ14 (by decide +kernel) (by decide +kernel)
                  have hB9 : BL σ0 σ14 := BL_tr (by first | with_reducible assumption | assumption) pσ14_4 (by omega)
                  have hT9 : TI σ0 σ14 1 := TI_whole (σ := σ13) (by first | with_reducible assumption | assumption) pσ14_0 pσ14_3
                  exact ih22 x1 x2 σ14 mσ14 fσ14 (by omega) (by omega) (by first | with_reducible assumption | with_reducible rfl | omega | assumption | rfl) (by first | with_reducible assumption | with_reducible rfl | omega | assumption | rfl) (by first | with_reducible assumption | with_reducible rfl | omega | assumption | rfl) (by first | with_reducible assumption | with_reducible rfl | omega | assumption | rfl) (by first | with_reducible assumption | with_reducible rfl | omega | assumption | rfl) (by first | with_reducible assumption | with_reducible rfl | omega | assumption | rfl) (by first | with_reducible assumption | with_reducible rfl | omega | assumption | rfl) (by first | with_reducible assumption | with_reducible rfl | omega | assumption | rfl) (by first | with_reducible assumption | with_reducible rfl | omega | assumption | rfl) (by first | with_reducible assumption | with_reducible rfl | omega | assumption | rfl) (by first | assumption | exact K120_mk eσ1 eσ2 eσ4) (by first | with_reducible assumption | with_reducible rfl | omega | assumption | rfl) (by first | with_reducible assumption | with_reducible rfl | omega | assumption | rfl) (by first | with_reducible assumption | with_reducible rfl | omega | assumption | rfl) (by first | exact TW_0 (by first | with_reducible assumption | assumption) (by first | with_reducible assumption | assumption) | exact TW_0 rfl (by first | with_reducible assumption | assumption) | exact TW_1 (by decide +kernel) (TI_start (by omega) (by omega)) | exact TW_1 (by decide +kernel) (@TI_push σ0 σ1 σ5 1 0 x3 (by first | with_reducible assumption | assumption) (by omega) (by omega) (by omega) (fun k => by rw [eσ5, gi_si_ne (Or.inl (by decide +kernel)), eσ4, gi_si_ne (Or.inl (by decide +kernel)), eσ3, gi_si_ne (Or.inl (by decide +kernel))]) (fun k hk => by rw [eσ5, gi_si_ne (Or.inl (by decide +kernel)), eσ4, gi_si_ne (Or.inl (by decide +kernel)), eσ3, gi_si_ne (Or.inr hk)]) (by rw [eσ5, gi_si_ne (Or.inl (by decide +kernel)), eσ4, gi_si_ne (Or.inl (by decide +kernel)), eσ3, gi_si_eq]) (Or.inl ⟨by assumption, rfl⟩)) | exact TW_1 (by first | with_reducible assumption | assumption) (@TI_push σ0 σ σ6 0 0 x3 (by first | with_reducible assumption | assumption) (by omega) (by omega) (by omega) (fun k => by rw [eσ6, gi_si_ne (Or.inl (by decide +kernel)), eσ5, gi_si_ne (Or.inl (by decide +kernel)), eσ4, gi_si_ne (Or.inl (by decide +kernel)), eσ2, gi_si_ne (Or.inl (by decide +kernel))]) (fun k hk => by rw [eσ6, gi_si_ne (Or.inl (by decide +kernel)), eσ5, gi_si_ne (Or.inl (by decide +kernel)), eσ4, show gi σ2 74 25 = gi σ 74 25 from by rw [eσ2, gi_si_ne (Or.inr (by decide +kernel))], gi_si_ne (Or.inr hk), eσ2, gi_si_ne (Or.inl (by decide +kernel))]) (by rw [eσ6, gi_si_ne (Or.inl (by decide +kernel)), eσ5, gi_si_ne (Or.inl (by decide +kernel)), eσ4, show gi σ2 74 25 = gi σ 74 25 from by rw [eσ2, gi_si_ne (Or.inr (by decide +kernel))], gi_si_eq]) (Or.inr ⟨by rcases i17 with z | z <;> rw [z] <;> decide, rfl⟩))) H (by omega)
                · intro q_30
                  replace H := f_f q_30 H
                  have b_61 : ¬ r2.toInt = 41 := fun h9 => q_30 (Int32.toInt_inj.mp h9)
                  have z_62 : (0 : Int32).toInt = 0 := rfl
                  exact h9ret (0 : Int32) σ8 mσ8 fσ8 (by omega) (by omega) (by first | with_reducible assumption | with_reducible rfl | omega | assumption | rfl) (by first | with_reducible assumption | with_reducible rfl | omega | assumption | rfl) (by first | with_reducible assumption | with_reducible rfl | omega | assumption | rfl) (by first | exact fun z => absurd z (by decide +kernel) | exact fun _ => by rw [← i0n]; exact TE_mk (by first | with_reducible assumption | assumption) (by omega) (by first | with_reducible assumption | assumption) (by first | with_reducible assumption | assumption) (by rw [eσ8, gi_si_eq, gi_si_ne (Or.inl (by decide +kernel))])) (H0.trans H.symm)
              · intro q_27
                replace H := f_t q_27 H
                have t_63 := MI_f25 mσ8
                have b_64 : (gi σ8 74 25).toInt = 0 := congrArg Int32.toInt q_27
                have z_65 : (1 : Int32).toInt = 1 := rfl
                exact h9ret (1 : Int32) σ8 mσ8 fσ8 (by omega) (by omega) (by first | with_reducible assumption | with_reducible rfl | omega | assumption | rfl) (by first | with_reducible assumption | with_reducible rfl | omega | assumption | rfl) (by first | with_reducible assumption | with_reducible rfl | omega | assumption | rfl) (by first | exact fun z => absurd z (by decide +kernel) | exact fun _ => by rw [← i0n]; exact TE_mk (by first | with_reducible assumption | assumption) (by omega) (by first | with_reducible assumption | assumption) (by first | with_reducible assumption | assumption) (by rw [eσ8, gi_si_eq, gi_si_ne (Or.inl (by decide +kernel))])) (H0.trans H.symm)
            · intro q_12
              replace H := f_t q_12 H
              have b_66 : r2.toInt = 124 := congrArg Int32.toInt q_12
              exact ih122 x1 r2 σ mσ fσ (by omega) (by omega) (by first | with_reducible assumption | with_reducible rfl | omega | assumption | rfl) (by first | with_reducible assumption | with_reducible rfl | omega | assumption | rfl) (by first | with_reducible assumption | with_reducible rfl | omega | assumption | rfl) (by first | with_reducible assumption | with_reducible rfl | omega | assumption | rfl) (by first | with_reducible assumption | with_reducible rfl | omega | assumption | rfl) (by first | with_reducible assumption | with_reducible rfl | omega | assumption | rfl) (by first | with_reducible assumption | with_reducible rfl | omega | assumption | rfl) (by first | with_reducible assumption | with_reducible rfl | omega | assumption | rfl) (by first | with_reducible assumption | with_reducible rfl | omega | assumption | rfl) (by first | with_reducible assumption | with_reducible rfl | omega | assumption | rfl) (by first | with_reducible assumption | with_reducible rfl | omega | assumption | rfl) (by first | with_reducible assumption | with_reducible rfl | omega | assumption | rfl) (by first | with_reducible assumption | with_reducible rfl | omega | assumption | rfl) (by first | with_reducible assumption | with_reducible rfl | omega | assumption | rfl) (by first | with_reducible assumption | with_reducible rfl | omega | assumption | rfl) (by first | with_reducible assumption | with_reducible rfl | omega | assumption | rfl) (by first | exact Or.inl (by first | with_reducible assumption | assumption) | exact Or.inr (by first | with_reducible assumption | assumption)) H (by omega)
        · intro q_1
          replace H := f_f q_1 H
          have w_67 := Int32.toInt_lt x2
          have w_68 := Int32.le_toInt x2
          have b_69 : ¬ x2.toInt = 0 := fun h9 => q_1 (Int32.toInt_inj.mp h9)
          have hT9 : TI σ0 σ 0 := i14.2 q_1
          refine ⟨?_, ?_⟩
          · intro q_70
            replace H := f_t q_70 H
            have w_71 := Int32.toInt_lt r2
            have w_72 := Int32.le_toInt r2
            have b_73 : r2.toInt = 33 := congrArg Int32.toInt q_70
            exact ih43 x1 x2 r2 σ mσ fσ (by omega) (by omega) (by first | with_reducible assumption | with_reducible rfl | omega | assumption | rfl) (by first | with_reducible assumption | with_reducible rfl | omega | assumption | rfl) (by first | with_reducible assumption | with_reducible rfl | omega | assumption | rfl) (by first | with_reducible assumption | with_reducible rfl | omega | assumption | rfl) (by first | with_reducible assumption | with_reducible rfl | omega | assumption | rfl) (by first | with_reducible assumption | with_reducible rfl | omega | assumption | rfl) (by first | with_reducible assumption | with_reducible rfl | omega | assumption | rfl) (by first | with_reducible assumption | with_reducible rfl | omega | assumption | rfl) (by first | with_reducible assumption | with_reducible rfl | omega | assumption | rfl) (by first | with_reducible assumption | with_reducible rfl | omega | assumption | rfl) (by first | with_reducible assumption | with_reducible rfl | omega | assumption | rfl) (by first | with_reducible assumption | with_reducible rfl | omega | assumption | rfl) (by first | with_reducible assumption | with_reducible rfl | omega | assumption | rfl) (by first | with_reducible assumption | with_reducible rfl | omega | assumption | rfl) (by first | with_reducible assumption | with_reducible rfl | omega | assumption | rfl) (by first | with_reducible assumption | with_reducible rfl | omega | assumption | rfl) (by first | with_reducible assumption | with_reducible rfl | omega | assumption | rfl) (by first | exact Or.inl (by first | with_reducible assumption | assumption) | exact Or.inr (by first | with_reducible assumption | assumption)) H (by omega)
          · intro q_70
            replace H := f_f q_70 H
            have w_74 := Int32.toInt_lt r2
            have w_75 := Int32.le_toInt r2
            have b_76 : ¬ r2.toInt = 33 := fun h9 => q_70 (Int32.toInt_inj.mp h9)
            refine ⟨?_, ?_⟩
            · intro q_77
              replace H := f_f q_77 H
              have b_78 : ¬ r2.toInt = 40 := fun h9 => q_77 (Int32.toInt_inj.mp h9)
              refine kF_X12_takesTest mσ (by first | with_reducible assumption | with_reducible rfl | omega | assumption | rfl) (by first | with_reducible assumption | with_reducible rfl | omega | assumption | rfl) (by first | with_reducible assumption | with_reducible rfl | omega | assumption | rfl) (by first | with_reducible assumption | with_reducible rfl | omega | assumption | rfl) (by first | with_reducible assumption | with_reducible rfl | omega | assumption | rfl) (by first | with_reducible assumption | with_reducible rfl | omega | assumption | rfl) (fun r18 σ17 mσ17 cσ17 plσ17 phσ17 (pσ17_0 : (gi σ 74 14).toInt ≤ (gi σ17 74 14).toInt) (pσ17_1 : (gi σ17 74 14).toInt ≤ (gi σ 74 13).toInt) (pσ17_2 : (r18.toInt = 1 ∧ (gi σ 74 14).toInt + 2 ≤ (gi σ17 74 14).toInt ∧ (gi σ17 74 24).toInt + (gi σ17 74 25).toInt = (gi σ 74 24).toInt + (gi σ 74 25).toInt + 1 ∧ (gi σ17 74 25).toInt ≤ (gi σ 74 25).toInt) ∨ r18.toInt = 0) (pσ17_3 : hid (r18.toInt = 1 → HT σ σ17 ∧ nbw σ17 (gi σ17 74 25).toNatClampNeg = nbw σ (gi σ 74 25).toNatClampNeg ∧ BL σ σ17)) hσ17 => ?_)
              replace H := f_b hσ17 H
              have fσ17 : Fr [74, 120, 121, 122, 123] [14, 15, 24, 25, 26] σ0 σ17 := Fr_tr fσ cσ17 (by decide +kernel) (by decide +kernel)
              have k_79 : (gi σ17 74 11).toInt = (gi σ 74 11).toInt := congrArg Int32.toInt (cσ17.2.1 11 (by decide +kernel))
              have k_80 : (gi σ17 74 12).toInt = (gi σ 74 12).toInt := congrArg Int32.toInt (cσ17.2.1 12 (by decide +kernel))
              have k_81 : (gi σ17 74 13).toInt = (gi σ 74 13).toInt := congrArg Int32.toInt (cσ17.2.1 13 (by decide +kernel))
              have k_82 : (gi σ17 74 50).toInt = (gi σ 74 50).toInt := congrArg Int32.toInt (cσ17.2.1 50 (by decide +kernel))
              have hK9 : K120 σ0 σ17 x1.toNatClampNeg := K120_fr (by first | with_reducible assumption | assumption) cσ17 (by decide +kernel) (by decide +kernel)
              refine ⟨?_, ?_⟩
              · intro q_83
                replace H := f_t q_83 H
                have b_84 : r18.toInt = 0 := congrArg Int32.toInt q_83
                have z_85 : (0 : Int32).toInt = 0 := rfl
                exact h9ret (0 : Int32) σ17 mσ17 fσ17 (by omega) (by omega) (by first | with_reducible assumption | with_reducible rfl | omega | assumption | rfl) (by first | with_reducible assumption | with_reducible rfl | omega | assumption | rfl) (by first | with_reducible assumption | with_reducible rfl | omega | assumption | rfl) (by first | exact fun z => absurd z (by decide +kernel) | exact fun _ => by rw [← i0n]; exact TE_mk (by first | with_reducible assumption | assumption) (by omega) (by first | with_reducible assumption | assumption) (by first | with_reducible assumption | assumption) (by rw [eσ8, gi_si_eq, gi_si_ne (Or.inl (by decide +kernel))])) (H0.trans H.symm)
              · intro q_83
                replace H := f_f q_83 H
                have b_86 : ¬ r18.toInt = 0 := fun h9 => q_83 (Int32.toInt_inj.mp h9)
                obtain ⟨p9a, p9b, p9c⟩ := un pσ17_3 (by omega)
                have hB9 : BL σ0 σ17 := BL_tr (by first | with_reducible assumption | assumption) p9c (by omega)
                have hT9 : TI σ0 σ17 1 := TI_test (by first | with_reducible assumption | assumption) p9a p9b (by omega) (by omega)
                have z_87 : (0 : Int32).toInt = 0 := rfl
                exact ih22 x1 (0 : Int32) σ17 mσ17 fσ17 (by omega) (by omega) (by first | with_reducible assumption | with_reducible rfl | omega | assumption | rfl) (by first | with_reducible assumption | with_reducible rfl | omega | assumption | rfl) (by first | with_reducible assumption | with_reducible rfl | omega | assumption | rfl) (by first | with_reducible assumption | with_reducible rfl | omega | assumption | rfl) (by first | with_reducible assumption | with_reducible rfl | omega | assumption | rfl) (by first | with_reducible assumption | with_reducible rfl | omega | assumption | rfl) (by first | with_reducible assumption | with_reducible rfl | omega | assumption | rfl) (by first | with_reducible assumption | with_reducible rfl | omega | assumption | rfl) (by first | with_reducible assumption | with_reducible rfl | omega | assumption | rfl) (by first | with_reducible assumption | with_reducible rfl | omega | assumption | rfl) (by first | assumption | exact K120_mk eσ1 eσ2 eσ4) (by first | with_reducible assumption | with_reducible rfl | omega | assumption | rfl) (by first | with_reducible assumption | with_reducible rfl | omega | assumption | rfl) (by first | with_reducible assumption | with_reducible rfl | omega | assumption | rfl) (by first | exact TW_0 (by first | with_reducible assumption | assumption) (by first | with_reducible assumption | assumption) | exact TW_0 rfl (by first | with_reducible assumption | assumption) | exact TW_1 (by decide +kernel) (TI_start (by omega) (by omega)) | exact TW_1 (by decide +kernel) (@TI_push σ0 σ1 σ5 1 0 x3 (by first | with_reducible assumption | assumption) (by omega) (by omega) (by omega) (fun k => by rw [eσ5, gi_si_ne (Or.inl (by decide +kernel)), eσ4, gi_si_ne (Or.inl (by decide +kernel)), eσ3, gi_si_ne (Or.inl (by decide +kernel))]) (fun k hk => by rw [eσ5, gi_si_ne (Or.inl (by decide +kernel)), eσ4, gi_si_ne (Or.inl (by decide +kernel)), eσ3, gi_si_ne (Or.inr hk)]) (by rw [eσ5, gi_si_ne (Or.inl (by decide +kernel)), eσ4, gi_si_ne (Or.inl (by decide +kernel)), eσ3, gi_si_eq]) (Or.inl ⟨by assumption, rfl⟩)) | exact TW_1 (by first | with_reducible assumption | assumption) (@TI_push σ0 σ σ6 0 0 x3 (by first | with_reducible assumption | assumption) (by omega) (by omega) (by omega) (fun k => by rw [eσ6, gi_si_ne (Or.inl (by decide +kernel)), eσ5, gi_si_ne (Or.inl (by decide +kernel)), eσ4, gi_si_ne (Or.inl (by decide +kernel)), eσ2, gi_si_ne (Or.inl (by decide +kernel))]) (fun k hk => by rw [eσ6, gi_si_ne (Or.inl (by decide +kernel)), eσ5, gi_si_ne (Or.inl (by decide +kernel)), eσ4, show gi σ2 74 25 = gi σ 74 25 from by rw [eσ2, gi_si_ne (Or.inr (by decide +kernel))], gi_si_ne (Or.inr hk), eσ2, gi_si_ne (Or.inl (by decide +kernel))]) (by rw [eσ6, gi_si_ne (Or.inl (by decide +kernel)), eσ5, gi_si_ne (Or.inl (by decide +kernel)), eσ4, show gi σ2 74 25 = gi σ 74 25 from by rw [eσ2, gi_si_ne (Or.inr (by decide +kernel))], gi_si_eq]) (Or.inr ⟨by rcases i17 with z | z <;> rw [z] <;> decide, rfl⟩))) H (by omega)
            · intro q_77
              replace H := f_t q_77 H
              have b_88 : r2.toInt = 40 := congrArg Int32.toInt q_77
              exact ih43 x1 x2 r2 σ mσ fσ (by omega) (by omega) (by first | with_reducible assumption | with_reducible rfl | omega | assumption | rfl) (by first | with_reducible assumption | with_reducible rfl | omega | assumption | rfl) (by first | with_reducible assumption | with_reducible rfl | omega | assumption | rfl) (by first | with_reducible assumption | with_reducible rfl | omega | assumption | rfl) (by first | with_reducible assumption | with_reducible rfl | omega | assumption | rfl) (by first | with_reducible assumption | with_reducible rfl | omega | assumption | rfl) (by first | with_reducible assumption | with_reducible rfl | omega | assumption | rfl) (by first | with_reducible assumption | with_reducible rfl | omega | assumption | rfl) (by first | with_reducible assumption | with_reducible rfl | omega | assumption | rfl) (by first | with_reducible assumption | with_reducible rfl | omega | assumption | rfl) (by first | with_reducible assumption | with_reducible rfl | omega | assumption | rfl) (by first | with_reducible assumption | with_reducible rfl | omega | assumption | rfl) (by first | with_reducible assumption | with_reducible rfl | omega | assumption | rfl) (by first | with_reducible assumption | with_reducible rfl | omega | assumption | rfl) (by first | with_reducible assumption | with_reducible rfl | omega | assumption | rfl) (by first | with_reducible assumption | with_reducible rfl | omega | assumption | rfl) (by first | with_reducible assumption | with_reducible rfl | omega | assumption | rfl) (by first | exact Or.inl (by first | with_reducible assumption | assumption) | exact Or.inr (by first | with_reducible assumption | assumption)) H (by omega)
      · intro x1 x3 σ mσ fσ lx1 ux1 i0 i1 i2 i3 i4 i5 i6 i7 i8 i9 i10 i11 i12 i13 i14 i15 i16 H hmu
        replace H : LB_X12_takesE_122 (LF_X12_takesE n) x1 x3 σ = R9 := H
        unfold LB_X12_takesE_122 at H
        have mw24 := MI_f24 mσ
        have mw25 := MI_f25 mσ
        have mw13 := MI_f13 mσ
        have e_x1 := cl_eq (x := x1) (by omega)
        have i0n : x1.toNatClampNeg = a1.toNatClampNeg := by rw [i0]
        refine s_X12_takesE_122 C hN ?_
        refine kF_X12_settle mσ (by first | with_reducible assumption | with_reducible rfl | omega | assumption | rfl) (by first | with_reducible assumption | with_reducible rfl | omega | assumption | rfl) (by first | with_reducible assumption | with_reducible rfl | omega | assumption | rfl) (by first | with_reducible assumption | with_reducible rfl | omega | assumption | rfl) (fun σ1 mσ1 cσ1 (pσ1_0 : HS σ σ1) (pσ1_1 : (gi σ1 74 24).toInt + (gi σ1 74 25).toInt = (gi σ 74 24).toInt + (gi σ 74 25).toInt) (pσ1_2 : (gi σ1 74 25).toInt ≤ (gi σ 74 25).toInt) (pσ1_3 : nbw σ1 (gi σ1 74 25).toNatClampNeg = nbw σ (gi σ1 74 25).toNatClampNeg) (pσ1_4 : (gi σ1 74 25).toInt = 0 ∨ (¬ gi σ1 123 ((gi σ1 74 25) - (1 : Int32)).toNatClampNeg = 38 ∧ (¬ x3 = 38 → ¬ gi σ1 123 ((gi σ1 74 25) - (1 : Int32)).toNatClampNeg = 124))) (pσ1_5 : BL σ σ1) (pσ1_6 : (gi σ 74 24).toInt ≤ (gi σ1 74 24).toInt) hσ1 => ?_)
        replace H := f_v hσ1 H
        have fσ1 : Fr [74, 120, 121, 122, 123] [14, 15, 24, 25, 26] σ0 σ1 := Fr_tr fσ cσ1 (by decide +kernel) (by decide +kernel)
        have k_89 : (gi σ1 74 11).toInt = (gi σ 74 11).toInt := congrArg Int32.toInt (cσ1.2.1 11 (by decide +kernel))
        have k_90 : (gi σ1 74 12).toInt = (gi σ 74 12).toInt := congrArg Int32.toInt (cσ1.2.1 12 (by decide +kernel))
        have k_91 : (gi σ1 74 13).toInt = (gi σ 74 13).toInt := congrArg Int32.toInt (cσ1.2.1 13 (by decide +kernel))
        have k_92 : (gi σ1 74 14).toInt = (gi σ 74 14).toInt := congrArg Int32.toInt (cσ1.2.1 14 (by decide +kernel))
        have k_93 : (gi σ1 74 50).toInt = (gi σ 74 50).toInt := congrArg Int32.toInt (cσ1.2.1 50 (by decide +kernel))
        have hK9 : K120 σ0 σ1 x1.toNatClampNeg := K120_fr (by first | with_reducible assumption | assumption) cσ1 (by decide +kernel) (by decide +kernel)
        have hB9 : BL σ0 σ1 := BL_tr (by first | with_reducible assumption | assumption) pσ1_5 (by omega)
        have hT9 : TI σ0 σ1 1 := TI_settle (σ := σ) (by first | with_reducible assumption | assumption) pσ1_0 pσ1_3
        have t_94 := MI_f25 mσ1
        have hv_95 : vp_in (gi σ1 74 25) 101 := vp_in_iff.mpr ⟨by omega, by omega⟩
        refine ⟨hv_95, ?_⟩
        intro σ3 eσ3
        replace H := f_l eσ3 H
        have mσ3 : MI σ3 := by rw [eσ3]; exact MIs_au (a := 123) mσ1 rfl rfl
        have fσ3 : Fr [74, 120, 121, 122, 123] [14, 15, 24, 25, 26] σ0 σ3 := by rw [eσ3]; exact Fr_si fσ1 (by decide +kernel) (fun h9 => absurd h9 (by decide +kernel))
        have k_96 : (gi σ3 74 11).toInt = (gi σ1 74 11).toInt := gk_l eσ3 rfl
        have k_97 : (gi σ3 74 12).toInt = (gi σ1 74 12).toInt := gk_l eσ3 rfl
        have k_98 : (gi σ3 74 13).toInt = (gi σ1 74 13).toInt := gk_l eσ3 rfl
        have k_99 : (gi σ3 74 14).toInt = (gi σ1 74 14).toInt := gk_l eσ3 rfl
        have k_100 : (gi σ3 74 24).toInt = (gi σ1 74 24).toInt := gk_l eσ3 rfl
        have k_101 : (gi σ3 74 25).toInt = (gi σ1 74 25).toInt := gk_l eσ3 rfl
        have k_102 : (gi σ3 74 50).toInt = (gi σ1 74 50).toInt := gk_l eσ3 rfl
        have hB9 : BL σ0 σ3 := by rw [eσ3]; exact BL_si (by first | with_reducible assumption | assumption) (by decide +kernel)
        have hK9 : K120 σ0 σ3 x1.toNatClampNeg := by rw [eσ3]; first | exact K120_si (by first | with_reducible assumption | assumption) (by decide +kernel) | exact K120_to (by first | with_reducible assumption | assumption)
        try have hT9 : TI σ0 σ3 1 := by first | exact TI_eq (σ := σ1) (by first | with_reducible assumption | assumption) (by omega) (by omega) (fun k => by rw [eσ3, gi_si_ne (Or.inl (by decide +kernel))]) (fun k => by rw [eσ3, gi_si_ne (Or.inl (by decide +kernel))]) | exact TI_pop (σ := σ1) (by first | with_reducible assumption | assumption) (by omega) (by first | with_reducible assumption | assumption) (by omega) (by omega) (by omega) (fun k => by rw [eσ3, gi_si_ne (Or.inl (by decide +kernel))]) (fun k => by rw [eσ3, gi_si_ne (Or.inl (by decide +kernel))])
        intro σ4 eσ4
        replace H := f_l eσ4 H
        have t_103 := MI_f25 mσ3
        have t_104 : ((gi σ3 74 25) + (1 : Int32)).toInt = (gi σ3 74 25).toInt + 1 := i_add (x := (gi σ3 74 25)) (y := (1 : Int32)) (by show (_ : Int) ≤ (gi σ3 74 25).toInt + 1; omega) (by show (gi σ3 74 25).toInt + 1 ≤ (_ : Int); omega)
        have mσ4 : MI σ4 := by rw [eσ4]; exact MIs_f25 mσ3 (by omega) (by omega)
        have fσ4 : Fr [74, 120, 121, 122, 123] [14, 15, 24, 25, 26] σ0 σ4 := by rw [eσ4]; exact Fr_si fσ3 (by decide +kernel) (fun _ => by decide +kernel)
        have k_105 : (gi σ4 74 11).toInt = (gi σ3 74 11).toInt := gk_r eσ4 rfl
        have k_106 : (gi σ4 74 12).toInt = (gi σ3 74 12).toInt := gk_r eσ4 rfl
        have k_107 : (gi σ4 74 13).toInt = (gi σ3 74 13).toInt := gk_r eσ4 rfl
        have k_108 : (gi σ4 74 14).toInt = (gi σ3 74 14).toInt := gk_r eσ4 rfl
        have k_109 : (gi σ4 74 24).toInt = (gi σ3 74 24).toInt := gk_r eσ4 rfl
        have k_110 : (gi σ4 74 25).toInt = ((gi σ3 74 25) + (1 : Int32)).toInt := by rw [eσ4]; exact congrArg Int32.toInt gi_si_eq
        have k_111 : (gi σ4 74 50).toInt = (gi σ3 74 50).toInt := gk_r eσ4 rfl
        have hB9 : BL σ0 σ4 := by rw [eσ4]; exact BL_si (by first | with_reducible assumption | assumption) (by decide +kernel)
        have hK9 : K120 σ0 σ4 x1.toNatClampNeg := by rw [eσ4]; first | exact K120_si (by first | with_reducible assumption | assumption) (by decide +kernel) | exact K120_to (by first | with_reducible assumption | assumption)
        try have hT9 : TI σ0 σ4 1 := by first | exact TI_eq (σ := σ3) (by first | with_reducible assumption | assumption) (by omega) (by omega) (fun k => by rw [eσ4, gi_si_ne (Or.inl (by decide +kernel))]) (fun k => by rw [eσ4, gi_si_ne (Or.inl (by decide +kernel))]) | exact TI_pop (σ := σ3) (by first | with_reducible assumption | assumption) (by omega) (by first | with_reducible assumption | assumption) (by omega) (by omega) (by omega) (fun k => by rw [eσ4, gi_si_ne (Or.inl (by decide +kernel))]) (fun k => by rw [eσ4, gi_si_ne (Or.inl (by decide +kernel))])
        intro σ5 eσ5
        replace H := f_l eσ5 H
        have t_112 := MI_f14 mσ4
        have t_113 : ((gi σ4 74 14) + (1 : Int32)).toInt = (gi σ4 74 14).toInt + 1 := i_add (x := (gi σ4 74 14)) (y := (1 : Int32)) (by show (_ : Int) ≤ (gi σ4 74 14).toInt + 1; omega) (by show (gi σ4 74 14).toInt + 1 ≤ (_ : Int); omega)
        have mσ5 : MI σ5 := by rw [eσ5]; exact MIs_f14 mσ4 (by omega) (by omega)
        have fσ5 : Fr [74, 120, 121, 122, 123] [14, 15, 24, 25, 26] σ0 σ5 := by rw [eσ5]; exact Fr_si fσ4 (by decide +kernel) (fun _ => by decide +kernel)
        have k_114 : (gi σ5 74 11).toInt = (gi σ4 74 11).toInt := gk_r eσ5 rfl
        have k_115 : (gi σ5 74 12).toInt = (gi σ4 74 12).toInt := gk_r eσ5 rfl
        have k_116 : (gi σ5 74 13).toInt = (gi σ4 74 13).toInt := gk_r eσ5 rfl
        have k_117 : (gi σ5 74 14).toInt = ((gi σ4 74 14) + (1 : Int32)).toInt := by rw [eσ5]; exact congrArg Int32.toInt gi_si_eq
        have k_118 : (gi σ5 74 24).toInt = (gi σ4 74 24).toInt := gk_r eσ5 rfl
        have k_119 : (gi σ5 74 25).toInt = (gi σ4 74 25).toInt := gk_r eσ5 rfl
        have k_120 : (gi σ5 74 50).toInt = (gi σ4 74 50).toInt := gk_r eσ5 rfl
        have hB9 : BL σ0 σ5 := by rw [eσ5]; exact BL_si (by first | with_reducible assumption | assumption) (by decide +kernel)
        have hK9 : K120 σ0 σ5 x1.toNatClampNeg := by rw [eσ5]; first | exact K120_si (by first | with_reducible assumption | assumption) (by decide +kernel) | exact K120_to (by first | with_reducible assumption | assumption)
        try have hT9 : TI σ0 σ5 1 := by first | exact TI_eq (σ := σ4) (by first | with_reducible assumption | assumption) (by omega) (by omega) (fun k => by rw [eσ5, gi_si_ne (Or.inl (by decide +kernel))]) (fun k => by rw [eσ5, gi_si_ne (Or.inl (by decide +kernel))]) | exact TI_pop (σ := σ4) (by first | with_reducible assumption | assumption) (by omega) (by first | with_reducible assumption | assumption) (by omega) (by omega) (by omega) (fun k => by rw [eσ5, gi_si_ne (Or.inl (by decide +kernel))]) (fun k => by rw [eσ5, gi_si_ne (Or.inl (by decide +kernel))])
        have z_121 : (1 : Int32).toInt = 1 := rfl
        exact ih22 x1 (1 : Int32) σ5 mσ5 fσ5 (by omega) (by omega) (by first | with_reducible assumption | with_reducible rfl | omega | assumption | rfl) (by first | with_reducible assumption | with_reducible rfl | omega | assumption | rfl) (by first | with_reducible assumption | with_reducible rfl | omega | assumption | rfl) (by first | with_reducible assumption | with_reducible rfl | omega | assumption | rfl) (by first | with_reducible assumption | with_reducible rfl | omega | assumption | rfl) (by first | with_reducible assumption | with_reducible rfl | omega | assumption | rfl) (by first | with_reducible assumption | with_reducible rfl | omega | assumption | rfl) (by first | with_reducible assumption | with_reducible rfl | omega | assumption | rfl) (by first | with_reducible assumption | with_reducible rfl | omega | assumption | rfl) (by first | with_reducible assumption | with_reducible rfl | omega | assumption | rfl) (by first | assumption | exact K120_mk eσ1 eσ2 eσ4) (by first | with_reducible assumption | with_reducible rfl | omega | assumption | rfl) (by first | with_reducible assumption | with_reducible rfl | omega | assumption | rfl) (by first | with_reducible assumption | with_reducible rfl | omega | assumption | rfl) (by first | exact TW_0 (by first | with_reducible assumption | assumption) (by first | with_reducible assumption | assumption) | exact TW_0 rfl (by first | with_reducible assumption | assumption) | exact TW_1 (by decide +kernel) (TI_start (by omega) (by omega)) | exact TW_1 (by decide +kernel) (@TI_push σ0 σ1 σ5 1 0 x3 (by first | with_reducible assumption | assumption) (by omega) (by omega) (by omega) (fun k => by rw [eσ5, gi_si_ne (Or.inl (by decide +kernel)), eσ4, gi_si_ne (Or.inl (by decide +kernel)), eσ3, gi_si_ne (Or.inl (by decide +kernel))]) (fun k hk => by rw [eσ5, gi_si_ne (Or.inl (by decide +kernel)), eσ4, gi_si_ne (Or.inl (by decide +kernel)), eσ3, gi_si_ne (Or.inr hk)]) (by rw [eσ5, gi_si_ne (Or.inl (by decide +kernel)), eσ4, gi_si_ne (Or.inl (by decide +kernel)), eσ3, gi_si_eq]) (Or.inl ⟨by assumption, rfl⟩)) | exact TW_1 (by first | with_reducible assumption | assumption) (@TI_push σ0 σ σ6 0 0 x3 (by first | with_reducible assumption | assumption) (by omega) (by omega) (by omega) (fun k => by rw [eσ6, gi_si_ne (Or.inl (by decide +kernel)), eσ5, gi_si_ne (Or.inl (by decide +kernel)), eσ4, gi_si_ne (Or.inl (by decide +kernel)), eσ2, gi_si_ne (Or.inl (by decide +kernel))]) (fun k hk => by rw [eσ6, gi_si_ne (Or.inl (by decide +kernel)), eσ5, gi_si_ne (Or.inl (by decide +kernel)), eσ4, show gi σ2 74 25 = gi σ 74 25 from by rw [eσ2, gi_si_ne (Or.inr (by decide +kernel))], gi_si_ne (Or.inr hk), eσ2, gi_si_ne (Or.inl (by decide +kernel))]) (by rw [eσ6, gi_si_ne (Or.inl (by decide +kernel)), eσ5, gi_si_ne (Or.inl (by decide +kernel)), eσ4, show gi σ2 74 25 = gi σ 74 25 from by rw [eσ2, gi_si_ne (Or.inr (by decide +kernel))], gi_si_eq]) (Or.inr ⟨by rcases i17 with z | z <;> rw [z] <;> decide, rfl⟩))) H (by omega)
      · intro x1 x2 x3 σ mσ fσ lx1 ux1 i0 i1 i2 i3 i4 i5 i6 i7 i8 i9 i10 i11 i12 i13 i14 i15 i16 i17 H hmu
        replace H : LB_X12_takesE_43 (LF_X12_takesE n) x1 x2 x3 σ = R9 := H
        unfold LB_X12_takesE_43 at H
        have mw24 := MI_f24 mσ
        have mw25 := MI_f25 mσ
        have mw13 := MI_f13 mσ
        have e_x1 := cl_eq (x := x1) (by omega)
        have i0n : x1.toNatClampNeg = a1.toNatClampNeg := by rw [i0]
        refine s_X12_takesE_43 C hN ?_
        refine ⟨?_, ?_⟩
        · intro q_122
          replace H := f_f q_122 H
          have b_123 : ¬ (gi σ 74 26).toInt = 4 := fun h9 => q_122 (Int32.toInt_inj.mp h9)
          intro σ2 eσ2
          replace H := f_l eσ2 H
          have mσ2 : MI σ2 := by rw [eσ2]; exact MIs_fu mσ (by decide +kernel)
          have fσ2 : Fr [74, 120, 121, 122, 123] [14, 15, 24, 25, 26] σ0 σ2 := by rw [eσ2]; exact Fr_si fσ (by decide +kernel) (fun _ => by decide +kernel)
          have k_124 : (gi σ2 74 11).toInt = (gi σ 74 11).toInt := gk_r eσ2 rfl
          have k_125 : (gi σ2 74 12).toInt = (gi σ 74 12).toInt := gk_r eσ2 rfl
          have k_126 : (gi σ2 74 13).toInt = (gi σ 74 13).toInt := gk_r eσ2 rfl
          have k_127 : (gi σ2 74 14).toInt = (gi σ 74 14).toInt := gk_r eσ2 rfl
          have k_128 : (gi σ2 74 24).toInt = (gi σ 74 24).toInt := gk_r eσ2 rfl
          have k_129 : (gi σ2 74 25).toInt = (gi σ 74 25).toInt := gk_r eσ2 rfl
          have k_130 : (gi σ2 74 26).toInt = ((gi σ 74 26) + (1 : Int32)).toInt := by rw [eσ2]; exact congrArg Int32.toInt gi_si_eq
          have k_131 : (gi σ2 74 50).toInt = (gi σ 74 50).toInt := gk_r eσ2 rfl
          have hB9 : BL σ0 σ2 := by rw [eσ2]; exact BL_si (by first | with_reducible assumption | assumption) (by decide +kernel)
          have hK9 : K120 σ0 σ2 x1.toNatClampNeg := by rw [eσ2]; first | exact K120_si (by first | with_reducible assumption | assumption) (by decide +kernel) | exact K120_to (by first | with_reducible assumption | assumption)
          try have hT9 : TI σ0 σ2 1 := by first | exact TI_eq (σ := σ) (by first | with_reducible assumption | assumption) (by omega) (by omega) (fun k => by rw [eσ2, gi_si_ne (Or.inl (by decide +kernel))]) (fun k => by rw [eσ2, gi_si_ne (Or.inl (by decide +kernel))]) | exact TI_pop (σ := σ) (by first | with_reducible assumption | assumption) (by omega) (by first | with_reducible assumption | assumption) (by omega) (by omega) (by omega) (fun k => by rw [eσ2, gi_si_ne (Or.inl (by decide +kernel))]) (fun k => by rw [eσ2, gi_si_ne (Or.inl (by decide +kernel))])
          have t_132 := MI_f25 mσ2
          have hv_133 : vp_in (gi σ2 74 25) 101 := vp_in_iff.mpr ⟨by omega, by omega⟩
          refine ⟨hv_133, ?_⟩
          intro σ4 eσ4
          replace H := f_l eσ4 H
          have mσ4 : MI σ4 := by rw [eσ4]; exact MIs_au (a := 123) mσ2 rfl rfl
          have fσ4 : Fr [74, 120, 121, 122, 123] [14, 15, 24, 25, 26] σ0 σ4 := by rw [eσ4]; exact Fr_si fσ2 (by decide +kernel) (fun h9 => absurd h9 (by decide +kernel))
          have k_134 : (gi σ4 74 11).toInt = (gi σ2 74 11).toInt := gk_l eσ4 rfl
          have k_135 : (gi σ4 74 12).toInt = (gi σ2 74 12).toInt := gk_l eσ4 rfl
          have k_136 : (gi σ4 74 13).toInt = (gi σ2 74 13).toInt := gk_l eσ4 rfl
          have k_137 : (gi σ4 74 14).toInt = (gi σ2 74 14).toInt := gk_l eσ4 rfl
          have k_138 : (gi σ4 74 24).toInt = (gi σ2 74 24).toInt := gk_l eσ4 rfl
          have k_139 : (gi σ4 74 25).toInt = (gi σ2 74 25).toInt := gk_l eσ4 rfl
          have k_140 : (gi σ4 74 26).toInt = (gi σ2 74 26).toInt := gk_l eσ4 rfl
          have k_141 : (gi σ4 74 50).toInt = (gi σ2 74 50).toInt := gk_l eσ4 rfl
          have hB9 : BL σ0 σ4 := by rw [eσ4]; exact BL_si (by first | with_reducible assumption | assumption) (by decide +kernel)
          have hK9 : K120 σ0 σ4 x1.toNatClampNeg := by rw [eσ4]; first | exact K120_si (by first | with_reducible assumption | assumption) (by decide +kernel) | exact K120_to (by first | with_reducible assumption | assumption)
          try have hT9 : TI σ0 σ4 1 := by first | exact TI_eq (σ := σ2) (by first | with_reducible assumption | assumption) (by omega) (by omega) (fun k => by rw [eσ4, gi_si_ne (Or.inl (by decide +kernel))]) (fun k => by rw [eσ4, gi_si_ne (Or.inl (by decide +kernel))]) | exact TI_pop (σ := σ2) (by first | with_reducible assumption | assumption) (by omega) (by first | with_reducible assumption | assumption) (by omega) (by omega) (by omega) (fun k => by rw [eσ4, gi_si_ne (Or.inl (by decide +kernel))]) (fun k => by rw [eσ4, gi_si_ne (Or.inl (by decide +kernel))])
          intro σ5 eσ5
          replace H := f_l eσ5 H
          have t_142 := MI_f25 mσ4
          have t_143 : ((gi σ4 74 25) + (1 : Int32)).toInt = (gi σ4 74 25).toInt + 1 := i_add (x := (gi σ4 74 25)) (y := (1 : Int32)) (by show (_ : Int) ≤ (gi σ4 74 25).toInt + 1; omega) (by show (gi σ4 74 25).toInt + 1 ≤ (_ : Int); omega)
          have mσ5 : MI σ5 := by rw [eσ5]; exact MIs_f25 mσ4 (by omega) (by omega)
          have fσ5 : Fr [74, 120, 121, 122, 123] [14, 15, 24, 25, 26] σ0 σ5 := by rw [eσ5]; exact Fr_si fσ4 (by decide +kernel) (fun _ => by decide +kernel)
          have k_144 : (gi σ5 74 11).toInt = (gi σ4 74 11).toInt := gk_r eσ5 rfl
          have k_145 : (gi σ5 74 12).toInt = (gi σ4 74 12).toInt := gk_r eσ5 rfl
          have k_146 : (gi σ5 74 13).toInt = (gi σ4 74 13).toInt := gk_r eσ5 rfl
          have k_147 : (gi σ5 74 14).toInt = (gi σ4 74 14).toInt := gk_r eσ5 rfl
          have k_148 : (gi σ5 74 24).toInt = (gi σ4 74 24).toInt := gk_r eσ5 rfl
          have k_149 : (gi σ5 74 25).toInt = ((gi σ4 74 25) + (1 : Int32)).toInt := by rw [eσ5]; exact congrArg Int32.toInt gi_si_eq
          have k_150 : (gi σ5 74 26).toInt = (gi σ4 74 26).toInt := gk_r eσ5 rfl
          have k_151 : (gi σ5 74 50).toInt = (gi σ4 74 50).toInt := gk_r eσ5 rfl
          have hB9 : BL σ0 σ5 := by rw [eσ5]; exact BL_si (by first | with_reducible assumption | assumption) (by decide +kernel)
          have hK9 : K120 σ0 σ5 x1.toNatClampNeg := by rw [eσ5]; first | exact K120_si (by first | with_reducible assumption | assumption) (by decide +kernel) | exact K120_to (by first | with_reducible assumption | assumption)
          try have hT9 : TI σ0 σ5 1 := by first | exact TI_eq (σ := σ4) (by first | with_reducible assumption | assumption) (by omega) (by omega) (fun k => by rw [eσ5, gi_si_ne (Or.inl (by decide +kernel))]) (fun k => by rw [eσ5, gi_si_ne (Or.inl (by decide +kernel))]) | exact TI_pop (σ := σ4) (by first | with_reducible assumption | assumption) (by omega) (by first | with_reducible assumption | assumption) (by omega) (by omega) (by omega) (fun k => by rw [eσ5, gi_si_ne (Or.inl (by decide +kernel))]) (fun k => by rw [eσ5, gi_si_ne (Or.inl (by decide +kernel))])
          intro σ6 eσ6
          replace H := f_l eσ6 H
          have t_152 := MI_f14 mσ5
          have t_153 : ((gi σ5 74 14) + (1 : Int32)).toInt = (gi σ5 74 14).toInt + 1 := i_add (x := (gi σ5 74 14)) (y := (1 : Int32)) (by show (_ : Int) ≤ (gi σ5 74 14).toInt + 1; omega) (by show (gi σ5 74 14).toInt + 1 ≤ (_ : Int); omega)
          have mσ6 : MI σ6 := by rw [eσ6]; exact MIs_f14 mσ5 (by omega) (by omega)
          have fσ6 : Fr [74, 120, 121, 122, 123] [14, 15, 24, 25, 26] σ0 σ6 := by rw [eσ6]; exact Fr_si fσ5 (by decide +kernel) (fun _ => by decide +kernel)
          have k_154 : (gi σ6 74 11).toInt = (gi σ5 74 11).toInt := gk_r eσ6 rfl
          have k_155 : (gi σ6 74 12).toInt = (gi σ5 74 12).toInt := gk_r eσ6 rfl
          have k_156 : (gi σ6 74 13).toInt = (gi σ5 74 13).toInt := gk_r eσ6 rfl
          have k_157 : (gi σ6 74 14).toInt = ((gi σ5 74 14) + (1 : Int32)).toInt := by rw [eσ6]; exact congrArg Int32.toInt gi_si_eq
          have k_158 : (gi σ6 74 24).toInt = (gi σ5 74 24).toInt := gk_r eσ6 rfl
          have k_159 : (gi σ6 74 25).toInt = (gi σ5 74 25).toInt := gk_r eσ6 rfl
          have k_160 : (gi σ6 74 26).toInt = (gi σ5 74 26).toInt := gk_r eσ6 rfl
          have k_161 : (gi σ6 74 50).toInt = (gi σ5 74 50).toInt := gk_r eσ6 rfl
          have hB9 : BL σ0 σ6 := by rw [eσ6]; exact BL_si (by first | with_reducible assumption | assumption) (by decide +kernel)
          have hK9 : K120 σ0 σ6 x1.toNatClampNeg := by rw [eσ6]; first | exact K120_si (by first | with_reducible assumption | assumption) (by decide +kernel) | exact K120_to (by first | with_reducible assumption | assumption)
          try have hT9 : TI σ0 σ6 1 := by first | exact TI_eq (σ := σ5) (by first | with_reducible assumption | assumption) (by omega) (by omega) (fun k => by rw [eσ6, gi_si_ne (Or.inl (by decide +kernel))]) (fun k => by rw [eσ6, gi_si_ne (Or.inl (by decide +kernel))]) | exact TI_pop (σ := σ5) (by first | with_reducible assumption | assumption) (by omega) (by first | with_reducible assumption | assumption) (by omega) (by omega) (by omega) (fun k => by rw [eσ6, gi_si_ne (Or.inl (by decide +kernel))]) (fun k => by rw [eσ6, gi_si_ne (Or.inl (by decide +kernel))])
          exact ih22 x1 x2 σ6 mσ6 fσ6 (by omega) (by omega) (by first | with_reducible assumption | with_reducible rfl | omega | assumption | rfl) (by first | with_reducible assumption | with_reducible rfl | omega | assumption | rfl) (by first | with_reducible assumption | with_reducible rfl | omega | assumption | rfl) (by first | with_reducible assumption | with_reducible rfl | omega | assumption | rfl) (by first | with_reducible assumption | with_reducible rfl | omega | assumption | rfl) (by first | with_reducible assumption | with_reducible rfl | omega | assumption | rfl) (by first | with_reducible assumption | with_reducible rfl | omega | assumption | rfl) (by first | with_reducible assumption | with_reducible rfl | omega | assumption | rfl) (by first | with_reducible assumption | with_reducible rfl | omega | assumption | rfl) (by first | with_reducible assumption | with_reducible rfl | omega | assumption | rfl) (by first | assumption | exact K120_mk eσ1 eσ2 eσ4) (by first | with_reducible assumption | with_reducible rfl | omega | assumption | rfl) (by first | with_reducible assumption | with_reducible rfl | omega | assumption | rfl) (by first | with_reducible assumption | with_reducible rfl | omega | assumption | rfl) (by first | exact TW_0 (by first | with_reducible assumption | assumption) (by first | with_reducible assumption | assumption) | exact TW_0 rfl (by first | with_reducible assumption | assumption) | exact TW_1 (by decide +kernel) (TI_start (by omega) (by omega)) | exact TW_1 (by decide +kernel) (@TI_push σ0 σ1 σ5 1 0 x3 (by first | with_reducible assumption | assumption) (by omega) (by omega) (by omega) (fun k => by rw [eσ5, gi_si_ne (Or.inl (by decide +kernel)), eσ4, gi_si_ne (Or.inl (by decide +kernel)), eσ3, gi_si_ne (Or.inl (by decide +kernel))]) (fun k hk => by rw [eσ5, gi_si_ne (Or.inl (by decide +kernel)), eσ4, gi_si_ne (Or.inl (by decide +kernel)), eσ3, gi_si_ne (Or.inr hk)]) (by rw [eσ5, gi_si_ne (Or.inl (by decide +kernel)), eσ4, gi_si_ne (Or.inl (by decide +kernel)), eσ3, gi_si_eq]) (Or.inl ⟨by assumption, rfl⟩)) | exact TW_1 (by first | with_reducible assumption | assumption) (@TI_push σ0 σ σ6 0 0 x3 (by first | with_reducible assumption | assumption) (by omega) (by omega) (by omega) (fun k => by rw [eσ6, gi_si_ne (Or.inl (by decide +kernel)), eσ5, gi_si_ne (Or.inl (by decide +kernel)), eσ4, gi_si_ne (Or.inl (by decide +kernel)), eσ2, gi_si_ne (Or.inl (by decide +kernel))]) (fun k hk => by rw [eσ6, gi_si_ne (Or.inl (by decide +kernel)), eσ5, gi_si_ne (Or.inl (by decide +kernel)), eσ4, show gi σ2 74 25 = gi σ 74 25 from by rw [eσ2, gi_si_ne (Or.inr (by decide +kernel))], gi_si_ne (Or.inr hk), eσ2, gi_si_ne (Or.inl (by decide +kernel))]) (by rw [eσ6, gi_si_ne (Or.inl (by decide +kernel)), eσ5, gi_si_ne (Or.inl (by decide +kernel)), eσ4, show gi σ2 74 25 = gi σ 74 25 from by rw [eσ2, gi_si_ne (Or.inr (by decide +kernel))], gi_si_eq]) (Or.inr ⟨by rcases i17 with z | z <;> rw [z] <;> decide, rfl⟩))) H (by omega)
        · intro q_122
          replace H := f_t q_122 H
          have b_162 : (gi σ 74 26).toInt = 4 := congrArg Int32.toInt q_122
          have z_163 : (0 : Int32).toInt = 0 := rfl
          exact h9ret (0 : Int32) σ mσ fσ (by omega) (by omega) (by first | with_reducible assumption | with_reducible rfl | omega | assumption | rfl) (by first | with_reducible assumption | with_reducible rfl | omega | assumption | rfl) (by first | with_reducible assumption | with_reducible rfl | omega | assumption | rfl) (by first | exact fun z => absurd z (by decide +kernel) | exact fun _ => by rw [← i0n]; exact TE_mk (by first | with_reducible assumption | assumption) (by omega) (by first | with_reducible assumption | assumption) (by first | with_reducible assumption | assumption) (by rw [eσ8, gi_si_eq, gi_si_ne (Or.inl (by decide +kernel))])) (H0.trans H.symm)
  obtain ⟨U22, U122, U43⟩ := T 300
  have f0 : Fr [74, 120, 121, 122, 123] [14, 15, 24, 25, 26] σ0 σ0 := Fr_rf
  have e_a1 := cl_eq (x := a1) (by omega)
  have hB9 : BL σ0 σ0 := BL_rf
  have mw13 := MI_f13 m0
  have mw24 := MI_f24 m0
  have H := H0
  unfold F_X12_takesE at H
  refine s_X12_takesE_0 C hN ?_
  intro σ1 eσ1
  replace H := f_l eσ1 H
  have z_164 : (0 : Int32).toInt = 0 := rfl
  have mσ1 : MI σ1 := by rw [eσ1]; exact MIs_f25 m0 (by omega) (by omega)
  have fσ1 : Fr [74, 120, 121, 122, 123] [14, 15, 24, 25, 26] σ0 σ1 := by rw [eσ1]; exact Fr_si f0 (by decide +kernel) (fun _ => by decide +kernel)
  have k_165 : (gi σ1 74 11).toInt = (gi σ0 74 11).toInt := gk_r eσ1 rfl
  have k_166 : (gi σ1 74 12).toInt = (gi σ0 74 12).toInt := gk_r eσ1 rfl
  have k_167 : (gi σ1 74 13).toInt = (gi σ0 74 13).toInt := gk_r eσ1 rfl
  have k_168 : (gi σ1 74 14).toInt = (gi σ0 74 14).toInt := gk_r eσ1 rfl
  have k_169 : (gi σ1 74 24).toInt = (gi σ0 74 24).toInt := gk_r eσ1 rfl
  have k_170 : (gi σ1 74 25).toInt = 0 := by rw [eσ1]; exact congrArg Int32.toInt gi_si_eq
  have k_171 : (gi σ1 74 50).toInt = (gi σ0 74 50).toInt := gk_r eσ1 rfl
  have hB9 : BL σ0 σ1 := by rw [eσ1]; exact BL_si (by first | with_reducible assumption | assumption) (by decide +kernel)
  intro σ2 eσ2
  replace H := f_l eσ2 H
  have mσ2 : MI σ2 := by rw [eσ2]; exact MIs_fu mσ1 (by decide +kernel)
  have fσ2 : Fr [74, 120, 121, 122, 123] [14, 15, 24, 25, 26] σ0 σ2 := by rw [eσ2]; exact Fr_si fσ1 (by decide +kernel) (fun _ => by decide +kernel)
  have k_172 : (gi σ2 74 11).toInt = (gi σ1 74 11).toInt := gk_r eσ2 rfl
  have k_173 : (gi σ2 74 12).toInt = (gi σ1 74 12).toInt := gk_r eσ2 rfl
  have k_174 : (gi σ2 74 13).toInt = (gi σ1 74 13).toInt := gk_r eσ2 rfl
  have k_175 : (gi σ2 74 14).toInt = (gi σ1 74 14).toInt := gk_r eσ2 rfl
  have k_176 : (gi σ2 74 24).toInt = (gi σ1 74 24).toInt := gk_r eσ2 rfl
  have k_177 : (gi σ2 74 25).toInt = (gi σ1 74 25).toInt := gk_r eσ2 rfl
  have k_178 : (gi σ2 74 50).toInt = (gi σ1 74 50).toInt := gk_r eσ2 rfl
  have hB9 : BL σ0 σ2 := by rw [eσ2]; exact BL_si (by first | with_reducible assumption | assumption) (by decide +kernel)
  have hv_179 : vp_in a1 60 := vp_in_iff.mpr ⟨by omega, by omega⟩
  refine ⟨hv_179, ?_⟩
  intro σ4 eσ4
  replace H := f_l eσ4 H
  have mσ4 : MI σ4 := by rw [eσ4]; exact MIs_au0 mσ2 rfl (FV_hi mσ2.2.2 (by decide +kernel) (by omega) (by omega) (by omega))
  have fσ4 : Fr [74, 120, 121, 122, 123] [14, 15, 24, 25, 26] σ0 σ4 := by rw [eσ4]; exact Fr_si fσ2 (by decide +kernel) (fun h9 => absurd h9 (by decide +kernel))
  have k_180 : (gi σ4 74 11).toInt = (gi σ2 74 11).toInt := gk_l eσ4 rfl
  have k_181 : (gi σ4 74 12).toInt = (gi σ2 74 12).toInt := gk_l eσ4 rfl
  have k_182 : (gi σ4 74 13).toInt = (gi σ2 74 13).toInt := gk_l eσ4 rfl
  have k_183 : (gi σ4 74 14).toInt = (gi σ2 74 14).toInt := gk_l eσ4 rfl
  have k_184 : (gi σ4 74 24).toInt = (gi σ2 74 24).toInt := gk_l eσ4 rfl
  have k_185 : (gi σ4 74 25).toInt = (gi σ2 74 25).toInt := gk_l eσ4 rfl
  have k_186 : (gi σ4 74 50).toInt = (gi σ2 74 50).toInt := gk_l eσ4 rfl
  have hB9 : BL σ0 σ4 := by rw [eσ4]; exact BL_si (by first | with_reducible assumption | assumption) (by decide +kernel)
  have z_187 : (1 : Int32).toInt = 1 := rfl
  exact U22 a1 (1 : Int32) σ4 mσ4 fσ4 (by omega) (by omega) (by first | with_reducible assumption | with_reducible rfl | omega | assumption | rfl) (by first | with_reducible assumption | with_reducible rfl | omega | assumption | rfl) (by first | with_reducible assumption | with_reducible rfl | omega | assumption | rfl) (by first | with_reducible assumption | with_reducible rfl | omega | assumption | rfl) (by first | with_reducible assumption | with_reducible rfl | omega | assumption | rfl) (by first | with_reducible assumption | with_reducible rfl | omega | assumption | rfl) (by first | with_reducible assumption | with_reducible rfl | omega | assumption | rfl) (by first | with_reducible assumption | with_reducible rfl | omega | assumption | rfl) (by first | with_reducible assumption | with_reducible rfl | omega | assumption | rfl) (by first | with_reducible assumption | with_reducible rfl | omega | assumption | rfl) (by first | assumption | exact K120_mk eσ1 eσ2 eσ4) (by first | with_reducible assumption | with_reducible rfl | omega | assumption | rfl) (by first | with_reducible assumption | with_reducible rfl | omega | assumption | rfl) (by first | with_reducible assumption | with_reducible rfl | omega | assumption | rfl) (by first | exact TW_0 (by first | with_reducible assumption | assumption) (by first | with_reducible assumption | assumption) | exact TW_0 rfl (by first | with_reducible assumption | assumption) | exact TW_1 (by decide +kernel) (TI_start (by omega) (by omega)) | exact TW_1 (by decide +kernel) (@TI_push σ0 σ1 σ5 1 0 x3 (by first | with_reducible assumption | assumption) (by omega) (by omega) (by omega) (fun k => by rw [eσ5, gi_si_ne (Or.inl (by decide +kernel)), eσ4, gi_si_ne (Or.inl (by decide +kernel)), eσ3, gi_si_ne (Or.inl (by decide +kernel))]) (fun k hk => by rw [eσ5, gi_si_ne (Or.inl (by decide +kernel)), eσ4, gi_si_ne (Or.inl (by decide +kernel)), eσ3, gi_si_ne (Or.inr hk)]) (by rw [eσ5, gi_si_ne (Or.inl (by decide +kernel)), eσ4, gi_si_ne (Or.inl (by decide +kernel)), eσ3, gi_si_eq]) (Or.inl ⟨by assumption, rfl⟩)) | exact TW_1 (by first | with_reducible assumption | assumption) (@TI_push σ0 σ0 σ6 0 0 x3 (by first | with_reducible assumption | assumption) (by omega) (by omega) (by omega) (fun k => by rw [eσ6, gi_si_ne (Or.inl (by decide +kernel)), eσ5, gi_si_ne (Or.inl (by decide +kernel)), eσ4, gi_si_ne (Or.inl (by decide +kernel)), eσ2, gi_si_ne (Or.inl (by decide +kernel))]) (fun k hk => by rw [eσ6, gi_si_ne (Or.inl (by decide +kernel)), eσ5, gi_si_ne (Or.inl (by decide +kernel)), eσ4, show gi σ2 74 25 = gi σ0 74 25 from by rw [eσ2, gi_si_ne (Or.inr (by decide +kernel))], gi_si_ne (Or.inr hk), eσ2, gi_si_ne (Or.inl (by decide +kernel))]) (by rw [eσ6, gi_si_ne (Or.inl (by decide +kernel)), eσ5, gi_si_ne (Or.inl (by decide +kernel)), eσ4, show gi σ2 74 25 = gi σ0 74 25 from by rw [eσ2, gi_si_ne (Or.inr (by decide +kernel))], gi_si_eq]) (Or.inr ⟨by rcases i17 with z | z <;> rw [z] <;> decide, rfl⟩))) H (by omega)
set_option maxRecDepth 100000 in
set_option maxHeartbeats 4000000 in
theorem kF_X12_takesClause {l : Launch} {V : Vx} {a1 : Int32} {σ0 : Sg} {Qk : Int32 → Sg → Prop} (m0 : MI σ0) (l_a1 : 0 ≤ a1.toInt) (u_a1 : a1.toInt ≤ 59) (pre0 : (gi σ0 74 12).toInt < (gi σ0 74 11).toInt) (pre1 : (gi σ0 74 50).toInt < (gi σ0 74 11).toInt) (pre2 : 100 * (gi σ0 74 11).toInt ≤ (gi σ0 74 24).toInt) (pre3 : (gi σ0 74 24).toInt ≤ 100 * (gi σ0 74 11).toInt + (gi σ0 74 14).toInt) (pre4 : (gi σ0 74 14).toInt ≤ (gi σ0 74 13).toInt) (pre5 : (gi σ0 74 11).toInt ≤ 5) (pre6 : 10 * (gi σ0 74 11).toInt ≤ a1.toInt) (h9ret : ∀ (r : Int32) (σ' : Sg), MI σ' → Fr [74, 118, 119, 120, 121, 122, 123] [14, 15, 24, 25, 26] σ0 σ' → (0 ≤ r.toInt) → (r.toInt ≤ 1) → ((gi σ0 74 14).toInt ≤ (gi σ' 74 14).toInt) → ((gi σ' 74 14).toInt ≤ (gi σ0 74 13).toInt) → ((r.toInt = 1 ∧ (gi σ0 74 24).toInt ≤ (gi σ' 74 24).toInt ∧ (gi σ' 74 24).toInt ≤ 100 * (gi σ0 74 11).toInt + (gi σ' 74 14).toInt) ∨ r.toInt = 0) → (hid (r.toInt = 1 → CLA σ0 σ' a1.toNatClampNeg)) → (F_X12_takesClause a1 σ0 = (r, σ')) → Qk r σ') : K_X12_takesClause l V a1 σ0 Qk := by
  refine e_X12_takesClause (fun M hl hV hN C => ?_)
  subst hl
  subst hV
  obtain ⟨R9, H0⟩ : ∃ R9, F_X12_takesClause a1 σ0 = R9 := ⟨_, rfl⟩
  have f0 : Fr [74, 118, 119, 120, 121, 122, 123] [14, 15, 24, 25, 26] σ0 σ0 := Fr_rf
  have mw13 := MI_f13 m0
  have H := H0
  unfold F_X12_takesClause at H
  refine s_X12_takesClause_0 C hN ?_
  refine kF_X12_takesHead m0 (by omega) (by omega) (by first | with_reducible assumption | with_reducible rfl | omega | assumption | rfl) (by first | with_reducible assumption | with_reducible rfl | omega | assumption | rfl) (by first | with_reducible assumption | with_reducible rfl | omega | assumption | rfl) (by first | with_reducible assumption | with_reducible rfl | omega | assumption | rfl) (fun r2 σ1 mσ1 cσ1 plσ1 phσ1 (pσ1_0 : (gi σ0 74 14).toInt ≤ (gi σ1 74 14).toInt) (pσ1_1 : (gi σ1 74 14).toInt ≤ (gi σ0 74 13).toInt) (pσ1_2 : hid (∀ k : Nat, ¬ k = a1.toNatClampNeg → gi σ1 118 k = gi σ0 118 k)) hσ1 => ?_)
  replace H := f_b hσ1 H
  have fσ1 : Fr [74, 118, 119, 120, 121, 122, 123] [14, 15, 24, 25, 26] σ0 σ1 := Fr_tr f0 cσ1 (by decide +kernel) (by decide +kernel)
  have k_1 : (gi σ1 74 11).toInt = (gi σ0 74 11).toInt := congrArg Int32.toInt (cσ1.2.1 11 (by decide +kernel))
  have k_2 : (gi σ1 74 12).toInt = (gi σ0 74 12).toInt := congrArg Int32.toInt (cσ1.2.1 12 (by decide +kernel))
  have k_3 : (gi σ1 74 13).toInt = (gi σ0 74 13).toInt := congrArg Int32.toInt (cσ1.2.1 13 (by decide +kernel))
  have k_4 : (gi σ1 74 24).toInt = (gi σ0 74 24).toInt := congrArg Int32.toInt (cσ1.2.1 24 (by decide +kernel))
  have k_5 : (gi σ1 74 50).toInt = (gi σ0 74 50).toInt := congrArg Int32.toInt (cσ1.2.1 50 (by decide +kernel))
  have hZ9 : CZ σ0 σ1 a1.toNatClampNeg := CZ_head cσ1 (by decide +kernel) (by decide +kernel) (by decide +kernel) (by decide +kernel) pσ1_2
  refine ⟨?_, ?_⟩
  · intro q_6
    replace H := f_t q_6 H
    have b_7 : r2.toInt = 0 := congrArg Int32.toInt q_6
    have z_8 : (0 : Int32).toInt = 0 := rfl
    exact h9ret (0 : Int32) σ1 mσ1 fσ1 (by omega) (by omega) (by first | with_reducible assumption | with_reducible rfl | omega | assumption | rfl) (by first | with_reducible assumption | with_reducible rfl | omega | assumption | rfl) (by first | with_reducible assumption | with_reducible rfl | omega | assumption | rfl) (by first | exact fun z => absurd z (by decide +kernel) | exact fun _ => CLA_z hZ9 (by omega) | exact fun _ => CLA_e hZ9 (un pσ14_3 (by omega)) (fun k => congrFun (cσ14.1 118 (by decide +kernel)).1 k)) (H0.trans H.symm)
  · intro q_6
    replace H := f_f q_6 H
    have b_9 : ¬ r2.toInt = 0 := fun h9 => q_6 (Int32.toInt_inj.mp h9)
    refine kF_X12_takesNumber mσ1 (by first | with_reducible assumption | with_reducible rfl | omega | assumption | rfl) (fun r5 σ4 mσ4 cσ4 plσ4 phσ4 (pσ4_0 : (gi σ1 74 14).toInt ≤ (gi σ4 74 14).toInt) (pσ4_1 : (gi σ4 74 14).toInt ≤ (gi σ1 74 13).toInt) hσ4 => ?_)
    replace H := f_b hσ4 H
    have fσ4 : Fr [74, 118, 119, 120, 121, 122, 123] [14, 15, 24, 25, 26] σ0 σ4 := Fr_tr fσ1 cσ4 (by decide +kernel) (by decide +kernel)
    have k_10 : (gi σ4 74 11).toInt = (gi σ1 74 11).toInt := congrArg Int32.toInt (cσ4.2.1 11 (by decide +kernel))
    have k_11 : (gi σ4 74 12).toInt = (gi σ1 74 12).toInt := congrArg Int32.toInt (cσ4.2.1 12 (by decide +kernel))
    have k_12 : (gi σ4 74 13).toInt = (gi σ1 74 13).toInt := congrArg Int32.toInt (cσ4.2.1 13 (by decide +kernel))
    have k_13 : (gi σ4 74 24).toInt = (gi σ1 74 24).toInt := congrArg Int32.toInt (cσ4.2.1 24 (by decide +kernel))
    have k_14 : (gi σ4 74 50).toInt = (gi σ1 74 50).toInt := congrArg Int32.toInt (cσ4.2.1 50 (by decide +kernel))
    have hZ9 : CZ σ0 σ4 a1.toNatClampNeg := CZ_fr hZ9 cσ4 (by decide +kernel) (by decide +kernel) (by decide +kernel) (by decide +kernel) (by decide +kernel)
    refine ⟨?_, ?_⟩
    · intro q_15
      replace H := f_f q_15 H
      have b_16 : ¬ r5.toInt = 0 := fun h9 => q_15 (Int32.toInt_inj.mp h9)
      have hv_17 : vp_in a1 60 := vp_in_iff.mpr ⟨by omega, by omega⟩
      refine ⟨hv_17, ?_⟩
      intro σ8 eσ8
      replace H := f_l eσ8 H
      have mσ8 : MI σ8 := by rw [eσ8]; exact MIs_au (a := 119) mσ4 rfl rfl
      have fσ8 : Fr [74, 118, 119, 120, 121, 122, 123] [14, 15, 24, 25, 26] σ0 σ8 := by rw [eσ8]; exact Fr_si fσ4 (by decide +kernel) (fun h9 => absurd h9 (by decide +kernel))
      have k_18 : (gi σ8 74 11).toInt = (gi σ4 74 11).toInt := gk_l eσ8 rfl
      have k_19 : (gi σ8 74 12).toInt = (gi σ4 74 12).toInt := gk_l eσ8 rfl
      have k_20 : (gi σ8 74 13).toInt = (gi σ4 74 13).toInt := gk_l eσ8 rfl
      have k_21 : (gi σ8 74 14).toInt = (gi σ4 74 14).toInt := gk_l eσ8 rfl
      have k_22 : (gi σ8 74 24).toInt = (gi σ4 74 24).toInt := gk_l eσ8 rfl
      have k_23 : (gi σ8 74 50).toInt = (gi σ4 74 50).toInt := gk_l eσ8 rfl
      have hZ9 : CZ σ0 σ8 a1.toNatClampNeg := by rw [eσ8]; exact CZ_119 hZ9
      refine ⟨hv_17, ?_⟩
      refine ⟨?_, ?_⟩
      · intro q_24
        replace H := f_t q_24 H
        have b_25 : (2 : Int) ≤ (gi σ8 118 a1.toNatClampNeg).toInt := Int32.le_iff_toInt_le.mp q_24
        have z_26 : (1 : Int32).toInt = 1 := rfl
        exact h9ret (1 : Int32) σ8 mσ8 fσ8 (by omega) (by omega) (by first | with_reducible assumption | with_reducible rfl | omega | assumption | rfl) (by first | with_reducible assumption | with_reducible rfl | omega | assumption | rfl) (by first | with_reducible assumption | with_reducible rfl | omega | assumption | rfl) (by first | exact fun z => absurd z (by decide +kernel) | exact fun _ => CLA_z hZ9 (by omega) | exact fun _ => CLA_e hZ9 (un pσ14_3 (by omega)) (fun k => congrFun (cσ14.1 118 (by decide +kernel)).1 k)) (H0.trans H.symm)
      · intro q_24
        replace H := f_f q_24 H
        have b_27 : ¬ (2 : Int) ≤ (gi σ8 118 a1.toNatClampNeg).toInt := fun h9 => q_24 (Int32.le_iff_toInt_le.mpr h9)
        have z_28 : (32 : Int32).toInt = 32 := rfl
        refine kF_X12_takes mσ8 (by omega) (by omega) (fun r12 σ11 mσ11 cσ11 plσ11 phσ11 (pσ11_0 : (r12.toInt = 1 ∧ (gi σ11 74 14).toInt = (gi σ8 74 14).toInt + 1 ∧ (gi σ8 74 14).toInt < (gi σ8 74 13).toInt) ∨ (r12.toInt = 0 ∧ (gi σ11 74 14).toInt = (gi σ8 74 14).toInt)) hσ11 => ?_)
        replace H := f_b hσ11 H
        have fσ11 : Fr [74, 118, 119, 120, 121, 122, 123] [14, 15, 24, 25, 26] σ0 σ11 := Fr_tr fσ8 cσ11 (by decide +kernel) (by decide +kernel)
        have k_29 : (gi σ11 74 11).toInt = (gi σ8 74 11).toInt := congrArg Int32.toInt (cσ11.2.1 11 (by decide +kernel))
        have k_30 : (gi σ11 74 12).toInt = (gi σ8 74 12).toInt := congrArg Int32.toInt (cσ11.2.1 12 (by decide +kernel))
        have k_31 : (gi σ11 74 13).toInt = (gi σ8 74 13).toInt := congrArg Int32.toInt (cσ11.2.1 13 (by decide +kernel))
        have k_32 : (gi σ11 74 24).toInt = (gi σ8 74 24).toInt := congrArg Int32.toInt (cσ11.2.1 24 (by decide +kernel))
        have k_33 : (gi σ11 74 50).toInt = (gi σ8 74 50).toInt := congrArg Int32.toInt (cσ11.2.1 50 (by decide +kernel))
        have hZ9 : CZ σ0 σ11 a1.toNatClampNeg := CZ_fr hZ9 cσ11 (by decide +kernel) (by decide +kernel) (by decide +kernel) (by decide +kernel) (by decide +kernel)
        refine ⟨?_, ?_⟩
        · intro q_34
          replace H := f_t q_34 H
          have b_35 : r12.toInt = 0 := congrArg Int32.toInt q_34
          have z_36 : (0 : Int32).toInt = 0 := rfl
          exact h9ret (0 : Int32) σ11 mσ11 fσ11 (by omega) (by omega) (by first | with_reducible assumption | with_reducible rfl | omega | assumption | rfl) (by first | with_reducible assumption | with_reducible rfl | omega | assumption | rfl) (by first | with_reducible assumption | with_reducible rfl | omega | assumption | rfl) (by first | exact fun z => absurd z (by decide +kernel) | exact fun _ => CLA_z hZ9 (by omega) | exact fun _ => CLA_e hZ9 (un pσ14_3 (by omega)) (fun k => congrFun (cσ14.1 118 (by decide +kernel)).1 k)) (H0.trans H.symm)
        · intro q_34
          replace H := f_f q_34 H
          have b_37 : ¬ r12.toInt = 0 := fun h9 => q_34 (Int32.toInt_inj.mp h9)
          refine kF_X12_takesE mσ11 (by omega) (by omega) (by first | with_reducible assumption | with_reducible rfl | omega | assumption | rfl) (by first | with_reducible assumption | with_reducible rfl | omega | assumption | rfl) (by first | with_reducible assumption | with_reducible rfl | omega | assumption | rfl) (by first | with_reducible assumption | with_reducible rfl | omega | assumption | rfl) (by first | with_reducible assumption | with_reducible rfl | omega | assumption | rfl) (by first | with_reducible assumption | with_reducible rfl | omega | assumption | rfl) (by first | with_reducible assumption | with_reducible rfl | omega | assumption | rfl) (fun r15 σ14 mσ14 cσ14 plσ14 phσ14 (pσ14_0 : (gi σ11 74 14).toInt ≤ (gi σ14 74 14).toInt) (pσ14_1 : (gi σ14 74 14).toInt ≤ (gi σ11 74 13).toInt) (pσ14_2 : (r15.toInt = 1 ∧ (gi σ11 74 24).toInt ≤ (gi σ14 74 24).toInt ∧ (gi σ14 74 24).toInt + 1 ≤ 100 * (gi σ11 74 11).toInt + (gi σ14 74 14).toInt) ∨ r15.toInt = 0) (pσ14_3 : hid (r15.toInt = 1 → TE σ11 σ14 a1.toNatClampNeg)) hσ14 => ?_)
          replace H := f_b hσ14 H
          have fσ14 : Fr [74, 118, 119, 120, 121, 122, 123] [14, 15, 24, 25, 26] σ0 σ14 := Fr_tr fσ11 cσ14 (by decide +kernel) (by decide +kernel)
          have k_38 : (gi σ14 74 11).toInt = (gi σ11 74 11).toInt := congrArg Int32.toInt (cσ14.2.1 11 (by decide +kernel))
          have k_39 : (gi σ14 74 12).toInt = (gi σ11 74 12).toInt := congrArg Int32.toInt (cσ14.2.1 12 (by decide +kernel))
          have k_40 : (gi σ14 74 13).toInt = (gi σ11 74 13).toInt := congrArg Int32.toInt (cσ14.2.1 13 (by decide +kernel))
          have k_41 : (gi σ14 74 50).toInt = (gi σ11 74 50).toInt := congrArg Int32.toInt (cσ14.2.1 50 (by decide +kernel))
          refine ⟨?_, ?_⟩
          · intro q_42
            replace H := f_t q_42 H
            have b_43 : r15.toInt = 0 := congrArg Int32.toInt q_42
            have z_44 : (0 : Int32).toInt = 0 := rfl
            exact h9ret (0 : Int32) σ14 mσ14 fσ14 (by omega) (by omega) (by first | with_reducible assumption | with_reducible rfl | omega | assumption | rfl) (by first | with_reducible assumption | with_reducible rfl | omega | assumption | rfl) (by first | with_reducible assumption | with_reducible rfl | omega | assumption | rfl) (by first | exact fun z => absurd z (by decide +kernel) | exact fun _ => CLA_z hZ9 (by omega) | exact fun _ => CLA_e hZ9 (un pσ14_3 (by omega)) (fun k => congrFun (cσ14.1 118 (by decide +kernel)).1 k)) (H0.trans H.symm)
          · intro q_42
            replace H := f_f q_42 H
            have b_45 : ¬ r15.toInt = 0 := fun h9 => q_42 (Int32.toInt_inj.mp h9)
            have z_46 : (1 : Int32).toInt = 1 := rfl
            exact h9ret (1 : Int32) σ14 mσ14 fσ14 (by omega) (by omega) (by first | with_reducible assumption | with_reducible rfl | omega | assumption | rfl) (by first | with_reducible assumption | with_reducible rfl | omega | assumption | rfl) (by first | with_reducible assumption | with_reducible rfl | omega | assumption | rfl) (by first | exact fun z => absurd z (by decide +kernel) | exact fun _ => CLA_z hZ9 (by omega) | exact fun _ => CLA_e hZ9 (un pσ14_3 (by omega)) (fun k => congrFun (cσ14.1 118 (by decide +kernel)).1 k)) (H0.trans H.symm)
    · intro q_15
      replace H := f_t q_15 H
      have b_47 : r5.toInt = 0 := congrArg Int32.toInt q_15
      have z_48 : (0 : Int32).toInt = 0 := rfl
      exact h9ret (0 : Int32) σ4 mσ4 fσ4 (by omega) (by omega) (by first | with_reducible assumption | with_reducible rfl | omega | assumption | rfl) (by first | with_reducible assumption | with_reducible rfl | omega | assumption | rfl) (by first | with_reducible assumption | with_reducible rfl | omega | assumption | rfl) (by first | exact fun z => absurd z (by decide +kernel) | exact fun _ => CLA_z hZ9 (by omega) | exact fun _ => CLA_e hZ9 (un pσ14_3 (by omega)) (fun k => congrFun (cσ14.1 118 (by decide +kernel)).1 k)) (H0.trans H.symm)
set_option maxRecDepth 100000 in
set_option maxHeartbeats 4000000 in
theorem kF_X12_goesText {l : Launch} {V : Vx} {a1 : Int32} {σ0 : Sg} {Qk : Int32 → Sg → Prop} (m0 : MI σ0) (l_a1 : 0 ≤ a1.toInt) (u_a1 : a1.toInt ≤ 5) (pre0 : (gi σ0 74 12).toInt < (gi σ0 74 11).toInt) (pre1 : (gi σ0 74 50).toInt < (gi σ0 74 11).toInt) (pre2 : (gi σ0 74 11).toInt = a1.toInt) (h9ret : ∀ (r : Int32) (σ' : Sg), MI σ' → Fr [74, 117, 118, 119, 120, 121, 122, 123] [14, 15, 24, 25, 26] σ0 σ' → (0 ≤ r.toInt) → (r.toInt ≤ 1) → (hid (r.toInt = 1 → okF σ' a1.toNatClampNeg)) → (F_X12_goesText a1 σ0 = (r, σ')) → Qk r σ') : K_X12_goesText l V a1 σ0 Qk := by
  refine e_X12_goesText (fun M hl hV hN C => ?_)
  subst hl
  subst hV
  obtain ⟨R9, H0⟩ : ∃ R9, F_X12_goesText a1 σ0 = R9 := ⟨_, rfl⟩
  have T : ∀ n : Nat, (∀ (x1 : Int32) (x2 : Int32) (σ : Sg), MI σ → Fr [74, 117, 118, 119, 120, 121, 122, 123] [14, 15, 24, 25, 26] σ0 σ → (0 ≤ x1.toInt) → (x1.toInt ≤ 5) → (0 ≤ x2.toInt) → (x2.toInt ≤ 9) → (x1 = a1) → ((gi σ 74 12).toInt < (gi σ 74 11).toInt) → ((gi σ 74 50).toInt < (gi σ 74 11).toInt) → ((gi σ 74 11).toInt = x1.toInt) → (OKN σ x1.toNatClampNeg x2.toInt) → ((gi σ 74 24).toInt ≤ 100 * (gi σ 74 11).toInt + (gi σ 74 14).toInt) → (100 * (gi σ 74 11).toInt ≤ (gi σ 74 24).toInt) → ((gi σ 74 14).toInt ≤ (gi σ 74 13).toInt) → (LF_X12_goesText n x1 x2 σ = R9) → (10 - x2.toInt).toNat < n → PS M 15 [(0, .ref 74), (1, .int x1), (2, .int x2)] [] σ (0, 0)) := by
    intro n
    induction n with
    | zero => exact fun _ _ _ _ _ _ _ _ _ _ _ _ _ _ _ _ _ _ h8 => absurd h8 (Nat.not_lt_zero _)
    | succ n ih =>
      have ih15 := ih
      · intro x1 x2 σ mσ fσ lx1 ux1 lx2 ux2 i0 i1 i2 i3 i4 i5 i6 i7 H hmu
        replace H : LB_X12_goesText_15 (LF_X12_goesText n) x1 x2 σ = R9 := H
        unfold LB_X12_goesText_15 at H
        have mw13 := MI_f13 mσ
        have e_x1 := cl_eq (x := x1) (by omega)
        have i0n : x1.toNatClampNeg = a1.toNatClampNeg := by rw [i0]
        have e_c := cl_eq (x := (((10 : Int32) * x1) + x2)) (by have h9 := i_mull (c := (10 : Int32)) (y := x1) (k := 10) rfl (by omega) (by omega); have h8 := i_add (x := ((10 : Int32) * x1)) (y := x2) (by omega) (by omega); omega)
        refine s_X12_goesText_15 C hN ?_
        have t_1 : ((10 : Int32) * x1).toInt = 10 * x1.toInt := i_mull rfl (by omega) (by omega)
        have t_2 : (((10 : Int32) * x1) + x2).toInt = ((10 : Int32) * x1).toInt + x2.toInt := i_add (x := ((10 : Int32) * x1)) (y := x2) (by show (_ : Int) ≤ ((10 : Int32) * x1).toInt + x2.toInt; omega) (by show ((10 : Int32) * x1).toInt + x2.toInt ≤ (_ : Int); omega)
        refine kF_X12_takesClause mσ (by omega) (by omega) (by first | with_reducible assumption | with_reducible rfl | omega | assumption | rfl) (by first | with_reducible assumption | with_reducible rfl | omega | assumption | rfl) (by first | with_reducible assumption | with_reducible rfl | omega | assumption | rfl) (by first | with_reducible assumption | with_reducible rfl | omega | assumption | rfl) (by first | with_reducible assumption | with_reducible rfl | omega | assumption | rfl) (by first | with_reducible assumption | with_reducible rfl | omega | assumption | rfl) (by first | with_reducible assumption | with_reducible rfl | omega | assumption | rfl) (fun r2 σ1 mσ1 cσ1 plσ1 phσ1 (pσ1_0 : (gi σ 74 14).toInt ≤ (gi σ1 74 14).toInt) (pσ1_1 : (gi σ1 74 14).toInt ≤ (gi σ 74 13).toInt) (pσ1_2 : (r2.toInt = 1 ∧ (gi σ 74 24).toInt ≤ (gi σ1 74 24).toInt ∧ (gi σ1 74 24).toInt ≤ 100 * (gi σ 74 11).toInt + (gi σ1 74 14).toInt) ∨ r2.toInt = 0) (pσ1_3 : hid (r2.toInt = 1 → CLA σ σ1 (((10 : Int32) * x1) + x2).toNatClampNeg)) hσ1 => ?_)
        replace H := f_b hσ1 H
        have fσ1 : Fr [74, 117, 118, 119, 120, 121, 122, 123] [14, 15, 24, 25, 26] σ0 σ1 := Fr_tr fσ cσ1 (by decide +kernel) (by decide +kernel)
        have k_3 : (gi σ1 74 11).toInt = (gi σ 74 11).toInt := congrArg Int32.toInt (cσ1.2.1 11 (by decide +kernel))
        have k_4 : (gi σ1 74 12).toInt = (gi σ 74 12).toInt := congrArg Int32.toInt (cσ1.2.1 12 (by decide +kernel))
        have k_5 : (gi σ1 74 13).toInt = (gi σ 74 13).toInt := congrArg Int32.toInt (cσ1.2.1 13 (by decide +kernel))
        have k_6 : (gi σ1 74 50).toInt = (gi σ 74 50).toInt := congrArg Int32.toInt (cσ1.2.1 50 (by decide +kernel))
        try have hN9 : OKN σ1 x1.toNatClampNeg (x2.toInt + 1) := OKN_fr (by first | with_reducible assumption | assumption) cσ1 (by decide +kernel) (by decide +kernel) (by decide +kernel) (by decide +kernel) (by decide +kernel)
        refine ⟨?_, ?_⟩
        · intro q_7
          replace H := f_f q_7 H
          have b_8 : ¬ r2.toInt = 0 := fun h9 => q_7 (Int32.toInt_inj.mp h9)
          have hN9 : OKN σ1 x1.toNatClampNeg (x2.toInt + 1) := OKN_step i4 (un pσ1_3 (by omega)) (by omega) (by omega) (by omega) (by omega)
          intro v4 ev4
          replace H := f_l ev4 H
          have t_9 : (x2 + (1 : Int32)).toInt = x2.toInt + 1 := i_add (x := x2) (y := (1 : Int32)) (by show (_ : Int) ≤ x2.toInt + 1; omega) (by show x2.toInt + 1 ≤ (_ : Int); omega)
          have t_10 : v4.toInt = (x2 + (1 : Int32)).toInt := congrArg Int32.toInt ev4
          have hv_11 : vp_in x1 6 := vp_in_iff.mpr ⟨by omega, by omega⟩
          refine ⟨hv_11, ?_⟩
          intro σ6 eσ6
          replace H := f_l eσ6 H
          have mσ6 : MI σ6 := by rw [eσ6]; exact MIs_a117 mσ1 (by omega) (by omega) (FV_cl mσ1.2.2 (by omega) (by omega) (by omega))
          have fσ6 : Fr [74, 117, 118, 119, 120, 121, 122, 123] [14, 15, 24, 25, 26] σ0 σ6 := by rw [eσ6]; exact Fr_si fσ1 (by decide +kernel) (fun h9 => absurd h9 (by decide +kernel))
          have k_12 : (gi σ6 74 11).toInt = (gi σ1 74 11).toInt := gk_l eσ6 rfl
          have k_13 : (gi σ6 74 12).toInt = (gi σ1 74 12).toInt := gk_l eσ6 rfl
          have k_14 : (gi σ6 74 13).toInt = (gi σ1 74 13).toInt := gk_l eσ6 rfl
          have k_15 : (gi σ6 74 14).toInt = (gi σ1 74 14).toInt := gk_l eσ6 rfl
          have k_16 : (gi σ6 74 24).toInt = (gi σ1 74 24).toInt := gk_l eσ6 rfl
          have k_17 : (gi σ6 74 50).toInt = (gi σ1 74 50).toInt := gk_l eσ6 rfl
          have hN9 : OKN σ6 x1.toNatClampNeg (x2.toInt + 1) := by rw [eσ6]; exact OKN_117 (by first | with_reducible assumption | assumption)
          refine ⟨?_, ?_⟩
          · intro q_18
            replace H := f_f q_18 H
            have t_19 := MI_f14 mσ6
            have t_20 := MI_f13 mσ6
            have b_21 : ¬ (gi σ6 74 14).toInt = (gi σ6 74 13).toInt := fun h9 => q_18 (Int32.toInt_inj.mp h9)
            refine ⟨?_, ?_⟩
            · intro q_22
              replace H := f_t q_22 H
              have b_23 : v4.toInt = 10 := congrArg Int32.toInt q_22
              have z_24 : (0 : Int32).toInt = 0 := rfl
              exact h9ret (0 : Int32) σ6 mσ6 fσ6 (by omega) (by omega) (by first | exact fun z => absurd z (by decide +kernel) | exact fun _ => by rw [← i0n]; exact OKN_end (n := x2.toInt + 1) (by first | with_reducible assumption | assumption) (by rw [eσ6, gi_si_eq]; omega) (by omega)) (H0.trans H.symm)
            · intro q_22
              replace H := f_f q_22 H
              have b_25 : ¬ v4.toInt = 10 := fun h9 => q_22 (Int32.toInt_inj.mp h9)
              have z_26 : (59 : Int32).toInt = 59 := rfl
              refine kF_X12_takes mσ6 (by omega) (by omega) (fun r10 σ9 mσ9 cσ9 plσ9 phσ9 (pσ9_0 : (r10.toInt = 1 ∧ (gi σ9 74 14).toInt = (gi σ6 74 14).toInt + 1 ∧ (gi σ6 74 14).toInt < (gi σ6 74 13).toInt) ∨ (r10.toInt = 0 ∧ (gi σ9 74 14).toInt = (gi σ6 74 14).toInt)) hσ9 => ?_)
              replace H := f_b hσ9 H
              have fσ9 : Fr [74, 117, 118, 119, 120, 121, 122, 123] [14, 15, 24, 25, 26] σ0 σ9 := Fr_tr fσ6 cσ9 (by decide +kernel) (by decide +kernel)
              have k_27 : (gi σ9 74 11).toInt = (gi σ6 74 11).toInt := congrArg Int32.toInt (cσ9.2.1 11 (by decide +kernel))
              have k_28 : (gi σ9 74 12).toInt = (gi σ6 74 12).toInt := congrArg Int32.toInt (cσ9.2.1 12 (by decide +kernel))
              have k_29 : (gi σ9 74 13).toInt = (gi σ6 74 13).toInt := congrArg Int32.toInt (cσ9.2.1 13 (by decide +kernel))
              have k_30 : (gi σ9 74 24).toInt = (gi σ6 74 24).toInt := congrArg Int32.toInt (cσ9.2.1 24 (by decide +kernel))
              have k_31 : (gi σ9 74 50).toInt = (gi σ6 74 50).toInt := congrArg Int32.toInt (cσ9.2.1 50 (by decide +kernel))
              try have hN9 : OKN σ9 x1.toNatClampNeg (x2.toInt + 1) := OKN_fr (by first | with_reducible assumption | assumption) cσ9 (by decide +kernel) (by decide +kernel) (by decide +kernel) (by decide +kernel) (by decide +kernel)
              refine ⟨?_, ?_⟩
              · intro q_32
                replace H := f_f q_32 H
                have b_33 : ¬ r10.toInt = 0 := fun h9 => q_32 (Int32.toInt_inj.mp h9)
                exact ih15 x1 v4 σ9 mσ9 fσ9 (by omega) (by omega) (by omega) (by omega) (by first | with_reducible assumption | with_reducible rfl | omega | assumption | rfl) (by first | with_reducible assumption | with_reducible rfl | omega | assumption | rfl) (by first | with_reducible assumption | with_reducible rfl | omega | assumption | rfl) (by first | with_reducible assumption | with_reducible rfl | omega | assumption | rfl) (by first | exact fun i h9 => absurd h9 (by show ¬ ((i : Int) < 0); omega) | (rw [show v4.toInt = x2.toInt + 1 from by omega]; assumption)) (by first | with_reducible assumption | with_reducible rfl | omega | assumption | rfl) (by first | with_reducible assumption | with_reducible rfl | omega | assumption | rfl) (by first | with_reducible assumption | with_reducible rfl | omega | assumption | rfl) H (by omega)
              · intro q_32
                replace H := f_t q_32 H
                have b_34 : r10.toInt = 0 := congrArg Int32.toInt q_32
                have z_35 : (0 : Int32).toInt = 0 := rfl
                exact h9ret (0 : Int32) σ9 mσ9 fσ9 (by omega) (by omega) (by first | exact fun z => absurd z (by decide +kernel) | exact fun _ => by rw [← i0n]; exact OKN_end (n := x2.toInt + 1) (by first | with_reducible assumption | assumption) (by rw [eσ6, gi_si_eq]; omega) (by omega)) (H0.trans H.symm)
          · intro q_18
            replace H := f_t q_18 H
            have t_36 := MI_f14 mσ6
            have t_37 := MI_f13 mσ6
            have b_38 : (gi σ6 74 14).toInt = (gi σ6 74 13).toInt := congrArg Int32.toInt q_18
            have z_39 : (1 : Int32).toInt = 1 := rfl
            exact h9ret (1 : Int32) σ6 mσ6 fσ6 (by omega) (by omega) (by first | exact fun z => absurd z (by decide +kernel) | exact fun _ => by rw [← i0n]; exact OKN_end (n := x2.toInt + 1) (by first | with_reducible assumption | assumption) (by rw [eσ6, gi_si_eq]; omega) (by omega)) (H0.trans H.symm)
        · intro q_7
          replace H := f_t q_7 H
          have b_40 : r2.toInt = 0 := congrArg Int32.toInt q_7
          have z_41 : (0 : Int32).toInt = 0 := rfl
          exact h9ret (0 : Int32) σ1 mσ1 fσ1 (by omega) (by omega) (by first | exact fun z => absurd z (by decide +kernel) | exact fun _ => by rw [← i0n]; exact OKN_end (n := x2.toInt + 1) (by first | with_reducible assumption | assumption) (by rw [eσ6, gi_si_eq]; omega) (by omega)) (H0.trans H.symm)
  have U15 := T 20
  have f0 : Fr [74, 117, 118, 119, 120, 121, 122, 123] [14, 15, 24, 25, 26] σ0 σ0 := Fr_rf
  have mw13 := MI_f13 m0
  have e_a1 := cl_eq (x := a1) (by omega)
  have H := H0
  unfold F_X12_goesText at H
  refine s_X12_goesText_0 C hN ?_
  intro σ1 eσ1
  replace H := f_l eσ1 H
  have z_42 : (0 : Int32).toInt = 0 := rfl
  have mσ1 : MI σ1 := by rw [eσ1]; exact MIs_f14 m0 (by omega) (by omega)
  have fσ1 : Fr [74, 117, 118, 119, 120, 121, 122, 123] [14, 15, 24, 25, 26] σ0 σ1 := by rw [eσ1]; exact Fr_si f0 (by decide +kernel) (fun _ => by decide +kernel)
  have k_43 : (gi σ1 74 11).toInt = (gi σ0 74 11).toInt := gk_r eσ1 rfl
  have k_44 : (gi σ1 74 12).toInt = (gi σ0 74 12).toInt := gk_r eσ1 rfl
  have k_45 : (gi σ1 74 13).toInt = (gi σ0 74 13).toInt := gk_r eσ1 rfl
  have k_46 : (gi σ1 74 14).toInt = 0 := by rw [eσ1]; exact congrArg Int32.toInt gi_si_eq
  have k_47 : (gi σ1 74 24).toInt = (gi σ0 74 24).toInt := gk_r eσ1 rfl
  have k_48 : (gi σ1 74 50).toInt = (gi σ0 74 50).toInt := gk_r eσ1 rfl
  intro σ2 eσ2
  replace H := f_l eσ2 H
  have t_49 : ((100 : Int32) * a1).toInt = 100 * a1.toInt := i_mull rfl (by omega) (by omega)
  have mσ2 : MI σ2 := by rw [eσ2]; exact MIs_f24 mσ1 (by omega) (by omega)
  have fσ2 : Fr [74, 117, 118, 119, 120, 121, 122, 123] [14, 15, 24, 25, 26] σ0 σ2 := by rw [eσ2]; exact Fr_si fσ1 (by decide +kernel) (fun _ => by decide +kernel)
  have k_50 : (gi σ2 74 11).toInt = (gi σ1 74 11).toInt := gk_r eσ2 rfl
  have k_51 : (gi σ2 74 12).toInt = (gi σ1 74 12).toInt := gk_r eσ2 rfl
  have k_52 : (gi σ2 74 13).toInt = (gi σ1 74 13).toInt := gk_r eσ2 rfl
  have k_53 : (gi σ2 74 14).toInt = (gi σ1 74 14).toInt := gk_r eσ2 rfl
  have k_54 : (gi σ2 74 24).toInt = ((100 : Int32) * a1).toInt := by rw [eσ2]; exact congrArg Int32.toInt gi_si_eq
  have k_55 : (gi σ2 74 50).toInt = (gi σ1 74 50).toInt := gk_r eσ2 rfl
  exact U15 a1 (0 : Int32) σ2 mσ2 fσ2 (by omega) (by omega) (by omega) (by omega) (by first | with_reducible assumption | with_reducible rfl | omega | assumption | rfl) (by first | with_reducible assumption | with_reducible rfl | omega | assumption | rfl) (by first | with_reducible assumption | with_reducible rfl | omega | assumption | rfl) (by first | with_reducible assumption | with_reducible rfl | omega | assumption | rfl) (by first | exact fun i h9 => absurd h9 (by show ¬ ((i : Int) < 0); omega) | (rw [show v4.toInt = x2.toInt + 1 from by omega]; assumption)) (by first | with_reducible assumption | with_reducible rfl | omega | assumption | rfl) (by first | with_reducible assumption | with_reducible rfl | omega | assumption | rfl) (by first | with_reducible assumption | with_reducible rfl | omega | assumption | rfl) H (by omega)
set_option maxRecDepth 100000 in
set_option maxHeartbeats 4000000 in
theorem kF_X12_field {l : Launch} {V : Vx} {σ0 : Sg} {Qk : Int32 → Sg → Prop} (m0 : MI σ0) (pre0 : (gi σ0 74 12).toInt < (gi σ0 74 11).toInt) (pre1 : (gi σ0 74 50).toInt < (gi σ0 74 11).toInt) (h9ret : ∀ (r : Int32) (σ' : Sg), MI σ' → Fr [74, 117, 118, 119, 120, 121, 122, 123] [11, 12, 13, 14, 15, 24, 25, 26] σ0 σ' → ((gi σ' 74 12).toInt < (gi σ' 74 11).toInt) → ((gi σ' 74 50).toInt < (gi σ' 74 11).toInt) → (F_X12_field σ0 = (r, σ')) → Qk r σ') : K_X12_field l V σ0 Qk := by
  refine e_X12_field (fun M hl hV hN C => ?_)
  subst hl
  subst hV
  obtain ⟨R9, H0⟩ : ∃ R9, F_X12_field σ0 = R9 := ⟨_, rfl⟩
  have f0 : Fr [74, 117, 118, 119, 120, 121, 122, 123] [11, 12, 13, 14, 15, 24, 25, 26] σ0 σ0 := Fr_rf
  have mw11 := MI_f11 m0
  have e11 := cl_eq (x := gi σ0 74 11) (by omega)
  have H := H0
  unfold F_X12_field at H
  refine s_X12_field_0 C hN ?_
  refine ⟨?_, ?_⟩
  · intro q_1
    replace H := f_f q_1 H
    have t_2 := MI_f11 m0
    have b_3 : ¬ (gi σ0 74 11).toInt = 6 := fun h9 => q_1 (Int32.toInt_inj.mp h9)
    refine kF_X12_goesText m0 (by omega) (by omega) (by first | with_reducible assumption | with_reducible rfl | omega | assumption | rfl) (by first | with_reducible assumption | with_reducible rfl | omega | assumption | rfl) (by first | with_reducible assumption | with_reducible rfl | omega | assumption | rfl) (fun r3 σ2 mσ2 cσ2 plσ2 phσ2 (pσ2_0 : hid (r3.toInt = 1 → okF σ2 (gi σ0 74 11).toNatClampNeg)) hσ2 => ?_)
    replace H := f_b hσ2 H
    have fσ2 : Fr [74, 117, 118, 119, 120, 121, 122, 123] [11, 12, 13, 14, 15, 24, 25, 26] σ0 σ2 := Fr_tr f0 cσ2 (by decide +kernel) (by decide +kernel)
    have k_4 : (gi σ2 74 11).toInt = (gi σ0 74 11).toInt := congrArg Int32.toInt (cσ2.2.1 11 (by decide +kernel))
    have k_5 : (gi σ2 74 12).toInt = (gi σ0 74 12).toInt := congrArg Int32.toInt (cσ2.2.1 12 (by decide +kernel))
    have k_6 : (gi σ2 74 13).toInt = (gi σ0 74 13).toInt := congrArg Int32.toInt (cσ2.2.1 13 (by decide +kernel))
    have k_7 : (gi σ2 74 50).toInt = (gi σ0 74 50).toInt := congrArg Int32.toInt (cσ2.2.1 50 (by decide +kernel))
    intro σ4 eσ4
    replace H := f_l eσ4 H
    have z_8 : (0 : Int32).toInt = 0 := rfl
    have mσ4 : MI σ4 := by rw [eσ4]; exact MIs_f13 mσ2 (by omega) (by omega)
    have fσ4 : Fr [74, 117, 118, 119, 120, 121, 122, 123] [11, 12, 13, 14, 15, 24, 25, 26] σ0 σ4 := by rw [eσ4]; exact Fr_si fσ2 (by decide +kernel) (fun _ => by decide +kernel)
    have k_9 : (gi σ4 74 11).toInt = (gi σ2 74 11).toInt := gk_r eσ4 rfl
    have k_10 : (gi σ4 74 12).toInt = (gi σ2 74 12).toInt := gk_r eσ4 rfl
    have k_11 : (gi σ4 74 13).toInt = 0 := by rw [eσ4]; exact congrArg Int32.toInt gi_si_eq
    have k_12 : (gi σ4 74 14).toInt = (gi σ2 74 14).toInt := gk_r eσ4 rfl
    have k_13 : (gi σ4 74 50).toInt = (gi σ2 74 50).toInt := gk_r eσ4 rfl
    refine ⟨?_, ?_⟩
    · intro q_14
      replace H := f_f q_14 H
      have b_15 : ¬ r3.toInt = 0 := fun h9 => q_14 (Int32.toInt_inj.mp h9)
      intro σ6 eσ6
      replace H := f_l eσ6 H
      have t_16 := MI_f11 mσ4
      have mσ6 : MI σ6 := by rw [eσ6]; exact MIs_f12 mσ4 (by omega) (by omega) (FV_the mσ4.2.2 (by rw [eσ4]; exact okF_si rfl (un pσ2_0 (by omega))) (by omega))
      have fσ6 : Fr [74, 117, 118, 119, 120, 121, 122, 123] [11, 12, 13, 14, 15, 24, 25, 26] σ0 σ6 := by rw [eσ6]; exact Fr_si fσ4 (by decide +kernel) (fun _ => by decide +kernel)
      have k_17 : (gi σ6 74 11).toInt = (gi σ4 74 11).toInt := gk_r eσ6 rfl
      have k_18 : (gi σ6 74 12).toInt = (gi σ4 74 11).toInt := by rw [eσ6]; exact congrArg Int32.toInt gi_si_eq
      have k_19 : (gi σ6 74 13).toInt = (gi σ4 74 13).toInt := gk_r eσ6 rfl
      have k_20 : (gi σ6 74 14).toInt = (gi σ4 74 14).toInt := gk_r eσ6 rfl
      have k_21 : (gi σ6 74 50).toInt = (gi σ4 74 50).toInt := gk_r eσ6 rfl
      intro σ7 eσ7
      replace H := f_l eσ7 H
      have t_22 := MI_f11 mσ6
      have t_23 : ((gi σ6 74 11) + (1 : Int32)).toInt = (gi σ6 74 11).toInt + 1 := i_add (x := (gi σ6 74 11)) (y := (1 : Int32)) (by show (_ : Int) ≤ (gi σ6 74 11).toInt + 1; omega) (by show (gi σ6 74 11).toInt + 1 ≤ (_ : Int); omega)
      have mσ7 : MI σ7 := by rw [eσ7]; exact MIs_f11 mσ6 (by omega) (by omega) (FV_more mσ6.2.2 (by omega) (by omega))
      have fσ7 : Fr [74, 117, 118, 119, 120, 121, 122, 123] [11, 12, 13, 14, 15, 24, 25, 26] σ0 σ7 := by rw [eσ7]; exact Fr_si fσ6 (by decide +kernel) (fun _ => by decide +kernel)
      have k_24 : (gi σ7 74 11).toInt = ((gi σ6 74 11) + (1 : Int32)).toInt := by rw [eσ7]; exact congrArg Int32.toInt gi_si_eq
      have k_25 : (gi σ7 74 12).toInt = (gi σ6 74 12).toInt := gk_r eσ7 rfl
      have k_26 : (gi σ7 74 13).toInt = (gi σ6 74 13).toInt := gk_r eσ7 rfl
      have k_27 : (gi σ7 74 14).toInt = (gi σ6 74 14).toInt := gk_r eσ7 rfl
      have k_28 : (gi σ7 74 50).toInt = (gi σ6 74 50).toInt := gk_r eσ7 rfl
      have t_29 := MI_f12 mσ7
      exact h9ret (gi σ7 74 12) σ7 mσ7 fσ7 (by first | with_reducible assumption | with_reducible rfl | omega | assumption | rfl) (by first | with_reducible assumption | with_reducible rfl | omega | assumption | rfl) (H0.trans H.symm)
    · intro q_14
      replace H := f_t q_14 H
      have b_30 : r3.toInt = 0 := congrArg Int32.toInt q_14
      have t_31 := MI_f14 mσ4
      have t_32 : ((-10 : Int32) - (gi σ4 74 14)).toInt = (-10) - (gi σ4 74 14).toInt := i_sub (x := (-10 : Int32)) (y := (gi σ4 74 14)) (by show (_ : Int) ≤ (-10) - (gi σ4 74 14).toInt; omega) (by show (-10) - (gi σ4 74 14).toInt ≤ (_ : Int); omega)
      exact h9ret ((-10 : Int32) - (gi σ4 74 14)) σ4 mσ4 fσ4 (by first | with_reducible assumption | with_reducible rfl | omega | assumption | rfl) (by first | with_reducible assumption | with_reducible rfl | omega | assumption | rfl) (H0.trans H.symm)
  · intro q_1
    replace H := f_t q_1 H
    have t_33 := MI_f11 m0
    have b_34 : (gi σ0 74 11).toInt = 6 := congrArg Int32.toInt q_1
    have z_35 : (-4 : Int32).toInt = -4 := rfl
    exact h9ret (-4 : Int32) σ0 m0 f0 (by first | with_reducible assumption | with_reducible rfl | omega | assumption | rfl) (by first | with_reducible assumption | with_reducible rfl | omega | assumption | rfl) (H0.trans H.symm)
set_option maxRecDepth 100000 in
set_option maxHeartbeats 4000000 in
theorem kF_X12_count {l : Launch} {V : Vx} {a1 : Int32} {σ0 : Sg} {Qk : Int32 → Sg → Prop} (m0 : MI σ0) (h9ret : ∀ (r : Int32) (σ' : Sg), MI σ' → Fr [] [] σ0 σ' → (F_X12_count a1 σ0 = (r, σ')) → Qk r σ') : K_X12_count l V a1 σ0 Qk := by
  refine e_X12_count (fun M hl hV hN C => ?_)
  subst hl
  subst hV
  obtain ⟨R9, H0⟩ : ∃ R9, F_X12_count a1 σ0 = R9 := ⟨_, rfl⟩
  have f0 : Fr [] [] σ0 σ0 := Fr_rf
  have H := H0
  unfold F_X12_count at H
  refine s_X12_count_0 C hN ?_
  refine ⟨?_, ?_, ?_, ?_, ?_, ?_, ?_, ?_⟩
  · intro q_1
    replace H := f_f (by omega) H
    replace H := f_f (by omega) H
    replace H := f_f (by omega) H
    replace H := f_f (by omega) H
    replace H := f_f (by omega) H
    replace H := f_f (by omega) H
    replace H := f_f (by omega) H
    have z_2 : (-2 : Int32).toInt = -2 := rfl
    exact h9ret (-2 : Int32) σ0 m0 f0 (H0.trans H.symm)
  · intro q_1
    replace H := f_t q_1 H
    exact h9ret (gi σ0 74 0) σ0 m0 f0 (H0.trans H.symm)
  · intro q_1
    replace H := f_f (by omega) H
    replace H := f_t q_1 H
    exact h9ret (gi σ0 74 11) σ0 m0 f0 (H0.trans H.symm)
  · intro q_1
    replace H := f_f (by omega) H
    replace H := f_f (by omega) H
    replace H := f_t q_1 H
    exact h9ret (gi σ0 74 41) σ0 m0 f0 (H0.trans H.symm)
  · intro q_1
    replace H := f_f (by omega) H
    replace H := f_f (by omega) H
    replace H := f_f (by omega) H
    replace H := f_t q_1 H
    exact h9ret (gi σ0 74 45) σ0 m0 f0 (H0.trans H.symm)
  · intro q_1
    replace H := f_f (by omega) H
    replace H := f_f (by omega) H
    replace H := f_f (by omega) H
    replace H := f_f (by omega) H
    replace H := f_t q_1 H
    exact h9ret (gi σ0 74 46) σ0 m0 f0 (H0.trans H.symm)
  · intro q_1
    replace H := f_f (by omega) H
    replace H := f_f (by omega) H
    replace H := f_f (by omega) H
    replace H := f_f (by omega) H
    replace H := f_f (by omega) H
    replace H := f_t q_1 H
    exact h9ret (gi σ0 74 13) σ0 m0 f0 (H0.trans H.symm)
  · intro q_1
    replace H := f_f (by omega) H
    replace H := f_f (by omega) H
    replace H := f_f (by omega) H
    replace H := f_f (by omega) H
    replace H := f_f (by omega) H
    replace H := f_f (by omega) H
    replace H := f_t q_1 H
    exact h9ret (gi σ0 74 69) σ0 m0 f0 (H0.trans H.symm)
/-! the class's field, with what it reads -/
set_option maxRecDepth 100000 in
set_option maxHeartbeats 4000000 in
theorem fld_restF {M : Mx} {V0 : Vx} {Qk : Int32 → Vx → Sg → Prop} (C : Cx M cX11_field (some .int) RX11 wsX11_field (rmr 24 5 142) 5 142 (QIW V0 Qk)) (hN : mN M = 3) (hA : vA (mV M) = vA V0) {f : Nat} {σ : Sg} {kn : Nat × Nat} (x : XI (mV M) σ) (hc : (gi σ 0 5).toInt ≤ 5) (hr : gr σ 49 (gi σ 0 5).toNatClampNeg = some f) (hk1 : kn.1 ≤ 5) (hk2 : kn.2 ≤ 142)
    (h9 : ∀ (r : Int32) (σ' : Sg), XI (mV M) σ' → FX (fun id => id = f ∨ id = f + 1 ∨ id = f + 2 ∨ id = f + 3 ∨ id = f + 4) (fun id k => (id = 0 ∧ (k = 5 ∨ k = 7)) ∨ (id = 1 ∧ k = 10)) σ σ' → FLDR σ f r σ' → Qk r (mV M) σ') : PS M 40 [(0, .ref 0)] [] σ kn := by
  have b5 := XI_c1 x lim_0_5
  have b7 := XI_c1 x lim_0_7
  have hv : vp_in (gi σ 0 5) 6 := vp_in_iff.mpr ⟨b5.1, by omega⟩
  obtain ⟨hkf, hlf⟩ := x.2.2.1 _ f hr
  have hge := kdF_ge hkf
  refine P_aload_n C dX11_field_40 0 rfl ?_
  refine P_getS C (e := 49) fa_X11_field_30 kd_0 (d := 49) rfl (fxl fx_0) rfl dX11_field_41 ?_
  refine P_aload_n C dX11_field_44 0 rfl ?_
  refine P_getI C fa_X11_field_34 kd_0 rfl (fxl fx_0) dX11_field_45 ?_
  refine P_aldD C kd_49 (Or.inr rfl) (fxl fx_49) hv hr dX11_field_48 ?_
  refine P_astore_n C dX11_field_49 (by rw [hN]; decide) rfl ?_
  refine P_aload_n C dX11_field_50 0 rfl ?_
  refine P_aload_n C dX11_field_51 1 rfl ?_
  refine P_getS C (e := 50) fa_X11_field_38 kd_0 (d := 50) rfl (fxl fx_0) rfl dX11_field_52 ?_
  refine P_aload_n C dX11_field_55 1 rfl ?_
  refine P_getI C fa_X11_field_42 kd_0 rfl (fxl fx_0) dX11_field_56 ?_
  refine P_ci (R_v (ci := 2) C kv_X11_field_reads (As := [.ref 50, .int (gi σ 0 7)]) rfl hkf rfl hlf (Nat.le_of_ble_eq_true rfl) dX11_field_59 ⟨by show kn.1 + 0 ≤ 5; omega, by show kn.2 + 0 ≤ 142; omega⟩ (kF_X2_reads (Qk := fun r σ2 => XI (mV M) σ2 ∧ FX (fun id => id = f + 1 ∨ id = f + 2 ∨ id = f + 3 ∨ id = f + 4) (fun id k => (id = f ∧ k = 0) ∨ (id = f ∧ k = 1) ∨ (id = f ∧ k = 2) ∨ (id = f ∧ k = 4) ∨ (id = f ∧ k = 8) ∨ (id = f ∧ k = 9) ∨ (id = f ∧ k = 10) ∨ (id = f ∧ k = 11)) σ σ2 ∧ F_X2_reads f 50 (gi σ 0 7) σ = (r, σ2)) hkf hlf kd_50 (fxl fx_50) x b7.1 b7.2 rfl rfl (fun r σ' y1 y2 _ _ y3 => ⟨y1, y2, y3⟩))) (fun r σ2 h => ?_)
  obtain ⟨x2, f2, hR⟩ := h
  have f2' : FX (fun id => id = f ∨ id = f + 1 ∨ id = f + 2 ∨ id = f + 3 ∨ id = f + 4) (fun id k => (id = 0 ∧ (k = 5 ∨ k = 7)) ∨ (id = 1 ∧ k = 10)) σ σ2 := FX_tr FX_rf f2 (fun id hi => by
    rcases hi with hi | hi | hi | hi
    · exact Or.inr (Or.inl hi)
    · exact Or.inr (Or.inr (Or.inl hi))
    · exact Or.inr (Or.inr (Or.inr (Or.inl hi)))
    · exact Or.inr (Or.inr (Or.inr (Or.inr hi)))) (fun id k hi => Or.inl (Or.inl (by rcases hi with ⟨h, -⟩ | ⟨h, -⟩ | ⟨h, -⟩ | ⟨h, -⟩ | ⟨h, -⟩ | ⟨h, -⟩ | ⟨h, -⟩ | ⟨h, -⟩ <;> exact h)))
  refine P_istore_n C dX11_field_62 (by rw [hN]; decide) rfl ?_
  refine P_aload_n C dX11_field_63 2 rfl ?_
  refine P_iconst C dX11_field_64 (v := (0 : Int32)) rfl ?_
  refine P_putI C pa_X11_field_42 kd_0 rfl (fxl fx_0) dX11_field_65 ?_
  obtain ⟨σ3, e3⟩ : ∃ σ3, σ3 = si σ2 0 7 (0 : Int32) := ⟨_, rfl⟩
  rw [← e3]
  have x3 : XI (mV M) σ3 := by rw [e3]; exact XIs_b x2 lim_0_7 (by decide +kernel) (by decide +kernel)
  have f3 : FX (fun id => id = f ∨ id = f + 1 ∨ id = f + 2 ∨ id = f + 3 ∨ id = f + 4) (fun id k => (id = 0 ∧ (k = 5 ∨ k = 7)) ∨ (id = 1 ∧ k = 10)) σ σ3 := by rw [e3]; exact FX_si f2' (Or.inr (Or.inl ⟨rfl, Or.inr rfl⟩))
  have g5 : gi σ3 0 5 = gi σ 0 5 := by
    rw [e3, gi_si_ne (Or.inr (by decide +kernel))]
    exact f2.1 0 5 (by omega) (by omega)
  refine P_iload_n C dX11_field_68 0 rfl ?_
  refine P_if_ne C dX11_field_69 (tgt := 80) (by decide +kernel) (fun q9 => ?_) (fun q9 => ?_)
  · refine P_aload_n C dX11_field_80 2 rfl ?_
    refine P_getS C (e := 1) fa_X11_field_12 kd_0 (d := 1) rfl (fxl fx_0) rfl dX11_field_81 ?_
    refine P_aload_n C dX11_field_84 1 rfl ?_
    refine P_putD C pa_X11_field_71 kd_1 rfl (fxl fx_1) (fun _ => rfl) (fun _ => rfl) dX11_field_85 ?_
    obtain ⟨σ4, e4⟩ : ∃ σ4, σ4 = sr σ3 1 10 (some f) := ⟨_, rfl⟩
    rw [← e4]
    have x4 : XI (mV M) σ4 := by
      rw [e4]
      refine XIs_r x3 (fun c hc e _ => ⟨f, rfl, hkf, hlf⟩) (fun c hc e => ?_) (fun e => by omega) (fun e => ?_)
      · exfalso; rcases hc with rfl | rfl | rfl <;> omega
      · rw [kd_1] at e; cases e
    have f4 : FX (fun id => id = f ∨ id = f + 1 ∨ id = f + 2 ∨ id = f + 3 ∨ id = f + 4) (fun id k => (id = 0 ∧ (k = 5 ∨ k = 7)) ∨ (id = 1 ∧ k = 10)) σ σ4 := by rw [e4]; exact FX_sr f3 (Or.inr (Or.inr ⟨rfl, rfl⟩))
    refine P_aload_n C dX11_field_88 2 rfl ?_
    refine P_dup C dX11_field_89 rfl ?_
    refine P_getI C fa_X11_field_34 kd_0 rfl (fxl fx_0) dX11_field_90 ?_
    refine P_iconst C dX11_field_93 (v := (1 : Int32)) rfl ?_
    refine P_iadd C dX11_field_94 ?_
    refine P_putI C pa_X11_field_34 kd_0 rfl (fxl fx_0) dX11_field_95 ?_
    have g4 : gi σ4 0 5 = gi σ 0 5 := by rw [e4, gi_sr]; exact g5
    have s5 : ((gi σ4 0 5) + (1 : Int32)).toInt = (gi σ 0 5).toInt + 1 := by rw [g4]; exact i_add (y := (1 : Int32)) (by show _ ≤ (gi σ 0 5).toInt + 1; omega) (by show (gi σ 0 5).toInt + 1 ≤ _; omega)
    obtain ⟨σ5, e5⟩ : ∃ σ5, σ5 = si σ4 0 5 ((gi σ4 0 5) + (1 : Int32)) := ⟨_, rfl⟩
    rw [← e5]
    have x5 : XI (mV M) σ5 := by rw [e5]; exact XIs_b x4 lim_0_5 (by omega) (by omega)
    have f5 : FX (fun id => id = f ∨ id = f + 1 ∨ id = f + 2 ∨ id = f + 3 ∨ id = f + 4) (fun id k => (id = 0 ∧ (k = 5 ∨ k = 7)) ∨ (id = 1 ∧ k = 10)) σ σ5 := by rw [e5]; exact FX_si f4 (Or.inr (Or.inl ⟨rfl, Or.inl rfl⟩))
    refine P_aload_n C dX11_field_98 2 rfl ?_
    refine P_getI C fa_X11_field_34 kd_0 rfl (fxl fx_0) dX11_field_99 ?_
    refine P_iconst C dX11_field_102 (v := (1 : Int32)) rfl ?_
    refine P_isub C dX11_field_103 ?_
    exact P_iretW C hA (by show kn.1 + 0 ≤ 5; omega) (by show kn.2 + 0 ≤ 142; omega) dX11_field_104 (h9 _ _ x5 f5 ⟨σ2, r, hR, Or.inr ⟨q9, by rw [e5, g4, e4, e3], by rw [e5, gi_si_eq, g4]⟩⟩)
  · refine P_bipush C dX11_field_72 (v := (-10 : Int32)) rfl ?_
    refine P_aload_n C dX11_field_74 1 rfl ?_
    refine P_ci (R_v (ci := 2) C kv_X11_field_fault (As := []) rfl hkf rfl hlf (Nat.le_of_ble_eq_true rfl) dX11_field_75 ⟨by show kn.1 + 0 + 0 ≤ 5; omega, by show kn.2 + 0 + 0 ≤ 142; omega⟩ (kF_X2_fault (Qk := fun r σ4 => σ3 = σ4 ∧ F_X2_fault f σ3 = (r, σ4)) hkf hlf x3 (fun r σ' y1 y2 y3 => ⟨FX_nil y2, y3⟩))) (fun r2 σ4 h => ?_)
    obtain ⟨h, hF⟩ := h
    subst h
    have e11 : r2 = gi σ2 f 11 := by
      have hF : (gi σ3 f 11, σ3) = (r2, σ3) := hF
      rw [← (Prod.mk.inj hF).1, e3, gi_si_ne (Or.inl (by omega))]
    refine P_isub C dX11_field_78 ?_
    exact P_iretW C hA (by show kn.1 + 0 + 0 ≤ 5; omega) (by show kn.2 + 0 + 0 ≤ 142; omega) dX11_field_79 (h9 _ _ x3 f3 ⟨σ2, r, hR, Or.inl ⟨q9, by rw [e11], e3⟩⟩)
set_option maxRecDepth 100000 in
set_option maxHeartbeats 4000000 in
theorem kn_X11_field {l : Launch} {V : Vx} {σ0 : Sg} {Qk : Int32 → Vx → Sg → Prop} (hU : UPV V) (hw : wfd V) (m0 : XI V σ0) (fi : FI V σ0)
    (h9 : ∀ (r : Int32) (V' : Vx) (σ' : Sg), VR V V' → (∀ id ∈ ids V', id ∈ ids V ∨ (1000 ≤ id ∧ id < 2000)) → wfd V' → FI V' σ' → XI V' σ' → FX SFd FFd σ0 σ' → FLDC σ0 r σ' → Qk r V' σ') : K_X11_field l V σ0 Qk := by
  refine KaN_of (by decide +kernel) rfl rfl (Nat.le_of_ble_eq_true rfl) (fun M hl hV hN C hNW => ?_)
  subst hl
  subst hV
  have b5 := XI_c1 m0 lim_0_5
  show PS M 0 [(0, .ref 0)] [] σ0 (0, 0)
  refine P_aload_n C dX11_field_0 0 rfl ?_
  refine P_getI C fa_X11_field_34 kd_0 rfl (fxl fx_0) dX11_field_1 ?_
  refine P_bipush C dX11_field_4 (v := (6 : Int32)) rfl ?_
  refine P_icmp_lt C dX11_field_6 (tgt := 12) (by decide +kernel) (fun q => ?_) (fun q9 => P_bipush C dX11_field_9 (v := (-4 : Int32)) rfl (P_iretW C rfl (Nat.zero_le _) (Nat.zero_le _) dX11_field_11 (h9 _ _ _ VR_rf (fun _ h => Or.inl h) hw fi m0 FX_rf (Or.inl ⟨fun z => q9 (Int32.lt_iff_toInt_lt.mpr z), rfl, rfl⟩))))
  have q5 : (gi σ0 0 5).toInt < 6 := Int32.lt_iff_toInt_lt.mp q
  have hv : vp_in (gi σ0 0 5) 6 := vp_in_iff.mpr ⟨b5.1, by omega⟩
  have ec := cl_eq b5.1
  refine P_aload_n C dX11_field_12 0 rfl ?_
  refine P_getS C (e := 49) fa_X11_field_30 kd_0 (d := 49) rfl (fxl fx_0) rfl dX11_field_13 ?_
  refine P_aload_n C dX11_field_16 0 rfl ?_
  refine P_getI C fa_X11_field_34 kd_0 rfl (fxl fx_0) dX11_field_17 ?_
  cases hr : gr σ0 49 (gi σ0 0 5).toNatClampNeg with
  | some f =>
    obtain ⟨hkf, hlf⟩ := m0.2.2.1 _ f hr
    have hge := kdF_ge hkf
    refine P_aldD C kd_49 (Or.inr rfl) (fxl fx_49) hv hr dX11_field_20 ?_
    refine P_ifnonnull C dX11_field_21 (tgt := 40) (by decide +kernel) ?_
    refine fld_restF C hN rfl m0 (by omega) hr (Nat.zero_le _) (Nat.zero_le _) (fun r σ' y1 y2 y3 => h9 r _ σ' VR_rf (fun _ h => Or.inl h) hw (fun k hk hn => ?_) y1 (FX_tr FX_rf y2 (fun id hi => ?_) (fun id k hi => Or.inr ?_)) (Or.inr ⟨q5, f, σ0, Or.inl ⟨hr, rfl⟩, y3⟩))
    · rw [y2.2.2 49 k (by omega) (by omega)] at hn
      exact fi k hk hn
    · show (69 ≤ id ∧ id < 74) ∨ (1000 ≤ id ∧ id < 2000)
      omega
    · rcases hi with hi | hi
      · exact Or.inl hi
      · exact Or.inr (Or.inl hi)
  | none =>
    refine P_aldN C kd_49 (Or.inr rfl) (fxl fx_49) hv hr dX11_field_20 ?_
    refine P_ifnonnullN C dX11_field_21 ?_
    refine P_aload_n C dX11_field_24 0 rfl ?_
    refine P_getS C (e := 49) fa_X11_field_30 kd_0 (d := 49) rfl (fxl fx_0) rfl dX11_field_25 ?_
    refine P_aload_n C dX11_field_28 0 rfl ?_
    refine P_getI C fa_X11_field_34 kd_0 rfl (fxl fx_0) dX11_field_29 ?_
    refine P_newF (k9 := (gi σ0 0 5).toNatClampNeg) C hU hNW m0 (by omega) (fi _ (by omega) hr) ws2_X11_field cl_X11_field il_X11_field nl_X11_field kin_X11_field rfl rfl (Nat.le_of_ble_eq_true rfl) dX11_field_32 dX11_field_35 dX11_field_36 ⟨Nat.le_of_ble_eq_true rfl, Nat.le_of_ble_eq_true rfl⟩ (fun a h => ?_) (fun a h => ?_) (fun q0 q1 q2 q3 q4 hvr hwf => ?_)
    · have h : a = 0 := by simpa using h
      subst h; exact fxl fx_0
    · have h : a = 49 := by simpa using h
      subst h; exact fxl fx_49
    obtain ⟨f, ef⟩ : ∃ f, f = 1000 + 5 * (gi σ0 0 5).toNatClampNeg := ⟨_, rfl⟩
    have hkf : kd f = (12, 0) := by rw [ef]; exact kd_f (by omega)
    have hfr := fi _ (by omega) hr
    rw [← ef] at hvr hwf hfr ⊢
    have C' := Cx_vr C hvr hwf
    have eV : mV (mset M (vext (mV M) (fL f q0 q1 q2 q3 q4))) = vext (mV M) (fL f q0 q1 q2 q3 q4) := mset_V
    have hin : f ∈ ids (vext (mV M) (fL f q0 q1 q2 q3 q4)) := by rw [vext_ids]; exact List.mem_append_right _ (by simp [fL])
    have x1 : XI (vext (mV M) (fL f q0 q1 q2 q3 q4)) (fnew σ0 f) := XI_vr hvr (XI_f m0 hkf (by omega))
    refine P_astF C' kd_49 (fxl fx_49) hv hkf (by rw [eV]; exact hin) dX11_field_39 ?_
    obtain ⟨σ2, e2⟩ : ∃ σ2, σ2 = sr (fnew σ0 f) 49 (gi σ0 0 5).toNatClampNeg (some f) := ⟨_, rfl⟩
    rw [← e2]
    have x2 : XI (vext (mV M) (fL f q0 q1 q2 q3 q4)) σ2 := by
      rw [e2]
      refine XIs_r x1 (fun c hc e _ => ?_) (fun c hc e => ?_) (fun _ g hg => ?_) (fun e => ?_)
      · exfalso; rcases hc with rfl | rfl | rfl <;> omega
      · exfalso; rcases hc with rfl | rfl | rfl <;> omega
      · obtain rfl : f = g := Option.some.inj hg
        exact ⟨hkf, hin⟩
      · rw [kd_49] at e; cases e
    have g5 : gi σ2 0 5 = gi σ0 0 5 := by rw [e2, gi_sr]; exact fn_i (by omega)
    have hr2 : gr σ2 49 (gi σ2 0 5).toNatClampNeg = some f := by rw [g5, e2, gr_sr, if_pos ⟨rfl, rfl⟩]
    have hold : ∀ k, k ≠ (gi σ0 0 5).toNatClampNeg → gr σ2 49 k = gr σ0 49 k := fun k hk => by
      rw [e2, gr_sr, if_neg (fun z => hk z.2), fn_r, if_neg (by omega)]
    have f2 : FX SFd FFd σ0 σ2 := by
      refine ⟨fun id k n1 n2 => ?_, fun id k n1 => ?_, fun id k n1 n2 => ?_⟩
      · rw [e2, gi_sr]; exact fn_i (fun z => n1 (Or.inr (by omega)))
      · rw [e2]; rfl
      · rw [e2, gr_sr, if_neg (fun z => n2 (Or.inr (Or.inr z.1))), fn_r, if_neg (fun z => n1 (Or.inr (by omega)))]
    refine fld_restF (V0 := mV M) C' (by rw [mset_N]; exact hN) (by rw [eV]; rfl) (by rw [eV]; exact x2) (by rw [g5]; omega) hr2 (Nat.le_of_ble_eq_true rfl) (Nat.le_of_ble_eq_true rfl) (fun r σ' y1 y2 y3 => ?_)
    rw [eV] at y1 ⊢
    refine h9 r _ σ' hvr (fun id hi => ?_) hwf (fun k hk hn j hj => ?_) y1 (FX_tr f2 y2 (fun id hi => ?_) (fun id k hi => Or.inr ?_)) (Or.inr ⟨q5, f, σ2, Or.inr ⟨hr, ef, e2⟩, y3⟩)
    · rw [vext_ids] at hi
      rcases List.mem_append.mp hi with hi | hi
      · exact Or.inl hi
      · have hi : id = f ∨ id = f + 1 ∨ id = f + 2 ∨ id = f + 3 ∨ id = f + 4 := by simpa [fL] using hi
        exact Or.inr (by omega)
    · rw [y2.2.2 49 k (by omega) (by omega)] at hn
      by_cases hkk : k = (gi σ0 0 5).toNatClampNeg
      · rw [hkk, ← g5, hr2] at hn; cases hn
      · rw [hold k hkk] at hn
        rw [vext_ids]
        intro z
        rcases List.mem_append.mp z with z | z
        · exact fi k hk hn j hj z
        · have z : 1000 + 5 * k + j = f ∨ 1000 + 5 * k + j = f + 1 ∨ 1000 + 5 * k + j = f + 2 ∨ 1000 + 5 * k + j = f + 3 ∨ 1000 + 5 * k + j = f + 4 := by simpa [fL] using z
          omega
    · show (69 ≤ id ∧ id < 74) ∨ (1000 ≤ id ∧ id < 2000)
      omega
    · rcases hi with hi | hi
      · exact Or.inl hi
      · exact Or.inr (Or.inl hi)

set_option maxHeartbeats 4000000 in
theorem L4_X11_field {l : Launch} {V : Vx} {σ0 : Sg} (hU : UPV V) (hw : wfd V) (q : INV V σ0) : K_X11_field l V σ0 (fun r V' σ' => VR V V' ∧ wfd V' ∧ INV V' σ' ∧ FX SFd FFd σ0 σ' ∧ FLDC σ0 r σ') := by
  refine kn_X11_field hU hw q.1.1 q.1.2.2.2.2.2.2.2.2.2 (fun r V' σ' v hi hw2 fi x f fc => ⟨v, hw2, ?_, f, fc⟩)
  obtain ⟨⟨q1, q2, q3, q4, q5, q6, q7, q8, q9, q10⟩, qm⟩ := q
  exact ⟨⟨x, NN_fx q2 f (by intro h9; (try dsimp only [SFd, FFd] at h9) <;> first | exact h9 | omega) (by intro h9; (try dsimp only [SFd, FFd] at h9) <;> first | exact h9 | omega) (by intro h9; (try dsimp only [SFd, FFd] at h9) <;> first | exact h9 | omega) (by intro h9; (try dsimp only [SFd, FFd] at h9) <;> first | exact h9 | omega) (by intro h9; (try dsimp only [SFd, FFd] at h9) <;> first | exact h9 | omega) (fun k => (by intro h9; (try dsimp only [SFd, FFd] at h9) <;> first | exact h9 | omega)) (fun k => (by intro h9; (try dsimp only [SFd, FFd] at h9) <;> first | exact h9 | omega)), NN_fx q3 f (by intro h9; (try dsimp only [SFd, FFd] at h9) <;> first | exact h9 | omega) (by intro h9; (try dsimp only [SFd, FFd] at h9) <;> first | exact h9 | omega) (by intro h9; (try dsimp only [SFd, FFd] at h9) <;> first | exact h9 | omega) (by intro h9; (try dsimp only [SFd, FFd] at h9) <;> first | exact h9 | omega) (by intro h9; (try dsimp only [SFd, FFd] at h9) <;> first | exact h9 | omega) (fun k => (by intro h9; (try dsimp only [SFd, FFd] at h9) <;> first | exact h9 | omega)) (fun k => (by intro h9; (try dsimp only [SFd, FFd] at h9) <;> first | exact h9 | omega)), by rw [FX_i f (id := 1) (k := 3) (by intro h9; (try dsimp only [SFd, FFd] at h9) <;> first | exact h9 | omega) (by intro h9; (try dsimp only [SFd, FFd] at h9) <;> first | exact h9 | omega), FX_i f (id := 1) (k := 1) (by intro h9; (try dsimp only [SFd, FFd] at h9) <;> first | exact h9 | omega) (by intro h9; (try dsimp only [SFd, FFd] at h9) <;> first | exact h9 | omega)]; exact q4, by rw [FX_i f (id := 17) (k := 3) (by intro h9; (try dsimp only [SFd, FFd] at h9) <;> first | exact h9 | omega) (by intro h9; (try dsimp only [SFd, FFd] at h9) <;> first | exact h9 | omega), FX_i f (id := 17) (k := 1) (by intro h9; (try dsimp only [SFd, FFd] at h9) <;> first | exact h9 | omega) (by intro h9; (try dsimp only [SFd, FFd] at h9) <;> first | exact h9 | omega)]; exact q5, by rw [FX_i f (id := 1) (k := 9) (by intro h9; (try dsimp only [SFd, FFd] at h9) <;> first | exact h9 | omega) (by intro h9; (try dsimp only [SFd, FFd] at h9) <;> first | exact h9 | omega)]; exact q6, by rw [FX_i f (id := 17) (k := 9) (by intro h9; (try dsimp only [SFd, FFd] at h9) <;> first | exact h9 | omega) (by intro h9; (try dsimp only [SFd, FFd] at h9) <;> first | exact h9 | omega)]; exact q7, by rw [FX_i f (id := 9) (k := 1) (by intro h9; (try dsimp only [SFd, FFd] at h9) <;> first | exact h9 | omega) (by intro h9; (try dsimp only [SFd, FFd] at h9) <;> first | exact h9 | omega)]; exact q8, by rw [FX_i f (id := 25) (k := 1) (by intro h9; (try dsimp only [SFd, FFd] at h9) <;> first | exact h9 | omega) (by intro h9; (try dsimp only [SFd, FFd] at h9) <;> first | exact h9 | omega)]; exact q9, fi⟩, IVM_ag (MA_fx f (by intro id h9; (try dsimp only [SFd] at h9) <;> omega) (by intro id k h9; (try dsimp only [FFd] at h9) <;> omega)) qm⟩
/-! methods in words of INV, with what they are as functions -/
set_option maxHeartbeats 4000000 in
theorem L4_X11_feed {l : Launch} {V : Vx} {a1 : Int32} {σ0 : Sg} {Qk : Int32 → Sg → Prop} (q : INV V σ0) (h9ret : ∀ (r : Int32) (σ' : Sg), INV V σ' → (FX (fun id => id = 50) (fun id k => (id = 0 ∧ k = 7)) σ0 σ') → (F_X11_feed a1 σ0 = (r, σ')) → Qk r σ') : K_X11_feed l V a1 σ0 Qk := by
  refine kF_X11_feed q.1.1 (fun r σ' p0 p1 p2 => h9ret r σ' ?_ p1 p2)
  exact INV_fx (FX_tr FX_rf p1 (by intro id h9; (try dsimp only at h9) <;> unfold Sf <;> first | exact h9.elim | omega) (by intro id k h9; (try dsimp only at h9) <;> unfold Sf Ff <;> first | exact h9.elim | omega)) p0 q
set_option maxHeartbeats 4000000 in
theorem L4_X11_count {l : Launch} {V : Vx} {a1 : Int32} {σ0 : Sg} {Qk : Int32 → Sg → Prop} (q : INV V σ0) (h9ret : ∀ (r : Int32) (σ' : Sg), INV V σ' → (FX (fun id => False) (fun _ _ => False) σ0 σ') → (F_X11_count a1 σ0 = (r, σ')) → Qk r σ') : K_X11_count l V a1 σ0 Qk := by
  refine kF_X11_count q.1.1 (fun r σ' p0 p1 p2 => h9ret r σ' ?_ p1 p2)
  exact INV_fx (FX_tr FX_rf p1 (by intro id h9; (try dsimp only at h9) <;> unfold Sf <;> first | exact h9.elim | omega) (by intro id k h9; (try dsimp only at h9) <;> unfold Sf Ff <;> first | exact h9.elim | omega)) p0 q
set_option maxHeartbeats 4000000 in
theorem L4_X12_feed {l : Launch} {V : Vx} {a1 : Int32} {σ0 : Sg} {Qk : Int32 → Sg → Prop} (q : INV V σ0) (h9ret : ∀ (r : Int32) (σ' : Sg), INV V σ' → (Fr [74, 116] [13] σ0 σ') → (F_X12_feed a1 σ0 = (r, σ')) → Qk r σ') : K_X12_feed l V a1 σ0 Qk := by
  refine kF_X12_feed q.2.1 (fun r σ' p0 p1 p2 => h9ret r σ' ?_ p1 p2)
  refine INV_m p1 (by decide +kernel) q ?_
  obtain ⟨-, q1, q2, q3, q4, q5, q6, q7⟩ := q
  exact ⟨p0, by rw [p1.2.1 12 (by decide +kernel), p1.2.1 11 (by decide +kernel)]; exact q2, by rw [p1.2.1 50 (by decide +kernel), p1.2.1 11 (by decide +kernel)]; exact q3, PL_fr q4 p1 (by decide +kernel) (by decide +kernel), PLI_fr q5 p1 (by decide +kernel) (by decide +kernel), by rw [p1.2.1 1 (by decide +kernel)]; exact q6, by rw [p1.2.1 52 (by decide +kernel)]; exact q7⟩
set_option maxHeartbeats 4000000 in
theorem L4_X12_field {l : Launch} {V : Vx} {σ0 : Sg} {Qk : Int32 → Sg → Prop} (q : INV V σ0) (h9ret : ∀ (r : Int32) (σ' : Sg), INV V σ' → (Fr [74, 117, 118, 119, 120, 121, 122, 123] [11, 12, 13, 14, 15, 24, 25, 26] σ0 σ') → ((gi σ' 74 12).toInt < (gi σ' 74 11).toInt) → ((gi σ' 74 50).toInt < (gi σ' 74 11).toInt) → (F_X12_field σ0 = (r, σ')) → Qk r σ') : K_X12_field l V σ0 Qk := by
  refine kF_X12_field q.2.1 q.2.2.1 q.2.2.2.1 (fun r σ' p0 p1 p2 p3 p4 => h9ret r σ' ?_ p1 p2 p3 p4)
  refine INV_m p1 (by decide +kernel) q ?_
  obtain ⟨-, q1, q2, q3, q4, q5, q6, q7⟩ := q
  exact ⟨p0, p2, p3, PL_fr q4 p1 (by decide +kernel) (by decide +kernel), PLI_fr q5 p1 (by decide +kernel) (by decide +kernel), by rw [p1.2.1 1 (by decide +kernel)]; exact q6, by rw [p1.2.1 52 (by decide +kernel)]; exact q7⟩
set_option maxHeartbeats 4000000 in
theorem L4_X12_count {l : Launch} {V : Vx} {a1 : Int32} {σ0 : Sg} {Qk : Int32 → Sg → Prop} (q : INV V σ0) (h9ret : ∀ (r : Int32) (σ' : Sg), INV V σ' → (Fr [] [] σ0 σ') → (F_X12_count a1 σ0 = (r, σ')) → Qk r σ') : K_X12_count l V a1 σ0 Qk := by
  refine kF_X12_count q.2.1 (fun r σ' p0 p1 p2 => h9ret r σ' ?_ p1 p2)
  refine INV_m p1 (by decide +kernel) q ?_
  obtain ⟨-, q1, q2, q3, q4, q5, q6, q7⟩ := q
  exact ⟨p0, by rw [p1.2.1 12 (by decide +kernel), p1.2.1 11 (by decide +kernel)]; exact q2, by rw [p1.2.1 50 (by decide +kernel), p1.2.1 11 (by decide +kernel)]; exact q3, PL_fr q4 p1 (by decide +kernel) (by decide +kernel), PLI_fr q5 p1 (by decide +kernel) (by decide +kernel), by rw [p1.2.1 1 (by decide +kernel)]; exact q6, by rw [p1.2.1 52 (by decide +kernel)]; exact q7⟩
/-! both states alike, texts and fields too -/
noncomputable def RELF (σ : Sg) : Prop := REL σ ∧ RF σ
theorem CNT_count {a1 r1 r2 : Int32} {σ σ1 σ2 : Sg} (h41 : 0 ≤ (gi σ 74 41).toInt) (q : REL σ) (qf : RF σ) (f : FX (fun id => False) (fun _ _ => False) σ σ1) (h1 : F_X11_count a1 σ = (r1, σ1)) (h2 : F_X12_count a1 σ1 = (r2, σ2)) : r1 = r2 := by
  have e := FX_nil f
  subst e
  obtain ⟨⟨s1, s2, s3, s4, s5, s6, s7, s8, s9, s10, s11⟩, -, ⟨⟨tp, -⟩, -⟩⟩ := q
  obtain ⟨⟨⟨t1, -⟩, ⟨f1, -⟩, -⟩, -⟩ := qf
  unfold F_X11_count at h1
  unfold F_X12_count at h2
  by_cases c0 : a1.toInt = 0
  · rw [if_pos c0] at h1 h2
    rw [← (Prod.mk.inj h1).1, ← (Prod.mk.inj h2).1]; exact i_eq s1
  rw [if_neg c0] at h1 h2
  by_cases c1 : a1.toInt = 1
  · rw [if_pos c1] at h1 h2
    rw [← (Prod.mk.inj h1).1, ← (Prod.mk.inj h2).1]; exact i_eq f1
  rw [if_neg c1] at h1 h2
  by_cases c2 : a1.toInt = 2
  · rw [if_pos c2] at h1 h2
    rw [← (Prod.mk.inj h1).1, ← (Prod.mk.inj h2).1]
    exact i_eq (by rw [i_div (k := 3) (by omega) (by decide +kernel) rfl, s10]; omega)
  rw [if_neg c2] at h1 h2
  by_cases c3 : a1.toInt = 3
  · rw [if_pos c3] at h1 h2
    rw [← (Prod.mk.inj h1).1, ← (Prod.mk.inj h2).1]; exact i_eq s4
  rw [if_neg c3] at h1 h2
  by_cases c4 : a1.toInt = 4
  · rw [if_pos c4] at h1 h2
    rw [← (Prod.mk.inj h1).1, ← (Prod.mk.inj h2).1]; exact i_eq s6
  rw [if_neg c4] at h1 h2
  by_cases c5 : a1.toInt = 5
  · rw [if_pos c5] at h1 h2
    rw [← (Prod.mk.inj h1).1, ← (Prod.mk.inj h2).1]; exact i_eq t1
  rw [if_neg c5] at h1 h2
  by_cases c6 : a1.toInt = 6
  · rw [if_pos c6] at h1 h2
    rw [← (Prod.mk.inj h1).1, ← (Prod.mk.inj h2).1]; exact tp
  rw [if_neg c6] at h1 h2
  rw [← (Prod.mk.inj h1).1, ← (Prod.mk.inj h2).1]
