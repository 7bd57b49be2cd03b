/-! image, undo, the model's mower: answers, and counts -/
theorem CPY_fx {S : Nat → Prop} {F : Nat → Nat → Prop} {σ σ1 σ2 : Sg} {c a : Nat} (h : CPY σ σ1 c a) (f : FX S F σ1 σ2) (h1 : ∀ id, c ≤ id ∧ id ≤ c + 7 → ¬ S id) (h2 : ∀ id k, c ≤ id ∧ id ≤ c + 7 → ¬ F id k) : CPY σ σ2 c a := by
  have e : ∀ id k, c ≤ id ∧ id ≤ c + 7 → gi σ2 id k = gi σ1 id k := fun id k q => f.1 id k (h1 id q) (h2 id k q)
  have g : ∀ id k, c ≤ id ∧ id ≤ c + 7 → gr σ2 id k = gr σ1 id k := fun id k q => f.2.2 id k (h1 id q) (h2 id k q)
  obtain ⟨⟨p1, p2, p3, p4, p5⟩, ⟨q1, q2⟩, q3⟩ := h
  refine ⟨⟨?_, ?_, ?_, ?_, ?_⟩, ⟨fun k hk => ?_, fun j j1 j2 k hk => ?_⟩, fun k hk => ?_⟩
  · rw [e _ _ (by omega)]; exact p1
  · rw [e _ _ (by omega)]; exact p2
  · rw [e _ _ (by omega)]; exact p3
  · rw [e _ _ (by omega)]; exact p4
  · rw [g _ _ (by omega)]; exact p5
  · rw [g _ _ (by omega)]; exact q1 k hk
  · rw [e _ _ (by omega)]; exact q2 j j1 j2 k hk
  · rw [e _ _ (by omega)]; exact q3 k hk
theorem CPY_si {σ σ1 : Sg} {c a b k : Nat} {v : Int32} (h : CPY σ σ1 c a) (hb : b < c ∨ c + 7 < b) : CPY σ (si σ1 b k v) c a :=
  CPY_fx h (S := fun id => id = b) (F := fun _ _ => False) (FX_si FX_rf (Or.inl rfl)) (fun id q z => by have z : id = b := z; omega) (fun _ _ _ z => z)
set_option maxRecDepth 100000 in
set_option maxHeartbeats 4000000 in
theorem kt_X11_image {l : Launch} {V : Vx} {σ0 : Sg} {Qk : Int32 → Sg → Prop} (m0 : XI V σ0) (nn_1 : NN σ0 1) (h9ret : ∀ (r : Int32) (σ' : Sg), XI V σ' → FX (fun id => id = 18 ∨ id = 19 ∨ id = 20 ∨ id = 21 ∨ id = 22 ∨ id = 23 ∨ id = 24 ∨ id = 26 ∨ id = 28 ∨ id = 30) (fun id k => (id = 0 ∧ k = 3) ∨ (id = 17 ∧ k = 1) ∨ (id = 17 ∧ k = 3) ∨ (id = 17 ∧ k = 9) ∨ (id = 17 ∧ k = 10) ∨ (id = 17 ∧ k = 11) ∨ (id = 25 ∧ k = 1) ∨ (id = 27 ∧ k = 1) ∨ (id = 29 ∧ k = 1)) σ0 σ' → (NN σ' 1) → (NN σ' 17) → ((gi σ' 17 1).toInt = (gi σ0 1 1).toInt) → ((gi σ' 17 3).toInt = (gi σ0 1 3).toInt) → ((gi σ' 17 9).toInt = (gi σ0 1 9).toInt) → ((gi σ' 25 1).toInt = (gi σ0 9 1).toInt) → (CPY σ0 σ' 17 1) → ((gi σ' 27 1).toInt = (gi σ0 11 1).toInt) → ((gi σ' 29 1).toInt = (gi σ0 13 1).toInt) → ((gi σ' 0 3).toInt = 1) → (r.toInt = (gi σ0 1 1).toInt) → Qk r σ') : K_X11_image l V σ0 Qk := by
  refine e_X11_image (fun M hl hV hN C => ?_)
  subst hl
  subst hV
  have f0 : FX (fun id => id = 18 ∨ id = 19 ∨ id = 20 ∨ id = 21 ∨ id = 22 ∨ id = 23 ∨ id = 24 ∨ id = 26 ∨ id = 28 ∨ id = 30) (fun id k => (id = 0 ∧ k = 3) ∨ (id = 17 ∧ k = 1) ∨ (id = 17 ∧ k = 3) ∨ (id = 17 ∧ k = 9) ∨ (id = 17 ∧ k = 10) ∨ (id = 17 ∧ k = 11) ∨ (id = 25 ∧ k = 1) ∨ (id = 27 ∧ k = 1) ∨ (id = 29 ∧ k = 1)) σ0 σ0 := FX_rf
  have t_1 := XI_c1 m0 (id := 0) (k := 3) (rfl)
  have t_2 := XI_c1 m0 (id := 1) (k := 1) (lim_C0_1 (Or.inl rfl))
  have t_3 := XI_c1 m0 (id := 1) (k := 3) (lim_C0_3 (Or.inl rfl))
  have t_4 := XI_c1 m0 (id := 1) (k := 9) (lim_C0_9 (Or.inl rfl))
  have t_5 := XI_c1 m0 (id := 11) (k := 1) (lim_C10_1 (Or.inl rfl))
  have t_6 := XI_c1 m0 (id := 13) (k := 1) (lim_C12_1 (Or.inl rfl))
  have t_7 := XI_c1 m0 (id := 17) (k := 1) (lim_C0_1 (Or.inr (Or.inl rfl)))
  have t_8 := XI_c1 m0 (id := 17) (k := 3) (lim_C0_3 (Or.inr (Or.inl rfl)))
  have t_9 := XI_c1 m0 (id := 17) (k := 9) (lim_C0_9 (Or.inr (Or.inl rfl)))
  have t_10 := XI_c1 m0 (id := 25) (k := 1) (lim_C8_1 (Or.inr (Or.inl rfl)))
  have t_11 := XI_c1 m0 (id := 27) (k := 1) (lim_C10_1 (Or.inr (Or.inl rfl)))
  have t_12 := XI_c1 m0 (id := 29) (k := 1) (lim_C12_1 (Or.inr (Or.inl rfl)))
  have t_13 := XI_c1 m0 (id := 9) (k := 1) (lim_C8_1 (Or.inl rfl))
  refine s_X11_image_0 C hN  ?_
  have z_14 : (1 : Int32).toInt = 1 := rfl
  refine k_X1_becomes (Or.inr (Or.inl rfl)) (Or.inl rfl) m0 nn_1 (by first | with_reducible assumption | with_reducible rfl | omega | assumption | rfl) (fun σ1 mσ1 cσ1 nσ1_1 nσ1_17 (pσ1_0 : (gi σ1 17 1).toInt = (gi σ0 1 1).toInt) (pσ1_1 : (gi σ1 17 3).toInt = (gi σ0 1 3).toInt) (pσ1_2 : (gi σ1 17 9).toInt = (gi σ0 1 9).toInt) (pσ1_3 : CPY σ0 σ1 17 1) => ?_)
  have fσ1 : FX (fun id => id = 18 ∨ id = 19 ∨ id = 20 ∨ id = 21 ∨ id = 22 ∨ id = 23 ∨ id = 24 ∨ id = 26 ∨ id = 28 ∨ id = 30) (fun id k => (id = 0 ∧ k = 3) ∨ (id = 17 ∧ k = 1) ∨ (id = 17 ∧ k = 3) ∨ (id = 17 ∧ k = 9) ∨ (id = 17 ∧ k = 10) ∨ (id = 17 ∧ k = 11) ∨ (id = 25 ∧ k = 1) ∨ (id = 27 ∧ k = 1) ∨ (id = 29 ∧ k = 1)) σ0 σ1 := FX_tr f0 cσ1 (fun x (h9 : x = 18 ∨ x = 19 ∨ x = 20 ∨ x = 21 ∨ x = 22 ∨ x = 23 ∨ x = 24) => h9.elim (fun e9 => (show x = 18 ∨ x = 19 ∨ x = 20 ∨ x = 21 ∨ x = 22 ∨ x = 23 ∨ x = 24 ∨ x = 26 ∨ x = 28 ∨ x = 30 from Or.inl (e9))) (fun h9 => h9.elim (fun e9 => (show x = 18 ∨ x = 19 ∨ x = 20 ∨ x = 21 ∨ x = 22 ∨ x = 23 ∨ x = 24 ∨ x = 26 ∨ x = 28 ∨ x = 30 from Or.inr (Or.inl (e9)))) (fun h9 => h9.elim (fun e9 => (show x = 18 ∨ x = 19 ∨ x = 20 ∨ x = 21 ∨ x = 22 ∨ x = 23 ∨ x = 24 ∨ x = 26 ∨ x = 28 ∨ x = 30 from Or.inr (Or.inr (Or.inl (e9))))) (fun h9 => h9.elim (fun e9 => (show x = 18 ∨ x = 19 ∨ x = 20 ∨ x = 21 ∨ x = 22 ∨ x = 23 ∨ x = 24 ∨ x = 26 ∨ x = 28 ∨ x = 30 from Or.inr (Or.inr (Or.inr (Or.inl (e9)))))) (fun h9 => h9.elim (fun e9 => (show x = 18 ∨ x = 19 ∨ x = 20 ∨ x = 21 ∨ x = 22 ∨ x = 23 ∨ x = 24 ∨ x = 26 ∨ x = 28 ∨ x = 30 from Or.inr (Or.inr (Or.inr (Or.inr (Or.inl (e9))))))) (fun h9 => h9.elim (fun e9 => (show x = 18 ∨ x = 19 ∨ x = 20 ∨ x = 21 ∨ x = 22 ∨ x = 23 ∨ x = 24 ∨ x = 26 ∨ x = 28 ∨ x = 30 from Or.inr (Or.inr (Or.inr (Or.inr (Or.inr (Or.inl (e9)))))))) (fun h9 => (show x = 18 ∨ x = 19 ∨ x = 20 ∨ x = 21 ∨ x = 22 ∨ x = 23 ∨ x = 24 ∨ x = 26 ∨ x = 28 ∨ x = 30 from Or.inr (Or.inr (Or.inr (Or.inr (Or.inr (Or.inr (Or.inl (h9))))))))))))))) (fun x k (h9 : (x = 17 ∧ k = 1) ∨ (x = 17 ∧ k = 3) ∨ (x = 17 ∧ k = 9) ∨ (x = 17 ∧ k = 10) ∨ (x = 17 ∧ k = 11)) => (show (x = 18 ∨ x = 19 ∨ x = 20 ∨ x = 21 ∨ x = 22 ∨ x = 23 ∨ x = 24 ∨ x = 26 ∨ x = 28 ∨ x = 30) ∨ ((x = 0 ∧ k = 3) ∨ (x = 17 ∧ k = 1) ∨ (x = 17 ∧ k = 3) ∨ (x = 17 ∧ k = 9) ∨ (x = 17 ∧ k = 10) ∨ (x = 17 ∧ k = 11) ∨ (x = 25 ∧ k = 1) ∨ (x = 27 ∧ k = 1) ∨ (x = 29 ∧ k = 1)) from h9.elim (fun e9 => Or.inr (show (x = 0 ∧ k = 3) ∨ (x = 17 ∧ k = 1) ∨ (x = 17 ∧ k = 3) ∨ (x = 17 ∧ k = 9) ∨ (x = 17 ∧ k = 10) ∨ (x = 17 ∧ k = 11) ∨ (x = 25 ∧ k = 1) ∨ (x = 27 ∧ k = 1) ∨ (x = 29 ∧ k = 1) from Or.inr (Or.inl (e9)))) (fun h9 => h9.elim (fun e9 => Or.inr (show (x = 0 ∧ k = 3) ∨ (x = 17 ∧ k = 1) ∨ (x = 17 ∧ k = 3) ∨ (x = 17 ∧ k = 9) ∨ (x = 17 ∧ k = 10) ∨ (x = 17 ∧ k = 11) ∨ (x = 25 ∧ k = 1) ∨ (x = 27 ∧ k = 1) ∨ (x = 29 ∧ k = 1) from Or.inr (Or.inr (Or.inl (e9))))) (fun h9 => h9.elim (fun e9 => Or.inr (show (x = 0 ∧ k = 3) ∨ (x = 17 ∧ k = 1) ∨ (x = 17 ∧ k = 3) ∨ (x = 17 ∧ k = 9) ∨ (x = 17 ∧ k = 10) ∨ (x = 17 ∧ k = 11) ∨ (x = 25 ∧ k = 1) ∨ (x = 27 ∧ k = 1) ∨ (x = 29 ∧ k = 1) from Or.inr (Or.inr (Or.inr (Or.inl (e9)))))) (fun h9 => h9.elim (fun e9 => Or.inr (show (x = 0 ∧ k = 3) ∨ (x = 17 ∧ k = 1) ∨ (x = 17 ∧ k = 3) ∨ (x = 17 ∧ k = 9) ∨ (x = 17 ∧ k = 10) ∨ (x = 17 ∧ k = 11) ∨ (x = 25 ∧ k = 1) ∨ (x = 27 ∧ k = 1) ∨ (x = 29 ∧ k = 1) from Or.inr (Or.inr (Or.inr (Or.inr (Or.inl (e9))))))) (fun h9 => Or.inr (show (x = 0 ∧ k = 3) ∨ (x = 17 ∧ k = 1) ∨ (x = 17 ∧ k = 3) ∨ (x = 17 ∧ k = 9) ∨ (x = 17 ∧ k = 10) ∨ (x = 17 ∧ k = 11) ∨ (x = 25 ∧ k = 1) ∨ (x = 27 ∧ k = 1) ∨ (x = 29 ∧ k = 1) from Or.inr (Or.inr (Or.inr (Or.inr (Or.inr (Or.inl (h9)))))))))))))
  have k_15 : (gi σ1 0 3).toInt = (gi σ0 0 3).toInt := congrArg Int32.toInt (FX_i cσ1 (show ¬ (0 = 18 ∨ 0 = 19 ∨ 0 = 20 ∨ 0 = 21 ∨ 0 = 22 ∨ 0 = 23 ∨ 0 = 24) from by omega) (show ¬ ((0 = 17 ∧ 3 = 1) ∨ (0 = 17 ∧ 3 = 3) ∨ (0 = 17 ∧ 3 = 9) ∨ (0 = 17 ∧ 3 = 10) ∨ (0 = 17 ∧ 3 = 11)) from by omega))
  have k_16 : (gi σ1 1 1).toInt = (gi σ0 1 1).toInt := congrArg Int32.toInt (FX_i cσ1 (show ¬ (1 = 18 ∨ 1 = 19 ∨ 1 = 20 ∨ 1 = 21 ∨ 1 = 22 ∨ 1 = 23 ∨ 1 = 24) from by omega) (show ¬ ((1 = 17 ∧ 1 = 1) ∨ (1 = 17 ∧ 1 = 3) ∨ (1 = 17 ∧ 1 = 9) ∨ (1 = 17 ∧ 1 = 10) ∨ (1 = 17 ∧ 1 = 11)) from by omega))
  have k_17 : (gi σ1 1 3).toInt = (gi σ0 1 3).toInt := congrArg Int32.toInt (FX_i cσ1 (show ¬ (1 = 18 ∨ 1 = 19 ∨ 1 = 20 ∨ 1 = 21 ∨ 1 = 22 ∨ 1 = 23 ∨ 1 = 24) from by omega) (show ¬ ((1 = 17 ∧ 3 = 1) ∨ (1 = 17 ∧ 3 = 3) ∨ (1 = 17 ∧ 3 = 9) ∨ (1 = 17 ∧ 3 = 10) ∨ (1 = 17 ∧ 3 = 11)) from by omega))
  have k_18 : (gi σ1 1 9).toInt = (gi σ0 1 9).toInt := congrArg Int32.toInt (FX_i cσ1 (show ¬ (1 = 18 ∨ 1 = 19 ∨ 1 = 20 ∨ 1 = 21 ∨ 1 = 22 ∨ 1 = 23 ∨ 1 = 24) from by omega) (show ¬ ((1 = 17 ∧ 9 = 1) ∨ (1 = 17 ∧ 9 = 3) ∨ (1 = 17 ∧ 9 = 9) ∨ (1 = 17 ∧ 9 = 10) ∨ (1 = 17 ∧ 9 = 11)) from by omega))
  have k_19 : (gi σ1 11 1).toInt = (gi σ0 11 1).toInt := congrArg Int32.toInt (FX_i cσ1 (show ¬ (11 = 18 ∨ 11 = 19 ∨ 11 = 20 ∨ 11 = 21 ∨ 11 = 22 ∨ 11 = 23 ∨ 11 = 24) from by omega) (show ¬ ((11 = 17 ∧ 1 = 1) ∨ (11 = 17 ∧ 1 = 3) ∨ (11 = 17 ∧ 1 = 9) ∨ (11 = 17 ∧ 1 = 10) ∨ (11 = 17 ∧ 1 = 11)) from by omega))
  have k_20 : (gi σ1 13 1).toInt = (gi σ0 13 1).toInt := congrArg Int32.toInt (FX_i cσ1 (show ¬ (13 = 18 ∨ 13 = 19 ∨ 13 = 20 ∨ 13 = 21 ∨ 13 = 22 ∨ 13 = 23 ∨ 13 = 24) from by omega) (show ¬ ((13 = 17 ∧ 1 = 1) ∨ (13 = 17 ∧ 1 = 3) ∨ (13 = 17 ∧ 1 = 9) ∨ (13 = 17 ∧ 1 = 10) ∨ (13 = 17 ∧ 1 = 11)) from by omega))
  have t_21 := XI_c1 mσ1 (id := 17) (k := 1) (lim_C0_1 (Or.inr (Or.inl rfl)))
  have t_22 := XI_c1 mσ1 (id := 17) (k := 3) (lim_C0_3 (Or.inr (Or.inl rfl)))
  have t_23 := XI_c1 mσ1 (id := 17) (k := 9) (lim_C0_9 (Or.inr (Or.inl rfl)))
  have k_24 : (gi σ1 25 1).toInt = (gi σ0 25 1).toInt := congrArg Int32.toInt (FX_i cσ1 (show ¬ (25 = 18 ∨ 25 = 19 ∨ 25 = 20 ∨ 25 = 21 ∨ 25 = 22 ∨ 25 = 23 ∨ 25 = 24) from by omega) (show ¬ ((25 = 17 ∧ 1 = 1) ∨ (25 = 17 ∧ 1 = 3) ∨ (25 = 17 ∧ 1 = 9) ∨ (25 = 17 ∧ 1 = 10) ∨ (25 = 17 ∧ 1 = 11)) from by omega))
  have k_25 : (gi σ1 27 1).toInt = (gi σ0 27 1).toInt := congrArg Int32.toInt (FX_i cσ1 (show ¬ (27 = 18 ∨ 27 = 19 ∨ 27 = 20 ∨ 27 = 21 ∨ 27 = 22 ∨ 27 = 23 ∨ 27 = 24) from by omega) (show ¬ ((27 = 17 ∧ 1 = 1) ∨ (27 = 17 ∧ 1 = 3) ∨ (27 = 17 ∧ 1 = 9) ∨ (27 = 17 ∧ 1 = 10) ∨ (27 = 17 ∧ 1 = 11)) from by omega))
  have k_26 : (gi σ1 29 1).toInt = (gi σ0 29 1).toInt := congrArg Int32.toInt (FX_i cσ1 (show ¬ (29 = 18 ∨ 29 = 19 ∨ 29 = 20 ∨ 29 = 21 ∨ 29 = 22 ∨ 29 = 23 ∨ 29 = 24) from by omega) (show ¬ ((29 = 17 ∧ 1 = 1) ∨ (29 = 17 ∧ 1 = 3) ∨ (29 = 17 ∧ 1 = 9) ∨ (29 = 17 ∧ 1 = 10) ∨ (29 = 17 ∧ 1 = 11)) from by omega))
  have k_27 : (gi σ1 9 1).toInt = (gi σ0 9 1).toInt := congrArg Int32.toInt (FX_i cσ1 (show ¬ (9 = 18 ∨ 9 = 19 ∨ 9 = 20 ∨ 9 = 21 ∨ 9 = 22 ∨ 9 = 23 ∨ 9 = 24) from by omega) (show ¬ ((9 = 17 ∧ 1 = 1) ∨ (9 = 17 ∧ 1 = 3) ∨ (9 = 17 ∧ 1 = 9) ∨ (9 = 17 ∧ 1 = 10) ∨ (9 = 17 ∧ 1 = 11)) from by omega))
  have cy9 : CPY σ0 σ1 17 1 := by assumption
  refine k_X1_becomesTold (Or.inr (Or.inl rfl)) (Or.inl rfl) mσ1  (by first | with_reducible assumption | with_reducible rfl | omega | assumption | rfl) (fun σ2 mσ2 cσ2 (pσ2_0 : (gi σ2 25 1).toInt = (gi σ1 9 1).toInt) (pσ2_1 : (gi σ2 27 1).toInt = (gi σ1 11 1).toInt) (pσ2_2 : (gi σ2 29 1).toInt = (gi σ1 13 1).toInt) => ?_)
  have fσ2 : FX (fun id => id = 18 ∨ id = 19 ∨ id = 20 ∨ id = 21 ∨ id = 22 ∨ id = 23 ∨ id = 24 ∨ id = 26 ∨ id = 28 ∨ id = 30) (fun id k => (id = 0 ∧ k = 3) ∨ (id = 17 ∧ k = 1) ∨ (id = 17 ∧ k = 3) ∨ (id = 17 ∧ k = 9) ∨ (id = 17 ∧ k = 10) ∨ (id = 17 ∧ k = 11) ∨ (id = 25 ∧ k = 1) ∨ (id = 27 ∧ k = 1) ∨ (id = 29 ∧ k = 1)) σ0 σ2 := FX_tr fσ1 cσ2 (fun x (h9 : x = 28 ∨ x = 30 ∨ x = 26) => h9.elim (fun e9 => (show x = 18 ∨ x = 19 ∨ x = 20 ∨ x = 21 ∨ x = 22 ∨ x = 23 ∨ x = 24 ∨ x = 26 ∨ x = 28 ∨ x = 30 from Or.inr (Or.inr (Or.inr (Or.inr (Or.inr (Or.inr (Or.inr (Or.inr (Or.inl (e9))))))))))) (fun h9 => h9.elim (fun e9 => (show x = 18 ∨ x = 19 ∨ x = 20 ∨ x = 21 ∨ x = 22 ∨ x = 23 ∨ x = 24 ∨ x = 26 ∨ x = 28 ∨ x = 30 from Or.inr (Or.inr (Or.inr (Or.inr (Or.inr (Or.inr (Or.inr (Or.inr (Or.inr (e9))))))))))) (fun h9 => (show x = 18 ∨ x = 19 ∨ x = 20 ∨ x = 21 ∨ x = 22 ∨ x = 23 ∨ x = 24 ∨ x = 26 ∨ x = 28 ∨ x = 30 from Or.inr (Or.inr (Or.inr (Or.inr (Or.inr (Or.inr (Or.inr (Or.inl (h9)))))))))))) (fun x k (h9 : (x = 27 ∧ k = 1) ∨ (x = 29 ∧ k = 1) ∨ (x = 25 ∧ k = 1)) => (show (x = 18 ∨ x = 19 ∨ x = 20 ∨ x = 21 ∨ x = 22 ∨ x = 23 ∨ x = 24 ∨ x = 26 ∨ x = 28 ∨ x = 30) ∨ ((x = 0 ∧ k = 3) ∨ (x = 17 ∧ k = 1) ∨ (x = 17 ∧ k = 3) ∨ (x = 17 ∧ k = 9) ∨ (x = 17 ∧ k = 10) ∨ (x = 17 ∧ k = 11) ∨ (x = 25 ∧ k = 1) ∨ (x = 27 ∧ k = 1) ∨ (x = 29 ∧ k = 1)) from h9.elim (fun e9 => Or.inr (show (x = 0 ∧ k = 3) ∨ (x = 17 ∧ k = 1) ∨ (x = 17 ∧ k = 3) ∨ (x = 17 ∧ k = 9) ∨ (x = 17 ∧ k = 10) ∨ (x = 17 ∧ k = 11) ∨ (x = 25 ∧ k = 1) ∨ (x = 27 ∧ k = 1) ∨ (x = 29 ∧ k = 1) from Or.inr (Or.inr (Or.inr (Or.inr (Or.inr (Or.inr (Or.inr (Or.inl (e9)))))))))) (fun h9 => h9.elim (fun e9 => Or.inr (show (x = 0 ∧ k = 3) ∨ (x = 17 ∧ k = 1) ∨ (x = 17 ∧ k = 3) ∨ (x = 17 ∧ k = 9) ∨ (x = 17 ∧ k = 10) ∨ (x = 17 ∧ k = 11) ∨ (x = 25 ∧ k = 1) ∨ (x = 27 ∧ k = 1) ∨ (x = 29 ∧ k = 1) from Or.inr (Or.inr (Or.inr (Or.inr (Or.inr (Or.inr (Or.inr (Or.inr (e9)))))))))) (fun h9 => Or.inr (show (x = 0 ∧ k = 3) ∨ (x = 17 ∧ k = 1) ∨ (x = 17 ∧ k = 3) ∨ (x = 17 ∧ k = 9) ∨ (x = 17 ∧ k = 10) ∨ (x = 17 ∧ k = 11) ∨ (x = 25 ∧ k = 1) ∨ (x = 27 ∧ k = 1) ∨ (x = 29 ∧ k = 1) from Or.inr (Or.inr (Or.inr (Or.inr (Or.inr (Or.inr (Or.inl (h9))))))))))))
  have k_28 : (gi σ2 0 3).toInt = (gi σ1 0 3).toInt := congrArg Int32.toInt (FX_i cσ2 (show ¬ (0 = 28 ∨ 0 = 30 ∨ 0 = 26) from by omega) (show ¬ ((0 = 27 ∧ 3 = 1) ∨ (0 = 29 ∧ 3 = 1) ∨ (0 = 25 ∧ 3 = 1)) from by omega))
  have k_29 : (gi σ2 1 1).toInt = (gi σ1 1 1).toInt := congrArg Int32.toInt (FX_i cσ2 (show ¬ (1 = 28 ∨ 1 = 30 ∨ 1 = 26) from by omega) (show ¬ ((1 = 27 ∧ 1 = 1) ∨ (1 = 29 ∧ 1 = 1) ∨ (1 = 25 ∧ 1 = 1)) from by omega))
  have k_30 : (gi σ2 1 3).toInt = (gi σ1 1 3).toInt := congrArg Int32.toInt (FX_i cσ2 (show ¬ (1 = 28 ∨ 1 = 30 ∨ 1 = 26) from by omega) (show ¬ ((1 = 27 ∧ 3 = 1) ∨ (1 = 29 ∧ 3 = 1) ∨ (1 = 25 ∧ 3 = 1)) from by omega))
  have k_31 : (gi σ2 1 9).toInt = (gi σ1 1 9).toInt := congrArg Int32.toInt (FX_i cσ2 (show ¬ (1 = 28 ∨ 1 = 30 ∨ 1 = 26) from by omega) (show ¬ ((1 = 27 ∧ 9 = 1) ∨ (1 = 29 ∧ 9 = 1) ∨ (1 = 25 ∧ 9 = 1)) from by omega))
  have k_32 : (gi σ2 11 1).toInt = (gi σ1 11 1).toInt := congrArg Int32.toInt (FX_i cσ2 (show ¬ (11 = 28 ∨ 11 = 30 ∨ 11 = 26) from by omega) (show ¬ ((11 = 27 ∧ 1 = 1) ∨ (11 = 29 ∧ 1 = 1) ∨ (11 = 25 ∧ 1 = 1)) from by omega))
  have k_33 : (gi σ2 13 1).toInt = (gi σ1 13 1).toInt := congrArg Int32.toInt (FX_i cσ2 (show ¬ (13 = 28 ∨ 13 = 30 ∨ 13 = 26) from by omega) (show ¬ ((13 = 27 ∧ 1 = 1) ∨ (13 = 29 ∧ 1 = 1) ∨ (13 = 25 ∧ 1 = 1)) from by omega))
  have k_34 : (gi σ2 17 1).toInt = (gi σ1 17 1).toInt := congrArg Int32.toInt (FX_i cσ2 (show ¬ (17 = 28 ∨ 17 = 30 ∨ 17 = 26) from by omega) (show ¬ ((17 = 27 ∧ 1 = 1) ∨ (17 = 29 ∧ 1 = 1) ∨ (17 = 25 ∧ 1 = 1)) from by omega))
  have k_35 : (gi σ2 17 3).toInt = (gi σ1 17 3).toInt := congrArg Int32.toInt (FX_i cσ2 (show ¬ (17 = 28 ∨ 17 = 30 ∨ 17 = 26) from by omega) (show ¬ ((17 = 27 ∧ 3 = 1) ∨ (17 = 29 ∧ 3 = 1) ∨ (17 = 25 ∧ 3 = 1)) from by omega))
  have k_36 : (gi σ2 17 9).toInt = (gi σ1 17 9).toInt := congrArg Int32.toInt (FX_i cσ2 (show ¬ (17 = 28 ∨ 17 = 30 ∨ 17 = 26) from by omega) (show ¬ ((17 = 27 ∧ 9 = 1) ∨ (17 = 29 ∧ 9 = 1) ∨ (17 = 25 ∧ 9 = 1)) from by omega))
  have t_37 := XI_c1 mσ2 (id := 25) (k := 1) (lim_C8_1 (Or.inr (Or.inl rfl)))
  have t_38 := XI_c1 mσ2 (id := 27) (k := 1) (lim_C10_1 (Or.inr (Or.inl rfl)))
  have t_39 := XI_c1 mσ2 (id := 29) (k := 1) (lim_C12_1 (Or.inr (Or.inl rfl)))
  have k_40 : (gi σ2 9 1).toInt = (gi σ1 9 1).toInt := congrArg Int32.toInt (FX_i cσ2 (show ¬ (9 = 28 ∨ 9 = 30 ∨ 9 = 26) from by omega) (show ¬ ((9 = 27 ∧ 1 = 1) ∨ (9 = 29 ∧ 1 = 1) ∨ (9 = 25 ∧ 1 = 1)) from by omega))
  have nσ2_1 : NN σ2 1 := NN_fx nσ1_1 cσ2 (show ¬ (1 = 28 ∨ 1 = 30 ∨ 1 = 26) from by omega) (show ¬ (2 = 28 ∨ 2 = 30 ∨ 2 = 26) from by omega) (show ¬ (3 = 28 ∨ 3 = 30 ∨ 3 = 26) from by omega) (show ¬ ((1 = 27 ∧ 1 = 1) ∨ (1 = 29 ∧ 1 = 1) ∨ (1 = 25 ∧ 1 = 1)) from by omega) (show ¬ ((1 = 27 ∧ 3 = 1) ∨ (1 = 29 ∧ 3 = 1) ∨ (1 = 25 ∧ 3 = 1)) from by omega) (fun k (h9 : (2 = 27 ∧ k = 1) ∨ (2 = 29 ∧ k = 1) ∨ (2 = 25 ∧ k = 1)) => by omega) (fun k (h9 : (3 = 27 ∧ k = 1) ∨ (3 = 29 ∧ k = 1) ∨ (3 = 25 ∧ k = 1)) => by omega)
  have nσ2_17 : NN σ2 17 := NN_fx nσ1_17 cσ2 (show ¬ (17 = 28 ∨ 17 = 30 ∨ 17 = 26) from by omega) (show ¬ (18 = 28 ∨ 18 = 30 ∨ 18 = 26) from by omega) (show ¬ (19 = 28 ∨ 19 = 30 ∨ 19 = 26) from by omega) (show ¬ ((17 = 27 ∧ 1 = 1) ∨ (17 = 29 ∧ 1 = 1) ∨ (17 = 25 ∧ 1 = 1)) from by omega) (show ¬ ((17 = 27 ∧ 3 = 1) ∨ (17 = 29 ∧ 3 = 1) ∨ (17 = 25 ∧ 3 = 1)) from by omega) (fun k (h9 : (18 = 27 ∧ k = 1) ∨ (18 = 29 ∧ k = 1) ∨ (18 = 25 ∧ k = 1)) => by omega) (fun k (h9 : (19 = 27 ∧ k = 1) ∨ (19 = 29 ∧ k = 1) ∨ (19 = 25 ∧ k = 1)) => by omega)
  have cy8 : CPY σ0 σ2 17 1 := CPY_fx cy9 cσ2 (by intro id h8 h9; first | omega | exact h9.elim) (by intro id k h8 h9; first | omega | exact h9.elim)
  intro σ3 eσ3
  have mσ3 : XI (mV M) σ3 := by rw [eσ3]; exact XIs_b mσ2 (rfl) (by omega) (by omega)
  have fσ3 : FX (fun id => id = 18 ∨ id = 19 ∨ id = 20 ∨ id = 21 ∨ id = 22 ∨ id = 23 ∨ id = 24 ∨ id = 26 ∨ id = 28 ∨ id = 30) (fun id k => (id = 0 ∧ k = 3) ∨ (id = 17 ∧ k = 1) ∨ (id = 17 ∧ k = 3) ∨ (id = 17 ∧ k = 9) ∨ (id = 17 ∧ k = 10) ∨ (id = 17 ∧ k = 11) ∨ (id = 25 ∧ k = 1) ∨ (id = 27 ∧ k = 1) ∨ (id = 29 ∧ k = 1)) σ0 σ3 := by rw [eσ3]; exact FX_si fσ2 (Or.inr (show (0 = 0 ∧ 3 = 3) ∨ (0 = 17 ∧ 3 = 1) ∨ (0 = 17 ∧ 3 = 3) ∨ (0 = 17 ∧ 3 = 9) ∨ (0 = 17 ∧ 3 = 10) ∨ (0 = 17 ∧ 3 = 11) ∨ (0 = 25 ∧ 3 = 1) ∨ (0 = 27 ∧ 3 = 1) ∨ (0 = 29 ∧ 3 = 1) from Or.inl (⟨rfl, rfl⟩)))
  have k_41 : (gi σ3 0 3).toInt = 1 := by rw [eσ3]; exact congrArg Int32.toInt gi_si_eq
  have k_42 : (gi σ3 1 1).toInt = (gi σ2 1 1).toInt := by rw [eσ3]; exact congrArg Int32.toInt (gi_si_ne (Or.inl (by omega)))
  have k_43 : (gi σ3 1 3).toInt = (gi σ2 1 3).toInt := by rw [eσ3]; exact congrArg Int32.toInt (gi_si_ne (Or.inl (by omega)))
  have k_44 : (gi σ3 1 9).toInt = (gi σ2 1 9).toInt := by rw [eσ3]; exact congrArg Int32.toInt (gi_si_ne (Or.inl (by omega)))
  have k_45 : (gi σ3 11 1).toInt = (gi σ2 11 1).toInt := by rw [eσ3]; exact congrArg Int32.toInt (gi_si_ne (Or.inl (by omega)))
  have k_46 : (gi σ3 13 1).toInt = (gi σ2 13 1).toInt := by rw [eσ3]; exact congrArg Int32.toInt (gi_si_ne (Or.inl (by omega)))
  have k_47 : (gi σ3 17 1).toInt = (gi σ2 17 1).toInt := by rw [eσ3]; exact congrArg Int32.toInt (gi_si_ne (Or.inl (by omega)))
  have k_48 : (gi σ3 17 3).toInt = (gi σ2 17 3).toInt := by rw [eσ3]; exact congrArg Int32.toInt (gi_si_ne (Or.inl (by omega)))
  have k_49 : (gi σ3 17 9).toInt = (gi σ2 17 9).toInt := by rw [eσ3]; exact congrArg Int32.toInt (gi_si_ne (Or.inl (by omega)))
  have k_50 : (gi σ3 25 1).toInt = (gi σ2 25 1).toInt := by rw [eσ3]; exact congrArg Int32.toInt (gi_si_ne (Or.inl (by omega)))
  have k_51 : (gi σ3 27 1).toInt = (gi σ2 27 1).toInt := by rw [eσ3]; exact congrArg Int32.toInt (gi_si_ne (Or.inl (by omega)))
  have k_52 : (gi σ3 29 1).toInt = (gi σ2 29 1).toInt := by rw [eσ3]; exact congrArg Int32.toInt (gi_si_ne (Or.inl (by omega)))
  have k_53 : (gi σ3 9 1).toInt = (gi σ2 9 1).toInt := by rw [eσ3]; exact congrArg Int32.toInt (gi_si_ne (Or.inl (by omega)))
  have nσ3_1 : NN σ3 1 := by rw [eσ3]; exact NN_si nσ2_1 (by omega) (fun h9 => absurd h9 (by omega))
  have nσ3_17 : NN σ3 17 := by rw [eσ3]; exact NN_si nσ2_17 (by omega) (fun h9 => absurd h9 (by omega))
  have cy8 : CPY σ0 σ3 17 1 := by rw [eσ3]; exact CPY_si cy8 (by decide +kernel)
  have t_54 := XI_c1 mσ3 (id := 1) (k := 1) (lim_C0_1 (Or.inl rfl))
  exact h9ret (gi σ3 1 1) σ3 mσ3 fσ3 nσ3_1 nσ3_17 (by first | with_reducible assumption | with_reducible rfl | omega | assumption | rfl) (by first | with_reducible assumption | with_reducible rfl | omega | assumption | rfl) (by first | with_reducible assumption | with_reducible rfl | omega | assumption | rfl) (by first | with_reducible assumption | with_reducible rfl | omega | assumption | rfl) (by first | assumption | exact fun _ => by assumption | exact fun h9 => absurd (by with_reducible assumption) h9) (by first | with_reducible assumption | with_reducible rfl | omega | assumption | rfl) (by first | with_reducible assumption | with_reducible rfl | omega | assumption | rfl) (by first | with_reducible assumption | with_reducible rfl | omega | assumption | rfl) (by first | with_reducible assumption | with_reducible rfl | omega | assumption | rfl)
set_option maxRecDepth 100000 in
set_option maxHeartbeats 4000000 in
theorem kt_X11_undo {l : Launch} {V : Vx} {σ0 : Sg} {Qk : Int32 → Sg → Prop} (m0 : XI V σ0) (nn_1 : NN σ0 1) (nn_17 : NN σ0 17) (pre0 : (gi σ0 1 9).toInt ≤ 9999) (pre1 : (gi σ0 17 9).toInt ≤ 9999) (pre2 : (gi σ0 1 3).toInt = (gi σ0 1 1).toInt) (pre3 : (gi σ0 17 3).toInt = (gi σ0 17 1).toInt) (pre4 : (gi σ0 9 1).toInt % 3 = 0) (pre5 : (gi σ0 25 1).toInt % 3 = 0) (h9ret : ∀ (r : Int32) (σ' : Sg), XI V σ' → FX (fun id => id = 10 ∨ id = 12 ∨ id = 14 ∨ id = 2 ∨ id = 3 ∨ id = 4 ∨ id = 5 ∨ id = 6 ∨ id = 7 ∨ id = 8) (fun id k => (id = 1 ∧ k = 1) ∨ (id = 1 ∧ k = 3) ∨ (id = 1 ∧ k = 9) ∨ (id = 1 ∧ k = 10) ∨ (id = 1 ∧ k = 11) ∨ (id = 11 ∧ k = 1) ∨ (id = 13 ∧ k = 1) ∨ (id = 9 ∧ k = 1)) σ0 σ' → (NN σ' 1) → (NN σ' 17) → ((gi σ' 1 9).toInt ≤ 9999) → ((gi σ' 1 3).toInt = (gi σ' 1 1).toInt) → ((gi σ' 9 1).toInt % 3 = 0) → ((gi σ0 0 3).toInt ≠ 0 → CPY σ0 σ' 1 17) → ((gi σ0 0 3).toInt = 0 → σ' = σ0) → (((gi σ0 0 3).toInt = 0 → r.toInt = -3 ∧ (gi σ' 1 1).toInt = (gi σ0 1 1).toInt ∧ (gi σ' 11 1).toInt = (gi σ0 11 1).toInt ∧ (gi σ' 13 1).toInt = (gi σ0 13 1).toInt ∧ (gi σ' 1 9).toInt = (gi σ0 1 9).toInt ∧ (gi σ' 9 1).toInt = (gi σ0 9 1).toInt) ∧ ((gi σ0 0 3).toInt ≠ 0 → r.toInt = (gi σ0 17 1).toInt ∧ (gi σ' 1 1).toInt = (gi σ0 17 1).toInt ∧ (gi σ' 11 1).toInt = (gi σ0 27 1).toInt ∧ (gi σ' 13 1).toInt = (gi σ0 29 1).toInt ∧ (gi σ' 1 9).toInt = (gi σ0 17 9).toInt ∧ (gi σ' 9 1).toInt = (gi σ0 25 1).toInt)) → Qk r σ') : K_X11_undo l V σ0 Qk := by
  refine e_X11_undo (fun M hl hV hN C => ?_)
  subst hl
  subst hV
  have f0 : FX (fun id => id = 10 ∨ id = 12 ∨ id = 14 ∨ id = 2 ∨ id = 3 ∨ id = 4 ∨ id = 5 ∨ id = 6 ∨ id = 7 ∨ id = 8) (fun id k => (id = 1 ∧ k = 1) ∨ (id = 1 ∧ k = 3) ∨ (id = 1 ∧ k = 9) ∨ (id = 1 ∧ k = 10) ∨ (id = 1 ∧ k = 11) ∨ (id = 11 ∧ k = 1) ∨ (id = 13 ∧ k = 1) ∨ (id = 9 ∧ k = 1)) σ0 σ0 := FX_rf
  have t_1 := XI_c1 m0 (id := 0) (k := 3) (rfl)
  have t_2 := XI_c1 m0 (id := 1) (k := 1) (lim_C0_1 (Or.inl rfl))
  have t_3 := XI_c1 m0 (id := 1) (k := 3) (lim_C0_3 (Or.inl rfl))
  have t_4 := XI_c1 m0 (id := 1) (k := 9) (lim_C0_9 (Or.inl rfl))
  have t_5 := XI_c1 m0 (id := 11) (k := 1) (lim_C10_1 (Or.inl rfl))
  have t_6 := XI_c1 m0 (id := 13) (k := 1) (lim_C12_1 (Or.inl rfl))
  have t_7 := XI_c1 m0 (id := 17) (k := 1) (lim_C0_1 (Or.inr (Or.inl rfl)))
  have t_8 := XI_c1 m0 (id := 17) (k := 3) (lim_C0_3 (Or.inr (Or.inl rfl)))
  have t_9 := XI_c1 m0 (id := 17) (k := 9) (lim_C0_9 (Or.inr (Or.inl rfl)))
  have t_10 := XI_c1 m0 (id := 25) (k := 1) (lim_C8_1 (Or.inr (Or.inl rfl)))
  have t_11 := XI_c1 m0 (id := 27) (k := 1) (lim_C10_1 (Or.inr (Or.inl rfl)))
  have t_12 := XI_c1 m0 (id := 29) (k := 1) (lim_C12_1 (Or.inr (Or.inl rfl)))
  have t_13 := XI_c1 m0 (id := 9) (k := 1) (lim_C8_1 (Or.inl rfl))
  refine s_X11_undo_0 C hN  ?_
  refine ⟨?_, ?_⟩
  · intro q_14
    have b_15 : ¬ (gi σ0 0 3).toInt = 0 := fun h9 => q_14 (Int32.toInt_inj.mp h9)
    have z_16 : (17 : Int32).toInt = 17 := rfl
    refine k_X1_becomes (Or.inl rfl) (Or.inr (Or.inl rfl)) m0 nn_17 (by first | with_reducible assumption | with_reducible rfl | omega | assumption | rfl) (fun σ2 mσ2 cσ2 nσ2_17 nσ2_1 (pσ2_0 : (gi σ2 1 1).toInt = (gi σ0 17 1).toInt) (pσ2_1 : (gi σ2 1 3).toInt = (gi σ0 17 3).toInt) (pσ2_2 : (gi σ2 1 9).toInt = (gi σ0 17 9).toInt) (pσ2_3 : CPY σ0 σ2 1 17) => ?_)
    have fσ2 : FX (fun id => id = 10 ∨ id = 12 ∨ id = 14 ∨ id = 2 ∨ id = 3 ∨ id = 4 ∨ id = 5 ∨ id = 6 ∨ id = 7 ∨ id = 8) (fun id k => (id = 1 ∧ k = 1) ∨ (id = 1 ∧ k = 3) ∨ (id = 1 ∧ k = 9) ∨ (id = 1 ∧ k = 10) ∨ (id = 1 ∧ k = 11) ∨ (id = 11 ∧ k = 1) ∨ (id = 13 ∧ k = 1) ∨ (id = 9 ∧ k = 1)) σ0 σ2 := FX_tr f0 cσ2 (fun x (h9 : x = 2 ∨ x = 3 ∨ x = 4 ∨ x = 5 ∨ x = 6 ∨ x = 7 ∨ x = 8) => h9.elim (fun e9 => (show x = 10 ∨ x = 12 ∨ x = 14 ∨ x = 2 ∨ x = 3 ∨ x = 4 ∨ x = 5 ∨ x = 6 ∨ x = 7 ∨ x = 8 from Or.inr (Or.inr (Or.inr (Or.inl (e9)))))) (fun h9 => h9.elim (fun e9 => (show x = 10 ∨ x = 12 ∨ x = 14 ∨ x = 2 ∨ x = 3 ∨ x = 4 ∨ x = 5 ∨ x = 6 ∨ x = 7 ∨ x = 8 from Or.inr (Or.inr (Or.inr (Or.inr (Or.inl (e9))))))) (fun h9 => h9.elim (fun e9 => (show x = 10 ∨ x = 12 ∨ x = 14 ∨ x = 2 ∨ x = 3 ∨ x = 4 ∨ x = 5 ∨ x = 6 ∨ x = 7 ∨ x = 8 from Or.inr (Or.inr (Or.inr (Or.inr (Or.inr (Or.inl (e9)))))))) (fun h9 => h9.elim (fun e9 => (show x = 10 ∨ x = 12 ∨ x = 14 ∨ x = 2 ∨ x = 3 ∨ x = 4 ∨ x = 5 ∨ x = 6 ∨ x = 7 ∨ x = 8 from Or.inr (Or.inr (Or.inr (Or.inr (Or.inr (Or.inr (Or.inl (e9))))))))) (fun h9 => h9.elim (fun e9 => (show x = 10 ∨ x = 12 ∨ x = 14 ∨ x = 2 ∨ x = 3 ∨ x = 4 ∨ x = 5 ∨ x = 6 ∨ x = 7 ∨ x = 8 from Or.inr (Or.inr (Or.inr (Or.inr (Or.inr (Or.inr (Or.inr (Or.inl (e9)))))))))) (fun h9 => h9.elim (fun e9 => (show x = 10 ∨ x = 12 ∨ x = 14 ∨ x = 2 ∨ x = 3 ∨ x = 4 ∨ x = 5 ∨ x = 6 ∨ x = 7 ∨ x = 8 from Or.inr (Or.inr (Or.inr (Or.inr (Or.inr (Or.inr (Or.inr (Or.inr (Or.inl (e9))))))))))) (fun h9 => (show x = 10 ∨ x = 12 ∨ x = 14 ∨ x = 2 ∨ x = 3 ∨ x = 4 ∨ x = 5 ∨ x = 6 ∨ x = 7 ∨ x = 8 from Or.inr (Or.inr (Or.inr (Or.inr (Or.inr (Or.inr (Or.inr (Or.inr (Or.inr (h9))))))))))))))))) (fun x k (h9 : (x = 1 ∧ k = 1) ∨ (x = 1 ∧ k = 3) ∨ (x = 1 ∧ k = 9) ∨ (x = 1 ∧ k = 10) ∨ (x = 1 ∧ k = 11)) => (show (x = 10 ∨ x = 12 ∨ x = 14 ∨ x = 2 ∨ x = 3 ∨ x = 4 ∨ x = 5 ∨ x = 6 ∨ x = 7 ∨ x = 8) ∨ ((x = 1 ∧ k = 1) ∨ (x = 1 ∧ k = 3) ∨ (x = 1 ∧ k = 9) ∨ (x = 1 ∧ k = 10) ∨ (x = 1 ∧ k = 11) ∨ (x = 11 ∧ k = 1) ∨ (x = 13 ∧ k = 1) ∨ (x = 9 ∧ k = 1)) from h9.elim (fun e9 => Or.inr (show (x = 1 ∧ k = 1) ∨ (x = 1 ∧ k = 3) ∨ (x = 1 ∧ k = 9) ∨ (x = 1 ∧ k = 10) ∨ (x = 1 ∧ k = 11) ∨ (x = 11 ∧ k = 1) ∨ (x = 13 ∧ k = 1) ∨ (x = 9 ∧ k = 1) from Or.inl (e9))) (fun h9 => h9.elim (fun e9 => Or.inr (show (x = 1 ∧ k = 1) ∨ (x = 1 ∧ k = 3) ∨ (x = 1 ∧ k = 9) ∨ (x = 1 ∧ k = 10) ∨ (x = 1 ∧ k = 11) ∨ (x = 11 ∧ k = 1) ∨ (x = 13 ∧ k = 1) ∨ (x = 9 ∧ k = 1) from Or.inr (Or.inl (e9)))) (fun h9 => h9.elim (fun e9 => Or.inr (show (x = 1 ∧ k = 1) ∨ (x = 1 ∧ k = 3) ∨ (x = 1 ∧ k = 9) ∨ (x = 1 ∧ k = 10) ∨ (x = 1 ∧ k = 11) ∨ (x = 11 ∧ k = 1) ∨ (x = 13 ∧ k = 1) ∨ (x = 9 ∧ k = 1) from Or.inr (Or.inr (Or.inl (e9))))) (fun h9 => h9.elim (fun e9 => Or.inr (show (x = 1 ∧ k = 1) ∨ (x = 1 ∧ k = 3) ∨ (x = 1 ∧ k = 9) ∨ (x = 1 ∧ k = 10) ∨ (x = 1 ∧ k = 11) ∨ (x = 11 ∧ k = 1) ∨ (x = 13 ∧ k = 1) ∨ (x = 9 ∧ k = 1) from Or.inr (Or.inr (Or.inr (Or.inl (e9)))))) (fun h9 => Or.inr (show (x = 1 ∧ k = 1) ∨ (x = 1 ∧ k = 3) ∨ (x = 1 ∧ k = 9) ∨ (x = 1 ∧ k = 10) ∨ (x = 1 ∧ k = 11) ∨ (x = 11 ∧ k = 1) ∨ (x = 13 ∧ k = 1) ∨ (x = 9 ∧ k = 1) from Or.inr (Or.inr (Or.inr (Or.inr (Or.inl (h9))))))))))))
    have k_17 : (gi σ2 0 3).toInt = (gi σ0 0 3).toInt := congrArg Int32.toInt (FX_i cσ2 (show ¬ (0 = 2 ∨ 0 = 3 ∨ 0 = 4 ∨ 0 = 5 ∨ 0 = 6 ∨ 0 = 7 ∨ 0 = 8) from by omega) (show ¬ ((0 = 1 ∧ 3 = 1) ∨ (0 = 1 ∧ 3 = 3) ∨ (0 = 1 ∧ 3 = 9) ∨ (0 = 1 ∧ 3 = 10) ∨ (0 = 1 ∧ 3 = 11)) from by omega))
    have t_18 := XI_c1 mσ2 (id := 1) (k := 1) (lim_C0_1 (Or.inl rfl))
    have t_19 := XI_c1 mσ2 (id := 1) (k := 3) (lim_C0_3 (Or.inl rfl))
    have t_20 := XI_c1 mσ2 (id := 1) (k := 9) (lim_C0_9 (Or.inl rfl))
    have k_21 : (gi σ2 11 1).toInt = (gi σ0 11 1).toInt := congrArg Int32.toInt (FX_i cσ2 (show ¬ (11 = 2 ∨ 11 = 3 ∨ 11 = 4 ∨ 11 = 5 ∨ 11 = 6 ∨ 11 = 7 ∨ 11 = 8) from by omega) (show ¬ ((11 = 1 ∧ 1 = 1) ∨ (11 = 1 ∧ 1 = 3) ∨ (11 = 1 ∧ 1 = 9) ∨ (11 = 1 ∧ 1 = 10) ∨ (11 = 1 ∧ 1 = 11)) from by omega))
    have k_22 : (gi σ2 13 1).toInt = (gi σ0 13 1).toInt := congrArg Int32.toInt (FX_i cσ2 (show ¬ (13 = 2 ∨ 13 = 3 ∨ 13 = 4 ∨ 13 = 5 ∨ 13 = 6 ∨ 13 = 7 ∨ 13 = 8) from by omega) (show ¬ ((13 = 1 ∧ 1 = 1) ∨ (13 = 1 ∧ 1 = 3) ∨ (13 = 1 ∧ 1 = 9) ∨ (13 = 1 ∧ 1 = 10) ∨ (13 = 1 ∧ 1 = 11)) from by omega))
    have k_23 : (gi σ2 17 1).toInt = (gi σ0 17 1).toInt := congrArg Int32.toInt (FX_i cσ2 (show ¬ (17 = 2 ∨ 17 = 3 ∨ 17 = 4 ∨ 17 = 5 ∨ 17 = 6 ∨ 17 = 7 ∨ 17 = 8) from by omega) (show ¬ ((17 = 1 ∧ 1 = 1) ∨ (17 = 1 ∧ 1 = 3) ∨ (17 = 1 ∧ 1 = 9) ∨ (17 = 1 ∧ 1 = 10) ∨ (17 = 1 ∧ 1 = 11)) from by omega))
    have k_24 : (gi σ2 17 3).toInt = (gi σ0 17 3).toInt := congrArg Int32.toInt (FX_i cσ2 (show ¬ (17 = 2 ∨ 17 = 3 ∨ 17 = 4 ∨ 17 = 5 ∨ 17 = 6 ∨ 17 = 7 ∨ 17 = 8) from by omega) (show ¬ ((17 = 1 ∧ 3 = 1) ∨ (17 = 1 ∧ 3 = 3) ∨ (17 = 1 ∧ 3 = 9) ∨ (17 = 1 ∧ 3 = 10) ∨ (17 = 1 ∧ 3 = 11)) from by omega))
    have k_25 : (gi σ2 17 9).toInt = (gi σ0 17 9).toInt := congrArg Int32.toInt (FX_i cσ2 (show ¬ (17 = 2 ∨ 17 = 3 ∨ 17 = 4 ∨ 17 = 5 ∨ 17 = 6 ∨ 17 = 7 ∨ 17 = 8) from by omega) (show ¬ ((17 = 1 ∧ 9 = 1) ∨ (17 = 1 ∧ 9 = 3) ∨ (17 = 1 ∧ 9 = 9) ∨ (17 = 1 ∧ 9 = 10) ∨ (17 = 1 ∧ 9 = 11)) from by omega))
    have k_26 : (gi σ2 25 1).toInt = (gi σ0 25 1).toInt := congrArg Int32.toInt (FX_i cσ2 (show ¬ (25 = 2 ∨ 25 = 3 ∨ 25 = 4 ∨ 25 = 5 ∨ 25 = 6 ∨ 25 = 7 ∨ 25 = 8) from by omega) (show ¬ ((25 = 1 ∧ 1 = 1) ∨ (25 = 1 ∧ 1 = 3) ∨ (25 = 1 ∧ 1 = 9) ∨ (25 = 1 ∧ 1 = 10) ∨ (25 = 1 ∧ 1 = 11)) from by omega))
    have k_27 : (gi σ2 27 1).toInt = (gi σ0 27 1).toInt := congrArg Int32.toInt (FX_i cσ2 (show ¬ (27 = 2 ∨ 27 = 3 ∨ 27 = 4 ∨ 27 = 5 ∨ 27 = 6 ∨ 27 = 7 ∨ 27 = 8) from by omega) (show ¬ ((27 = 1 ∧ 1 = 1) ∨ (27 = 1 ∧ 1 = 3) ∨ (27 = 1 ∧ 1 = 9) ∨ (27 = 1 ∧ 1 = 10) ∨ (27 = 1 ∧ 1 = 11)) from by omega))
    have k_28 : (gi σ2 29 1).toInt = (gi σ0 29 1).toInt := congrArg Int32.toInt (FX_i cσ2 (show ¬ (29 = 2 ∨ 29 = 3 ∨ 29 = 4 ∨ 29 = 5 ∨ 29 = 6 ∨ 29 = 7 ∨ 29 = 8) from by omega) (show ¬ ((29 = 1 ∧ 1 = 1) ∨ (29 = 1 ∧ 1 = 3) ∨ (29 = 1 ∧ 1 = 9) ∨ (29 = 1 ∧ 1 = 10) ∨ (29 = 1 ∧ 1 = 11)) from by omega))
    have k_29 : (gi σ2 9 1).toInt = (gi σ0 9 1).toInt := congrArg Int32.toInt (FX_i cσ2 (show ¬ (9 = 2 ∨ 9 = 3 ∨ 9 = 4 ∨ 9 = 5 ∨ 9 = 6 ∨ 9 = 7 ∨ 9 = 8) from by omega) (show ¬ ((9 = 1 ∧ 1 = 1) ∨ (9 = 1 ∧ 1 = 3) ∨ (9 = 1 ∧ 1 = 9) ∨ (9 = 1 ∧ 1 = 10) ∨ (9 = 1 ∧ 1 = 11)) from by omega))
    have cy9 : CPY σ0 σ2 1 17 := by assumption
    refine k_X1_becomesTold (Or.inl rfl) (Or.inr (Or.inl rfl)) mσ2  (by first | with_reducible assumption | with_reducible rfl | omega | assumption | rfl) (fun σ3 mσ3 cσ3 (pσ3_0 : (gi σ3 9 1).toInt = (gi σ2 25 1).toInt) (pσ3_1 : (gi σ3 11 1).toInt = (gi σ2 27 1).toInt) (pσ3_2 : (gi σ3 13 1).toInt = (gi σ2 29 1).toInt) => ?_)
    have fσ3 : FX (fun id => id = 10 ∨ id = 12 ∨ id = 14 ∨ id = 2 ∨ id = 3 ∨ id = 4 ∨ id = 5 ∨ id = 6 ∨ id = 7 ∨ id = 8) (fun id k => (id = 1 ∧ k = 1) ∨ (id = 1 ∧ k = 3) ∨ (id = 1 ∧ k = 9) ∨ (id = 1 ∧ k = 10) ∨ (id = 1 ∧ k = 11) ∨ (id = 11 ∧ k = 1) ∨ (id = 13 ∧ k = 1) ∨ (id = 9 ∧ k = 1)) σ0 σ3 := FX_tr fσ2 cσ3 (fun x (h9 : x = 12 ∨ x = 14 ∨ x = 10) => h9.elim (fun e9 => (show x = 10 ∨ x = 12 ∨ x = 14 ∨ x = 2 ∨ x = 3 ∨ x = 4 ∨ x = 5 ∨ x = 6 ∨ x = 7 ∨ x = 8 from Or.inr (Or.inl (e9)))) (fun h9 => h9.elim (fun e9 => (show x = 10 ∨ x = 12 ∨ x = 14 ∨ x = 2 ∨ x = 3 ∨ x = 4 ∨ x = 5 ∨ x = 6 ∨ x = 7 ∨ x = 8 from Or.inr (Or.inr (Or.inl (e9))))) (fun h9 => (show x = 10 ∨ x = 12 ∨ x = 14 ∨ x = 2 ∨ x = 3 ∨ x = 4 ∨ x = 5 ∨ x = 6 ∨ x = 7 ∨ x = 8 from Or.inl (h9))))) (fun x k (h9 : (x = 11 ∧ k = 1) ∨ (x = 13 ∧ k = 1) ∨ (x = 9 ∧ k = 1)) => (show (x = 10 ∨ x = 12 ∨ x = 14 ∨ x = 2 ∨ x = 3 ∨ x = 4 ∨ x = 5 ∨ x = 6 ∨ x = 7 ∨ x = 8) ∨ ((x = 1 ∧ k = 1) ∨ (x = 1 ∧ k = 3) ∨ (x = 1 ∧ k = 9) ∨ (x = 1 ∧ k = 10) ∨ (x = 1 ∧ k = 11) ∨ (x = 11 ∧ k = 1) ∨ (x = 13 ∧ k = 1) ∨ (x = 9 ∧ k = 1)) from h9.elim (fun e9 => Or.inr (show (x = 1 ∧ k = 1) ∨ (x = 1 ∧ k = 3) ∨ (x = 1 ∧ k = 9) ∨ (x = 1 ∧ k = 10) ∨ (x = 1 ∧ k = 11) ∨ (x = 11 ∧ k = 1) ∨ (x = 13 ∧ k = 1) ∨ (x = 9 ∧ k = 1) from Or.inr (Or.inr (Or.inr (Or.inr (Or.inr (Or.inl (e9)))))))) (fun h9 => h9.elim (fun e9 => Or.inr (show (x = 1 ∧ k = 1) ∨ (x = 1 ∧ k = 3) ∨ (x = 1 ∧ k = 9) ∨ (x = 1 ∧ k = 10) ∨ (x = 1 ∧ k = 11) ∨ (x = 11 ∧ k = 1) ∨ (x = 13 ∧ k = 1) ∨ (x = 9 ∧ k = 1) from Or.inr (Or.inr (Or.inr (Or.inr (Or.inr (Or.inr (Or.inl (e9))))))))) (fun h9 => Or.inr (show (x = 1 ∧ k = 1) ∨ (x = 1 ∧ k = 3) ∨ (x = 1 ∧ k = 9) ∨ (x = 1 ∧ k = 10) ∨ (x = 1 ∧ k = 11) ∨ (x = 11 ∧ k = 1) ∨ (x = 13 ∧ k = 1) ∨ (x = 9 ∧ k = 1) from Or.inr (Or.inr (Or.inr (Or.inr (Or.inr (Or.inr (Or.inr (h9))))))))))))
    have k_30 : (gi σ3 0 3).toInt = (gi σ2 0 3).toInt := congrArg Int32.toInt (FX_i cσ3 (show ¬ (0 = 12 ∨ 0 = 14 ∨ 0 = 10) from by omega) (show ¬ ((0 = 11 ∧ 3 = 1) ∨ (0 = 13 ∧ 3 = 1) ∨ (0 = 9 ∧ 3 = 1)) from by omega))
    have k_31 : (gi σ3 1 1).toInt = (gi σ2 1 1).toInt := congrArg Int32.toInt (FX_i cσ3 (show ¬ (1 = 12 ∨ 1 = 14 ∨ 1 = 10) from by omega) (show ¬ ((1 = 11 ∧ 1 = 1) ∨ (1 = 13 ∧ 1 = 1) ∨ (1 = 9 ∧ 1 = 1)) from by omega))
    have k_32 : (gi σ3 1 3).toInt = (gi σ2 1 3).toInt := congrArg Int32.toInt (FX_i cσ3 (show ¬ (1 = 12 ∨ 1 = 14 ∨ 1 = 10) from by omega) (show ¬ ((1 = 11 ∧ 3 = 1) ∨ (1 = 13 ∧ 3 = 1) ∨ (1 = 9 ∧ 3 = 1)) from by omega))
    have k_33 : (gi σ3 1 9).toInt = (gi σ2 1 9).toInt := congrArg Int32.toInt (FX_i cσ3 (show ¬ (1 = 12 ∨ 1 = 14 ∨ 1 = 10) from by omega) (show ¬ ((1 = 11 ∧ 9 = 1) ∨ (1 = 13 ∧ 9 = 1) ∨ (1 = 9 ∧ 9 = 1)) from by omega))
    have t_34 := XI_c1 mσ3 (id := 11) (k := 1) (lim_C10_1 (Or.inl rfl))
    have t_35 := XI_c1 mσ3 (id := 13) (k := 1) (lim_C12_1 (Or.inl rfl))
    have k_36 : (gi σ3 17 1).toInt = (gi σ2 17 1).toInt := congrArg Int32.toInt (FX_i cσ3 (show ¬ (17 = 12 ∨ 17 = 14 ∨ 17 = 10) from by omega) (show ¬ ((17 = 11 ∧ 1 = 1) ∨ (17 = 13 ∧ 1 = 1) ∨ (17 = 9 ∧ 1 = 1)) from by omega))
    have k_37 : (gi σ3 17 3).toInt = (gi σ2 17 3).toInt := congrArg Int32.toInt (FX_i cσ3 (show ¬ (17 = 12 ∨ 17 = 14 ∨ 17 = 10) from by omega) (show ¬ ((17 = 11 ∧ 3 = 1) ∨ (17 = 13 ∧ 3 = 1) ∨ (17 = 9 ∧ 3 = 1)) from by omega))
    have k_38 : (gi σ3 17 9).toInt = (gi σ2 17 9).toInt := congrArg Int32.toInt (FX_i cσ3 (show ¬ (17 = 12 ∨ 17 = 14 ∨ 17 = 10) from by omega) (show ¬ ((17 = 11 ∧ 9 = 1) ∨ (17 = 13 ∧ 9 = 1) ∨ (17 = 9 ∧ 9 = 1)) from by omega))
    have k_39 : (gi σ3 25 1).toInt = (gi σ2 25 1).toInt := congrArg Int32.toInt (FX_i cσ3 (show ¬ (25 = 12 ∨ 25 = 14 ∨ 25 = 10) from by omega) (show ¬ ((25 = 11 ∧ 1 = 1) ∨ (25 = 13 ∧ 1 = 1) ∨ (25 = 9 ∧ 1 = 1)) from by omega))
    have k_40 : (gi σ3 27 1).toInt = (gi σ2 27 1).toInt := congrArg Int32.toInt (FX_i cσ3 (show ¬ (27 = 12 ∨ 27 = 14 ∨ 27 = 10) from by omega) (show ¬ ((27 = 11 ∧ 1 = 1) ∨ (27 = 13 ∧ 1 = 1) ∨ (27 = 9 ∧ 1 = 1)) from by omega))
    have k_41 : (gi σ3 29 1).toInt = (gi σ2 29 1).toInt := congrArg Int32.toInt (FX_i cσ3 (show ¬ (29 = 12 ∨ 29 = 14 ∨ 29 = 10) from by omega) (show ¬ ((29 = 11 ∧ 1 = 1) ∨ (29 = 13 ∧ 1 = 1) ∨ (29 = 9 ∧ 1 = 1)) from by omega))
    have t_42 := XI_c1 mσ3 (id := 9) (k := 1) (lim_C8_1 (Or.inl rfl))
    have nσ3_17 : NN σ3 17 := NN_fx nσ2_17 cσ3 (show ¬ (17 = 12 ∨ 17 = 14 ∨ 17 = 10) from by omega) (show ¬ (18 = 12 ∨ 18 = 14 ∨ 18 = 10) from by omega) (show ¬ (19 = 12 ∨ 19 = 14 ∨ 19 = 10) from by omega) (show ¬ ((17 = 11 ∧ 1 = 1) ∨ (17 = 13 ∧ 1 = 1) ∨ (17 = 9 ∧ 1 = 1)) from by omega) (show ¬ ((17 = 11 ∧ 3 = 1) ∨ (17 = 13 ∧ 3 = 1) ∨ (17 = 9 ∧ 3 = 1)) from by omega) (fun k (h9 : (18 = 11 ∧ k = 1) ∨ (18 = 13 ∧ k = 1) ∨ (18 = 9 ∧ k = 1)) => by omega) (fun k (h9 : (19 = 11 ∧ k = 1) ∨ (19 = 13 ∧ k = 1) ∨ (19 = 9 ∧ k = 1)) => by omega)
    have nσ3_1 : NN σ3 1 := NN_fx nσ2_1 cσ3 (show ¬ (1 = 12 ∨ 1 = 14 ∨ 1 = 10) from by omega) (show ¬ (2 = 12 ∨ 2 = 14 ∨ 2 = 10) from by omega) (show ¬ (3 = 12 ∨ 3 = 14 ∨ 3 = 10) from by omega) (show ¬ ((1 = 11 ∧ 1 = 1) ∨ (1 = 13 ∧ 1 = 1) ∨ (1 = 9 ∧ 1 = 1)) from by omega) (show ¬ ((1 = 11 ∧ 3 = 1) ∨ (1 = 13 ∧ 3 = 1) ∨ (1 = 9 ∧ 3 = 1)) from by omega) (fun k (h9 : (2 = 11 ∧ k = 1) ∨ (2 = 13 ∧ k = 1) ∨ (2 = 9 ∧ k = 1)) => by omega) (fun k (h9 : (3 = 11 ∧ k = 1) ∨ (3 = 13 ∧ k = 1) ∨ (3 = 9 ∧ k = 1)) => by omega)
    have cy8 : CPY σ0 σ3 1 17 := CPY_fx cy9 cσ3 (by intro id h8 h9; first | omega | exact h9.elim) (by intro id k h8 h9; first | omega | exact h9.elim)
    have t_43 := XI_c1 mσ3 (id := 1) (k := 1) (lim_C0_1 (Or.inl rfl))
    exact h9ret (gi σ3 1 1) σ3 mσ3 fσ3 nσ3_1 nσ3_17 (by first | with_reducible assumption | with_reducible rfl | omega | assumption | rfl) (by first | with_reducible assumption | with_reducible rfl | omega | assumption | rfl) (by first | with_reducible assumption | with_reducible rfl | omega | assumption | rfl) (by first | assumption | exact fun _ => by assumption | exact fun h9 => absurd (by with_reducible assumption) h9) (by first | exact fun _ => rfl | exact fun h9 => absurd h9 (by with_reducible assumption)) (by first | with_reducible assumption | with_reducible rfl | omega | assumption | rfl)
  · intro q_14
    have b_44 : (gi σ0 0 3).toInt = 0 := congrArg Int32.toInt q_14
    have z_45 : (-3 : Int32).toInt = -3 := rfl
    exact h9ret (-3 : Int32) σ0 m0 f0 nn_1 nn_17 (by first | with_reducible assumption | with_reducible rfl | omega | assumption | rfl) (by first | with_reducible assumption | with_reducible rfl | omega | assumption | rfl) (by first | with_reducible assumption | with_reducible rfl | omega | assumption | rfl) (by first | assumption | exact fun _ => by assumption | exact fun h9 => absurd (by with_reducible assumption) h9) (by first | exact fun _ => rfl | exact fun h9 => absurd h9 (by with_reducible assumption)) (by first | with_reducible assumption | with_reducible rfl | omega | assumption | rfl)
noncomputable def LB_X12_image_55 (rec : Nat → Int32 → Sg → Int32 × Sg) (x1 : Int32) (σ : Sg) : Int32 × Sg := (if (6 : Int32) ≤ x1 then rec 1 (0 : Int32) σ else fl (si σ 156 x1.toNatClampNeg (gi σ 103 x1.toNatClampNeg)) (fun σ4 => fl (si σ4 157 x1.toNatClampNeg (gi σ4 104 x1.toNatClampNeg)) (fun σ7 => fl (si σ7 158 x1.toNatClampNeg (gi σ7 105 x1.toNatClampNeg)) (fun σ10 => fl (si σ10 159 x1.toNatClampNeg (gi σ10 106 x1.toNatClampNeg)) (fun σ13 => fl (si σ13 160 x1.toNatClampNeg (gi σ13 107 x1.toNatClampNeg)) (fun σ16 => fl (si σ16 161 x1.toNatClampNeg (gi σ16 108 x1.toNatClampNeg)) (fun σ19 => fl (si σ19 162 x1.toNatClampNeg (gi σ19 110 x1.toNatClampNeg)) (fun σ22 => fl (si σ22 164 x1.toNatClampNeg (gi σ22 142 x1.toNatClampNeg)) (fun σ25 => fl (si σ25 165 x1.toNatClampNeg (gi σ25 143 x1.toNatClampNeg)) (fun σ28 => fl (si σ28 166 x1.toNatClampNeg (gi σ28 144 x1.toNatClampNeg)) (fun σ31 => fl (x1 + 1) (fun v32 => rec 0 v32 σ31))))))))))))
noncomputable def LB_X12_image_189 (rec : Nat → Int32 → Sg → Int32 × Sg) (x1 : Int32) (σ : Sg) : Int32 × Sg := (if (24 : Int32) ≤ x1 then rec 2 (0 : Int32) σ else fl (si σ 163 x1.toNatClampNeg (gi σ 109 x1.toNatClampNeg)) (fun σ4 => fl (x1 + 1) (fun v5 => rec 1 v5 σ4)))
noncomputable def LB_X12_image_215 (rec : Nat → Int32 → Sg → Int32 × Sg) (x1 : Int32) (σ : Sg) : Int32 × Sg := (if (10 : Int32) ≤ x1 then rec 3 (0 : Int32) σ else fl (si σ 167 x1.toNatClampNeg (gi σ 147 x1.toNatClampNeg)) (fun σ4 => fl (x1 + 1) (fun v5 => rec 2 v5 σ4)))
noncomputable def LB_X12_image_241 (rec : Nat → Int32 → Sg → Int32 × Sg) (x1 : Int32) (σ : Sg) : Int32 × Sg := (if (8 : Int32) ≤ x1 then (gi σ 74 0, σ) else fl (si σ 168 x1.toNatClampNeg (gi σ 148 x1.toNatClampNeg)) (fun σ4 => fl (x1 + 1) (fun v5 => rec 3 v5 σ4)))
noncomputable def LF_X12_image : Nat → Nat → Int32 → Sg → Int32 × Sg
  | 0, _, _, σ => (0, σ)
  | n + 1, 0, x1, σ => LB_X12_image_55 (LF_X12_image n) x1 σ
  | n + 1, 1, x1, σ => LB_X12_image_189 (LF_X12_image n) x1 σ
  | n + 1, 2, x1, σ => LB_X12_image_215 (LF_X12_image n) x1 σ
  | n + 1, 3, x1, σ => LB_X12_image_241 (LF_X12_image n) x1 σ
  | _ + 1, _ + 4, _, σ => (0, σ)
noncomputable def F_X12_image (σ : Sg) : Int32 × Sg := fl (si σ 74 49 (1 : Int32)) (fun σ1 => fl (si σ1 74 50 (gi σ1 74 12)) (fun σ2 => fl (si σ2 74 51 (gi σ2 74 0)) (fun σ3 => fl (si σ3 74 52 (gi σ3 74 1)) (fun σ4 => fl (si σ4 74 53 (gi σ4 74 41)) (fun σ5 => fl (si σ5 74 54 (gi σ5 74 45)) (fun σ6 => fl (si σ6 74 55 (gi σ6 74 46)) (fun σ7 => LF_X12_image 900 0 (0 : Int32) σ7)))))))
set_option maxRecDepth 100000 in
set_option maxHeartbeats 4000000 in
theorem kF_X12_image {l : Launch} {V : Vx} {σ0 : Sg} {Qk : Int32 → Sg → Prop} (m0 : MI σ0) (pre0 : PL σ0) (h9ret : ∀ (r : Int32) (σ' : Sg), MI σ' → Fr [74, 156, 157, 158, 159, 160, 161, 162, 163, 164, 165, 166, 167, 168] [49, 50, 51, 52, 53, 54, 55] σ0 σ' → ((gi σ' 74 51).toInt = (gi σ0 74 0).toInt) → ((gi σ' 74 52).toInt = (gi σ0 74 1).toInt) → ((gi σ' 74 50).toInt = (gi σ0 74 12).toInt) → (PLI σ') → ((gi σ' 74 54).toInt = (gi σ0 74 45).toInt) → ((gi σ' 74 55).toInt = (gi σ0 74 46).toInt) → ((gi σ' 74 49).toInt = 1) → (r.toInt = (gi σ0 74 0).toInt) → ((gi σ' 74 53).toInt = (gi σ0 74 41).toInt) → (F_X12_image σ0 = (r, σ')) → Qk r σ') : K_X12_image l V σ0 Qk := by
  refine e_X12_image (fun M hl hV hN C => ?_)
  subst hl
  subst hV
  obtain ⟨R9, H0⟩ : ∃ R9, F_X12_image σ0 = R9 := ⟨_, rfl⟩
  have T : ∀ n : Nat, (∀ (x1 : Int32) (σ : Sg), MI σ → Fr [74, 156, 157, 158, 159, 160, 161, 162, 163, 164, 165, 166, 167, 168] [49, 50, 51, 52, 53, 54, 55] σ0 σ → (0 ≤ x1.toInt) → (x1.toInt ≤ 6) → ((gi σ 74 51).toInt = (gi σ0 74 0).toInt) → ((gi σ 74 52).toInt = (gi σ0 74 1).toInt) → ((gi σ 74 50).toInt = (gi σ0 74 12).toInt) → (CD σ0 σ 110 110 6) → (CD σ0 σ 162 110 x1.toInt) → ((gi σ 74 54).toInt = (gi σ0 74 45).toInt) → ((gi σ 74 55).toInt = (gi σ0 74 46).toInt) → ((gi σ 74 49).toInt = 1) → ((gi σ 74 0).toInt = (gi σ0 74 0).toInt) → ((gi σ 74 53).toInt = (gi σ0 74 41).toInt) → (LF_X12_image n 0 x1 σ = R9) → (7 - x1.toInt).toNat + 300 < n → PS M 55 [(0, .ref 74), (1, .int x1)] [] σ (0, 0)) ∧ (∀ (x1 : Int32) (σ : Sg), MI σ → Fr [74, 156, 157, 158, 159, 160, 161, 162, 163, 164, 165, 166, 167, 168] [49, 50, 51, 52, 53, 54, 55] σ0 σ → (0 ≤ x1.toInt) → (x1.toInt ≤ 24) → ((gi σ 74 51).toInt = (gi σ0 74 0).toInt) → ((gi σ 74 52).toInt = (gi σ0 74 1).toInt) → ((gi σ 74 50).toInt = (gi σ0 74 12).toInt) → (CD σ0 σ 162 110 6) → ((gi σ 74 54).toInt = (gi σ0 74 45).toInt) → ((gi σ 74 55).toInt = (gi σ0 74 46).toInt) → ((gi σ 74 49).toInt = 1) → ((gi σ 74 0).toInt = (gi σ0 74 0).toInt) → ((gi σ 74 53).toInt = (gi σ0 74 41).toInt) → (LF_X12_image n 1 x1 σ = R9) → (25 - x1.toInt).toNat + 200 < n → PS M 189 [(0, .ref 74), (1, .int x1)] [] σ (0, 0)) ∧ (∀ (x1 : Int32) (σ : Sg), MI σ → Fr [74, 156, 157, 158, 159, 160, 161, 162, 163, 164, 165, 166, 167, 168] [49, 50, 51, 52, 53, 54, 55] σ0 σ → (0 ≤ x1.toInt) → (x1.toInt ≤ 10) → ((gi σ 74 51).toInt = (gi σ0 74 0).toInt) → ((gi σ 74 52).toInt = (gi σ0 74 1).toInt) → ((gi σ 74 50).toInt = (gi σ0 74 12).toInt) → (CD σ0 σ 162 110 6) → ((gi σ 74 54).toInt = (gi σ0 74 45).toInt) → ((gi σ 74 55).toInt = (gi σ0 74 46).toInt) → ((gi σ 74 49).toInt = 1) → ((gi σ 74 0).toInt = (gi σ0 74 0).toInt) → ((gi σ 74 53).toInt = (gi σ0 74 41).toInt) → (LF_X12_image n 2 x1 σ = R9) → (11 - x1.toInt).toNat + 100 < n → PS M 215 [(0, .ref 74), (1, .int x1)] [] σ (0, 0)) ∧ (∀ (x1 : Int32) (σ : Sg), MI σ → Fr [74, 156, 157, 158, 159, 160, 161, 162, 163, 164, 165, 166, 167, 168] [49, 50, 51, 52, 53, 54, 55] σ0 σ → (0 ≤ x1.toInt) → (x1.toInt ≤ 8) → ((gi σ 74 51).toInt = (gi σ0 74 0).toInt) → ((gi σ 74 52).toInt = (gi σ0 74 1).toInt) → ((gi σ 74 50).toInt = (gi σ0 74 12).toInt) → (CD σ0 σ 162 110 6) → ((gi σ 74 54).toInt = (gi σ0 74 45).toInt) → ((gi σ 74 55).toInt = (gi σ0 74 46).toInt) → ((gi σ 74 49).toInt = 1) → ((gi σ 74 0).toInt = (gi σ0 74 0).toInt) → ((gi σ 74 53).toInt = (gi σ0 74 41).toInt) → (LF_X12_image n 3 x1 σ = R9) → (9 - x1.toInt).toNat < n → PS M 241 [(0, .ref 74), (1, .int x1)] [] σ (0, 0)) := by
    intro n
    induction n with
    | zero => exact ⟨fun _ _ _ _ _ _ _ _ _ _ _ _ _ _ _ _ _ h8 => absurd h8 (Nat.not_lt_zero _), fun _ _ _ _ _ _ _ _ _ _ _ _ _ _ _ _ h8 => absurd h8 (Nat.not_lt_zero _), fun _ _ _ _ _ _ _ _ _ _ _ _ _ _ _ _ h8 => absurd h8 (Nat.not_lt_zero _), fun _ _ _ _ _ _ _ _ _ _ _ _ _ _ _ _ h8 => absurd h8 (Nat.not_lt_zero _)⟩
    | succ n ih =>
      obtain ⟨ih55, ih189, ih215, ih241⟩ := ih
      refine ⟨?_, ?_, ?_, ?_⟩
      · intro x1 σ mσ fσ lx1 ux1 i0 i1 i2 i3 i4 i5 i6 i7 i8 i9 H hmu
        replace H : LB_X12_image_55 (LF_X12_image n) x1 σ = R9 := H
        unfold LB_X12_image_55 at H
        refine s_X12_image_55 C hN ?_
        refine ⟨?_, ?_⟩
        · intro q_1
          replace H := f_t q_1 H
          have b_2 : (6 : Int) ≤ x1.toInt := Int32.le_iff_toInt_le.mp q_1
          have z_3 : (0 : Int32).toInt = 0 := rfl
          exact ih189 (0 : Int32) σ mσ fσ (by omega) (by omega) (by first | with_reducible assumption | with_reducible rfl | omega | assumption | rfl) (by first | with_reducible assumption | with_reducible rfl | omega | assumption | rfl) (by first | with_reducible assumption | with_reducible rfl | omega | assumption | rfl) (by first | assumption | exact CD_le (by with_reducible assumption) (by omega)) (by first | with_reducible assumption | with_reducible rfl | omega | assumption | rfl) (by first | with_reducible assumption | with_reducible rfl | omega | assumption | rfl) (by first | with_reducible assumption | with_reducible rfl | omega | assumption | rfl) (by first | with_reducible assumption | with_reducible rfl | omega | assumption | rfl) (by first | with_reducible assumption | with_reducible rfl | omega | assumption | rfl) H (by omega)
        · intro q_1
          replace H := f_f q_1 H
          have b_4 : ¬ (6 : Int) ≤ x1.toInt := fun h9 => q_1 (Int32.le_iff_toInt_le.mpr h9)
          have hv_5 : vp_in x1 6 := vp_in_iff.mpr ⟨by omega, by omega⟩
          refine ⟨hv_5, ?_⟩
          refine ⟨hv_5, ?_⟩
          intro σ4 eσ4
          replace H := f_l eσ4 H
          have mσ4 : MI σ4 := by rw [eσ4]; exact MIs_au (a := 156) mσ rfl rfl
          have fσ4 : Fr [74, 156, 157, 158, 159, 160, 161, 162, 163, 164, 165, 166, 167, 168] [49, 50, 51, 52, 53, 54, 55] σ0 σ4 := by rw [eσ4]; exact Fr_si fσ (by decide +kernel) (fun h9 => absurd h9 (by decide +kernel))
          have k_6 : (gi σ4 74 0).toInt = (gi σ 74 0).toInt := gk_l eσ4 rfl
          have k_7 : (gi σ4 74 1).toInt = (gi σ 74 1).toInt := gk_l eσ4 rfl
          have k_8 : (gi σ4 74 12).toInt = (gi σ 74 12).toInt := gk_l eσ4 rfl
          have k_9 : (gi σ4 74 41).toInt = (gi σ 74 41).toInt := gk_l eσ4 rfl
          have k_10 : (gi σ4 74 45).toInt = (gi σ 74 45).toInt := gk_l eσ4 rfl
          have k_11 : (gi σ4 74 46).toInt = (gi σ 74 46).toInt := gk_l eσ4 rfl
          have k_12 : (gi σ4 74 49).toInt = (gi σ 74 49).toInt := gk_l eσ4 rfl
          have k_13 : (gi σ4 74 50).toInt = (gi σ 74 50).toInt := gk_l eσ4 rfl
          have k_14 : (gi σ4 74 51).toInt = (gi σ 74 51).toInt := gk_l eσ4 rfl
          have k_15 : (gi σ4 74 52).toInt = (gi σ 74 52).toInt := gk_l eσ4 rfl
          have k_16 : (gi σ4 74 53).toInt = (gi σ 74 53).toInt := gk_l eσ4 rfl
          have k_17 : (gi σ4 74 54).toInt = (gi σ 74 54).toInt := gk_l eσ4 rfl
          have k_18 : (gi σ4 74 55).toInt = (gi σ 74 55).toInt := gk_l eσ4 rfl
          try have hC9 : CD σ0 σ4 110 110 (6) := by rw [eσ4]; exact CD_st (by with_reducible assumption) (by decide +kernel)
          try have hC9 : CD σ0 σ4 162 110 (6) := by rw [eσ4]; exact CD_st (by with_reducible assumption) (by decide +kernel)
          try have hC9 : CD σ0 σ4 162 110 (x1.toInt) := by rw [eσ4]; exact CD_st (by with_reducible assumption) (by decide +kernel)
          try have hD9 : CD σ0 σ4 162 110 (x1.toInt + 1) := by rw [eσ4]; first | exact CD_st (by with_reducible assumption) (by decide +kernel) | exact CD_step (c := 110) (by with_reducible assumption) (by with_reducible assumption) (by omega) (by omega)
          refine ⟨hv_5, ?_⟩
          refine ⟨hv_5, ?_⟩
          intro σ7 eσ7
          replace H := f_l eσ7 H
          have mσ7 : MI σ7 := by rw [eσ7]; exact MIs_au (a := 157) mσ4 rfl rfl
          have fσ7 : Fr [74, 156, 157, 158, 159, 160, 161, 162, 163, 164, 165, 166, 167, 168] [49, 50, 51, 52, 53, 54, 55] σ0 σ7 := by rw [eσ7]; exact Fr_si fσ4 (by decide +kernel) (fun h9 => absurd h9 (by decide +kernel))
          have k_19 : (gi σ7 74 0).toInt = (gi σ4 74 0).toInt := gk_l eσ7 rfl
          have k_20 : (gi σ7 74 1).toInt = (gi σ4 74 1).toInt := gk_l eσ7 rfl
          have k_21 : (gi σ7 74 12).toInt = (gi σ4 74 12).toInt := gk_l eσ7 rfl
          have k_22 : (gi σ7 74 41).toInt = (gi σ4 74 41).toInt := gk_l eσ7 rfl
          have k_23 : (gi σ7 74 45).toInt = (gi σ4 74 45).toInt := gk_l eσ7 rfl
          have k_24 : (gi σ7 74 46).toInt = (gi σ4 74 46).toInt := gk_l eσ7 rfl
          have k_25 : (gi σ7 74 49).toInt = (gi σ4 74 49).toInt := gk_l eσ7 rfl
          have k_26 : (gi σ7 74 50).toInt = (gi σ4 74 50).toInt := gk_l eσ7 rfl
          have k_27 : (gi σ7 74 51).toInt = (gi σ4 74 51).toInt := gk_l eσ7 rfl
          have k_28 : (gi σ7 74 52).toInt = (gi σ4 74 52).toInt := gk_l eσ7 rfl
          have k_29 : (gi σ7 74 53).toInt = (gi σ4 74 53).toInt := gk_l eσ7 rfl
          have k_30 : (gi σ7 74 54).toInt = (gi σ4 74 54).toInt := gk_l eσ7 rfl
          have k_31 : (gi σ7 74 55).toInt = (gi σ4 74 55).toInt := gk_l eσ7 rfl
          try have hC9 : CD σ0 σ7 110 110 (6) := by rw [eσ7]; exact CD_st (by with_reducible assumption) (by decide +kernel)
          try have hC9 : CD σ0 σ7 162 110 (6) := by rw [eσ7]; exact CD_st (by with_reducible assumption) (by decide +kernel)
          try have hC9 : CD σ0 σ7 162 110 (x1.toInt) := by rw [eσ7]; exact CD_st (by with_reducible assumption) (by decide +kernel)
          try have hD9 : CD σ0 σ7 162 110 (x1.toInt + 1) := by rw [eσ7]; first | exact CD_st (by with_reducible assumption) (by decide +kernel) | exact CD_step (c := 110) (by with_reducible assumption) (by with_reducible assumption) (by omega) (by omega)
          refine ⟨hv_5, ?_⟩
          refine ⟨hv_5, ?_⟩
          intro σ10 eσ10
          replace H := f_l eσ10 H
          have t_32 := MI_a105 mσ7 hv_5
          have mσ10 : MI σ10 := by rw [eσ10]; exact MIs_a158 mσ7 (by omega) (by omega)
          have fσ10 : Fr [74, 156, 157, 158, 159, 160, 161, 162, 163, 164, 165, 166, 167, 168] [49, 50, 51, 52, 53, 54, 55] σ0 σ10 := by rw [eσ10]; exact Fr_si fσ7 (by decide +kernel) (fun h9 => absurd h9 (by decide +kernel))
          have k_33 : (gi σ10 74 0).toInt = (gi σ7 74 0).toInt := gk_l eσ10 rfl
          have k_34 : (gi σ10 74 1).toInt = (gi σ7 74 1).toInt := gk_l eσ10 rfl
          have k_35 : (gi σ10 74 12).toInt = (gi σ7 74 12).toInt := gk_l eσ10 rfl
          have k_36 : (gi σ10 74 41).toInt = (gi σ7 74 41).toInt := gk_l eσ10 rfl
          have k_37 : (gi σ10 74 45).toInt = (gi σ7 74 45).toInt := gk_l eσ10 rfl
          have k_38 : (gi σ10 74 46).toInt = (gi σ7 74 46).toInt := gk_l eσ10 rfl
          have k_39 : (gi σ10 74 49).toInt = (gi σ7 74 49).toInt := gk_l eσ10 rfl
          have k_40 : (gi σ10 74 50).toInt = (gi σ7 74 50).toInt := gk_l eσ10 rfl
          have k_41 : (gi σ10 74 51).toInt = (gi σ7 74 51).toInt := gk_l eσ10 rfl
          have k_42 : (gi σ10 74 52).toInt = (gi σ7 74 52).toInt := gk_l eσ10 rfl
          have k_43 : (gi σ10 74 53).toInt = (gi σ7 74 53).toInt := gk_l eσ10 rfl
          have k_44 : (gi σ10 74 54).toInt = (gi σ7 74 54).toInt := gk_l eσ10 rfl
          have k_45 : (gi σ10 74 55).toInt = (gi σ7 74 55).toInt := gk_l eσ10 rfl
          try have hC9 : CD σ0 σ10 110 110 (6) := by rw [eσ10]; exact CD_st (by with_reducible assumption) (by decide +kernel)
          try have hC9 : CD σ0 σ10 162 110 (6) := by rw [eσ10]; exact CD_st (by with_reducible assumption) (by decide +kernel)
          try have hC9 : CD σ0 σ10 162 110 (x1.toInt) := by rw [eσ10]; exact CD_st (by with_reducible assumption) (by decide +kernel)
          try have hD9 : CD σ0 σ10 162 110 (x1.toInt + 1) := by rw [eσ10]; first | exact CD_st (by with_reducible assumption) (by decide +kernel) | exact CD_step (c := 110) (by with_reducible assumption) (by with_reducible assumption) (by omega) (by omega)
          refine ⟨hv_5, ?_⟩
          refine ⟨hv_5, ?_⟩
          intro σ13 eσ13
          replace H := f_l eσ13 H
          have mσ13 : MI σ13 := by rw [eσ13]; exact MIs_au (a := 159) mσ10 rfl rfl
          have fσ13 : Fr [74, 156, 157, 158, 159, 160, 161, 162, 163, 164, 165, 166, 167, 168] [49, 50, 51, 52, 53, 54, 55] σ0 σ13 := by rw [eσ13]; exact Fr_si fσ10 (by decide +kernel) (fun h9 => absurd h9 (by decide +kernel))
          have k_46 : (gi σ13 74 0).toInt = (gi σ10 74 0).toInt := gk_l eσ13 rfl
          have k_47 : (gi σ13 74 1).toInt = (gi σ10 74 1).toInt := gk_l eσ13 rfl
          have k_48 : (gi σ13 74 12).toInt = (gi σ10 74 12).toInt := gk_l eσ13 rfl
          have k_49 : (gi σ13 74 41).toInt = (gi σ10 74 41).toInt := gk_l eσ13 rfl
          have k_50 : (gi σ13 74 45).toInt = (gi σ10 74 45).toInt := gk_l eσ13 rfl
          have k_51 : (gi σ13 74 46).toInt = (gi σ10 74 46).toInt := gk_l eσ13 rfl
          have k_52 : (gi σ13 74 49).toInt = (gi σ10 74 49).toInt := gk_l eσ13 rfl
          have k_53 : (gi σ13 74 50).toInt = (gi σ10 74 50).toInt := gk_l eσ13 rfl
          have k_54 : (gi σ13 74 51).toInt = (gi σ10 74 51).toInt := gk_l eσ13 rfl
          have k_55 : (gi σ13 74 52).toInt = (gi σ10 74 52).toInt := gk_l eσ13 rfl
          have k_56 : (gi σ13 74 53).toInt = (gi σ10 74 53).toInt := gk_l eσ13 rfl
          have k_57 : (gi σ13 74 54).toInt = (gi σ10 74 54).toInt := gk_l eσ13 rfl
          have k_58 : (gi σ13 74 55).toInt = (gi σ10 74 55).toInt := gk_l eσ13 rfl
          try have hC9 : CD σ0 σ13 110 110 (6) := by rw [eσ13]; exact CD_st (by with_reducible assumption) (by decide +kernel)
          try have hC9 : CD σ0 σ13 162 110 (6) := by rw [eσ13]; exact CD_st (by with_reducible assumption) (by decide +kernel)
          try have hC9 : CD σ0 σ13 162 110 (x1.toInt) := by rw [eσ13]; exact CD_st (by with_reducible assumption) (by decide +kernel)
          try have hD9 : CD σ0 σ13 162 110 (x1.toInt + 1) := by rw [eσ13]; first | exact CD_st (by with_reducible assumption) (by decide +kernel) | exact CD_step (c := 110) (by with_reducible assumption) (by with_reducible assumption) (by omega) (by omega)
          refine ⟨hv_5, ?_⟩
          refine ⟨hv_5, ?_⟩
          intro σ16 eσ16
          replace H := f_l eσ16 H
          have mσ16 : MI σ16 := by rw [eσ16]; exact MIs_au (a := 160) mσ13 rfl rfl
          have fσ16 : Fr [74, 156, 157, 158, 159, 160, 161, 162, 163, 164, 165, 166, 167, 168] [49, 50, 51, 52, 53, 54, 55] σ0 σ16 := by rw [eσ16]; exact Fr_si fσ13 (by decide +kernel) (fun h9 => absurd h9 (by decide +kernel))
          have k_59 : (gi σ16 74 0).toInt = (gi σ13 74 0).toInt := gk_l eσ16 rfl
          have k_60 : (gi σ16 74 1).toInt = (gi σ13 74 1).toInt := gk_l eσ16 rfl
          have k_61 : (gi σ16 74 12).toInt = (gi σ13 74 12).toInt := gk_l eσ16 rfl
          have k_62 : (gi σ16 74 41).toInt = (gi σ13 74 41).toInt := gk_l eσ16 rfl
          have k_63 : (gi σ16 74 45).toInt = (gi σ13 74 45).toInt := gk_l eσ16 rfl
          have k_64 : (gi σ16 74 46).toInt = (gi σ13 74 46).toInt := gk_l eσ16 rfl
          have k_65 : (gi σ16 74 49).toInt = (gi σ13 74 49).toInt := gk_l eσ16 rfl
          have k_66 : (gi σ16 74 50).toInt = (gi σ13 74 50).toInt := gk_l eσ16 rfl
          have k_67 : (gi σ16 74 51).toInt = (gi σ13 74 51).toInt := gk_l eσ16 rfl
          have k_68 : (gi σ16 74 52).toInt = (gi σ13 74 52).toInt := gk_l eσ16 rfl
          have k_69 : (gi σ16 74 53).toInt = (gi σ13 74 53).toInt := gk_l eσ16 rfl
          have k_70 : (gi σ16 74 54).toInt = (gi σ13 74 54).toInt := gk_l eσ16 rfl
          have k_71 : (gi σ16 74 55).toInt = (gi σ13 74 55).toInt := gk_l eσ16 rfl
          try have hC9 : CD σ0 σ16 110 110 (6) := by rw [eσ16]; exact CD_st (by with_reducible assumption) (by decide +kernel)
          try have hC9 : CD σ0 σ16 162 110 (6) := by rw [eσ16]; exact CD_st (by with_reducible assumption) (by decide +kernel)
          try have hC9 : CD σ0 σ16 162 110 (x1.toInt) := by rw [eσ16]; exact CD_st (by with_reducible assumption) (by decide +kernel)
          try have hD9 : CD σ0 σ16 162 110 (x1.toInt + 1) := by rw [eσ16]; first | exact CD_st (by with_reducible assumption) (by decide +kernel) | exact CD_step (c := 110) (by with_reducible assumption) (by with_reducible assumption) (by omega) (by omega)
          refine ⟨hv_5, ?_⟩
          refine ⟨hv_5, ?_⟩
          intro σ19 eσ19
          replace H := f_l eσ19 H
          have mσ19 : MI σ19 := by rw [eσ19]; exact MIs_au (a := 161) mσ16 rfl rfl
          have fσ19 : Fr [74, 156, 157, 158, 159, 160, 161, 162, 163, 164, 165, 166, 167, 168] [49, 50, 51, 52, 53, 54, 55] σ0 σ19 := by rw [eσ19]; exact Fr_si fσ16 (by decide +kernel) (fun h9 => absurd h9 (by decide +kernel))
          have k_72 : (gi σ19 74 0).toInt = (gi σ16 74 0).toInt := gk_l eσ19 rfl
          have k_73 : (gi σ19 74 1).toInt = (gi σ16 74 1).toInt := gk_l eσ19 rfl
          have k_74 : (gi σ19 74 12).toInt = (gi σ16 74 12).toInt := gk_l eσ19 rfl
          have k_75 : (gi σ19 74 41).toInt = (gi σ16 74 41).toInt := gk_l eσ19 rfl
          have k_76 : (gi σ19 74 45).toInt = (gi σ16 74 45).toInt := gk_l eσ19 rfl
          have k_77 : (gi σ19 74 46).toInt = (gi σ16 74 46).toInt := gk_l eσ19 rfl
          have k_78 : (gi σ19 74 49).toInt = (gi σ16 74 49).toInt := gk_l eσ19 rfl
          have k_79 : (gi σ19 74 50).toInt = (gi σ16 74 50).toInt := gk_l eσ19 rfl
          have k_80 : (gi σ19 74 51).toInt = (gi σ16 74 51).toInt := gk_l eσ19 rfl
          have k_81 : (gi σ19 74 52).toInt = (gi σ16 74 52).toInt := gk_l eσ19 rfl
          have k_82 : (gi σ19 74 53).toInt = (gi σ16 74 53).toInt := gk_l eσ19 rfl
          have k_83 : (gi σ19 74 54).toInt = (gi σ16 74 54).toInt := gk_l eσ19 rfl
          have k_84 : (gi σ19 74 55).toInt = (gi σ16 74 55).toInt := gk_l eσ19 rfl
          try have hC9 : CD σ0 σ19 110 110 (6) := by rw [eσ19]; exact CD_st (by with_reducible assumption) (by decide +kernel)
          try have hC9 : CD σ0 σ19 162 110 (6) := by rw [eσ19]; exact CD_st (by with_reducible assumption) (by decide +kernel)
          try have hC9 : CD σ0 σ19 162 110 (x1.toInt) := by rw [eσ19]; exact CD_st (by with_reducible assumption) (by decide +kernel)
          try have hD9 : CD σ0 σ19 162 110 (x1.toInt + 1) := by rw [eσ19]; first | exact CD_st (by with_reducible assumption) (by decide +kernel) | exact CD_step (c := 110) (by with_reducible assumption) (by with_reducible assumption) (by omega) (by omega)
          refine ⟨hv_5, ?_⟩
          refine ⟨hv_5, ?_⟩
          intro σ22 eσ22
          replace H := f_l eσ22 H
          have t_85 := MI_a110 mσ19 hv_5
          have mσ22 : MI σ22 := by rw [eσ22]; exact MIs_a162 mσ19 (by omega) (by omega)
          have fσ22 : Fr [74, 156, 157, 158, 159, 160, 161, 162, 163, 164, 165, 166, 167, 168] [49, 50, 51, 52, 53, 54, 55] σ0 σ22 := by rw [eσ22]; exact Fr_si fσ19 (by decide +kernel) (fun h9 => absurd h9 (by decide +kernel))
          have k_86 : (gi σ22 74 0).toInt = (gi σ19 74 0).toInt := gk_l eσ22 rfl
          have k_87 : (gi σ22 74 1).toInt = (gi σ19 74 1).toInt := gk_l eσ22 rfl
          have k_88 : (gi σ22 74 12).toInt = (gi σ19 74 12).toInt := gk_l eσ22 rfl
          have k_89 : (gi σ22 74 41).toInt = (gi σ19 74 41).toInt := gk_l eσ22 rfl
          have k_90 : (gi σ22 74 45).toInt = (gi σ19 74 45).toInt := gk_l eσ22 rfl
          have k_91 : (gi σ22 74 46).toInt = (gi σ19 74 46).toInt := gk_l eσ22 rfl
          have k_92 : (gi σ22 74 49).toInt = (gi σ19 74 49).toInt := gk_l eσ22 rfl
          have k_93 : (gi σ22 74 50).toInt = (gi σ19 74 50).toInt := gk_l eσ22 rfl
          have k_94 : (gi σ22 74 51).toInt = (gi σ19 74 51).toInt := gk_l eσ22 rfl
          have k_95 : (gi σ22 74 52).toInt = (gi σ19 74 52).toInt := gk_l eσ22 rfl
          have k_96 : (gi σ22 74 53).toInt = (gi σ19 74 53).toInt := gk_l eσ22 rfl
          have k_97 : (gi σ22 74 54).toInt = (gi σ19 74 54).toInt := gk_l eσ22 rfl
          have k_98 : (gi σ22 74 55).toInt = (gi σ19 74 55).toInt := gk_l eσ22 rfl
          try have hC9 : CD σ0 σ22 110 110 (6) := by rw [eσ22]; exact CD_st (by with_reducible assumption) (by decide +kernel)
          try have hC9 : CD σ0 σ22 162 110 (6) := by rw [eσ22]; exact CD_st (by with_reducible assumption) (by decide +kernel)
          try have hC9 : CD σ0 σ22 162 110 (x1.toInt) := by rw [eσ22]; exact CD_st (by with_reducible assumption) (by decide +kernel)
          try have hD9 : CD σ0 σ22 162 110 (x1.toInt + 1) := by rw [eσ22]; first | exact CD_st (by with_reducible assumption) (by decide +kernel) | exact CD_step (c := 110) (by with_reducible assumption) (by with_reducible assumption) (by omega) (by omega)
          refine ⟨hv_5, ?_⟩
          refine ⟨hv_5, ?_⟩
          intro σ25 eσ25
          replace H := f_l eσ25 H
          have t_99 := MI_a142 mσ22 hv_5
          have mσ25 : MI σ25 := by rw [eσ25]; exact MIs_a164 mσ22 (by omega) (by omega)
          have fσ25 : Fr [74, 156, 157, 158, 159, 160, 161, 162, 163, 164, 165, 166, 167, 168] [49, 50, 51, 52, 53, 54, 55] σ0 σ25 := by rw [eσ25]; exact Fr_si fσ22 (by decide +kernel) (fun h9 => absurd h9 (by decide +kernel))
          have k_100 : (gi σ25 74 0).toInt = (gi σ22 74 0).toInt := gk_l eσ25 rfl
          have k_101 : (gi σ25 74 1).toInt = (gi σ22 74 1).toInt := gk_l eσ25 rfl
          have k_102 : (gi σ25 74 12).toInt = (gi σ22 74 12).toInt := gk_l eσ25 rfl
          have k_103 : (gi σ25 74 41).toInt = (gi σ22 74 41).toInt := gk_l eσ25 rfl
          have k_104 : (gi σ25 74 45).toInt = (gi σ22 74 45).toInt := gk_l eσ25 rfl
          have k_105 : (gi σ25 74 46).toInt = (gi σ22 74 46).toInt := gk_l eσ25 rfl
          have k_106 : (gi σ25 74 49).toInt = (gi σ22 74 49).toInt := gk_l eσ25 rfl
          have k_107 : (gi σ25 74 50).toInt = (gi σ22 74 50).toInt := gk_l eσ25 rfl
          have k_108 : (gi σ25 74 51).toInt = (gi σ22 74 51).toInt := gk_l eσ25 rfl
          have k_109 : (gi σ25 74 52).toInt = (gi σ22 74 52).toInt := gk_l eσ25 rfl
          have k_110 : (gi σ25 74 53).toInt = (gi σ22 74 53).toInt := gk_l eσ25 rfl
          have k_111 : (gi σ25 74 54).toInt = (gi σ22 74 54).toInt := gk_l eσ25 rfl
          have k_112 : (gi σ25 74 55).toInt = (gi σ22 74 55).toInt := gk_l eσ25 rfl
          try have hC9 : CD σ0 σ25 110 110 (6) := by rw [eσ25]; exact CD_st (by with_reducible assumption) (by decide +kernel)
          try have hC9 : CD σ0 σ25 162 110 (6) := by rw [eσ25]; exact CD_st (by with_reducible assumption) (by decide +kernel)
          try have hC9 : CD σ0 σ25 162 110 (x1.toInt) := by rw [eσ25]; exact CD_st (by with_reducible assumption) (by decide +kernel)
          try have hD9 : CD σ0 σ25 162 110 (x1.toInt + 1) := by rw [eσ25]; first | exact CD_st (by with_reducible assumption) (by decide +kernel) | exact CD_step (c := 110) (by with_reducible assumption) (by with_reducible assumption) (by omega) (by omega)
          refine ⟨hv_5, ?_⟩
          refine ⟨hv_5, ?_⟩
          intro σ28 eσ28
          replace H := f_l eσ28 H
          have t_113 := MI_a143 mσ25 hv_5
          have mσ28 : MI σ28 := by rw [eσ28]; exact MIs_a165 mσ25 (by omega) (by omega)
          have fσ28 : Fr [74, 156, 157, 158, 159, 160, 161, 162, 163, 164, 165, 166, 167, 168] [49, 50, 51, 52, 53, 54, 55] σ0 σ28 := by rw [eσ28]; exact Fr_si fσ25 (by decide +kernel) (fun h9 => absurd h9 (by decide +kernel))
          have k_114 : (gi σ28 74 0).toInt = (gi σ25 74 0).toInt := gk_l eσ28 rfl
          have k_115 : (gi σ28 74 1).toInt = (gi σ25 74 1).toInt := gk_l eσ28 rfl
          have k_116 : (gi σ28 74 12).toInt = (gi σ25 74 12).toInt := gk_l eσ28 rfl
          have k_117 : (gi σ28 74 41).toInt = (gi σ25 74 41).toInt := gk_l eσ28 rfl
          have k_118 : (gi σ28 74 45).toInt = (gi σ25 74 45).toInt := gk_l eσ28 rfl
          have k_119 : (gi σ28 74 46).toInt = (gi σ25 74 46).toInt := gk_l eσ28 rfl
          have k_120 : (gi σ28 74 49).toInt = (gi σ25 74 49).toInt := gk_l eσ28 rfl
          have k_121 : (gi σ28 74 50).toInt = (gi σ25 74 50).toInt := gk_l eσ28 rfl
          have k_122 : (gi σ28 74 51).toInt = (gi σ25 74 51).toInt := gk_l eσ28 rfl
          have k_123 : (gi σ28 74 52).toInt = (gi σ25 74 52).toInt := gk_l eσ28 rfl
          have k_124 : (gi σ28 74 53).toInt = (gi σ25 74 53).toInt := gk_l eσ28 rfl
          have k_125 : (gi σ28 74 54).toInt = (gi σ25 74 54).toInt := gk_l eσ28 rfl
          have k_126 : (gi σ28 74 55).toInt = (gi σ25 74 55).toInt := gk_l eσ28 rfl
          try have hC9 : CD σ0 σ28 110 110 (6) := by rw [eσ28]; exact CD_st (by with_reducible assumption) (by decide +kernel)
          try have hC9 : CD σ0 σ28 162 110 (6) := by rw [eσ28]; exact CD_st (by with_reducible assumption) (by decide +kernel)
          try have hC9 : CD σ0 σ28 162 110 (x1.toInt) := by rw [eσ28]; exact CD_st (by with_reducible assumption) (by decide +kernel)
          try have hD9 : CD σ0 σ28 162 110 (x1.toInt + 1) := by rw [eσ28]; first | exact CD_st (by with_reducible assumption) (by decide +kernel) | exact CD_step (c := 110) (by with_reducible assumption) (by with_reducible assumption) (by omega) (by omega)
          refine ⟨hv_5, ?_⟩
          refine ⟨hv_5, ?_⟩
          intro σ31 eσ31
          replace H := f_l eσ31 H
          have mσ31 : MI σ31 := by rw [eσ31]; exact MIs_au (a := 166) mσ28 rfl rfl
          have fσ31 : Fr [74, 156, 157, 158, 159, 160, 161, 162, 163, 164, 165, 166, 167, 168] [49, 50, 51, 52, 53, 54, 55] σ0 σ31 := by rw [eσ31]; exact Fr_si fσ28 (by decide +kernel) (fun h9 => absurd h9 (by decide +kernel))
          have k_127 : (gi σ31 74 0).toInt = (gi σ28 74 0).toInt := gk_l eσ31 rfl
          have k_128 : (gi σ31 74 1).toInt = (gi σ28 74 1).toInt := gk_l eσ31 rfl
          have k_129 : (gi σ31 74 12).toInt = (gi σ28 74 12).toInt := gk_l eσ31 rfl
          have k_130 : (gi σ31 74 41).toInt = (gi σ28 74 41).toInt := gk_l eσ31 rfl
          have k_131 : (gi σ31 74 45).toInt = (gi σ28 74 45).toInt := gk_l eσ31 rfl
          have k_132 : (gi σ31 74 46).toInt = (gi σ28 74 46).toInt := gk_l eσ31 rfl
          have k_133 : (gi σ31 74 49).toInt = (gi σ28 74 49).toInt := gk_l eσ31 rfl
          have k_134 : (gi σ31 74 50).toInt = (gi σ28 74 50).toInt := gk_l eσ31 rfl
          have k_135 : (gi σ31 74 51).toInt = (gi σ28 74 51).toInt := gk_l eσ31 rfl
          have k_136 : (gi σ31 74 52).toInt = (gi σ28 74 52).toInt := gk_l eσ31 rfl
          have k_137 : (gi σ31 74 53).toInt = (gi σ28 74 53).toInt := gk_l eσ31 rfl
          have k_138 : (gi σ31 74 54).toInt = (gi σ28 74 54).toInt := gk_l eσ31 rfl
          have k_139 : (gi σ31 74 55).toInt = (gi σ28 74 55).toInt := gk_l eσ31 rfl
          try have hC9 : CD σ0 σ31 110 110 (6) := by rw [eσ31]; exact CD_st (by with_reducible assumption) (by decide +kernel)
          try have hC9 : CD σ0 σ31 162 110 (6) := by rw [eσ31]; exact CD_st (by with_reducible assumption) (by decide +kernel)
          try have hC9 : CD σ0 σ31 162 110 (x1.toInt) := by rw [eσ31]; exact CD_st (by with_reducible assumption) (by decide +kernel)
          try have hD9 : CD σ0 σ31 162 110 (x1.toInt + 1) := by rw [eσ31]; first | exact CD_st (by with_reducible assumption) (by decide +kernel) | exact CD_step (c := 110) (by with_reducible assumption) (by with_reducible assumption) (by omega) (by omega)
          intro v32 ev32
          replace H := f_l ev32 H
          have t_140 : (x1 + (1 : Int32)).toInt = x1.toInt + 1 := i_add (x := x1) (y := (1 : Int32)) (by show (_ : Int) ≤ x1.toInt + 1; omega) (by show x1.toInt + 1 ≤ (_ : Int); omega)
          have t_141 : v32.toInt = (x1 + (1 : Int32)).toInt := congrArg Int32.toInt ev32
          exact ih55 v32 σ31 mσ31 fσ31 (by omega) (by omega) (by first | with_reducible assumption | with_reducible rfl | omega | assumption | rfl) (by first | with_reducible assumption | with_reducible rfl | omega | assumption | rfl) (by first | with_reducible assumption | with_reducible rfl | omega | assumption | rfl) (by with_reducible assumption) (by first | exact CD_0 (Int.le_refl 0) | (rw [show v32.toInt = x1.toInt + 1 from by omega]; assumption)) (by first | with_reducible assumption | with_reducible rfl | omega | assumption | rfl) (by first | with_reducible assumption | with_reducible rfl | omega | assumption | rfl) (by first | with_reducible assumption | with_reducible rfl | omega | assumption | rfl) (by first | with_reducible assumption | with_reducible rfl | omega | assumption | rfl) (by first | with_reducible assumption | with_reducible rfl | omega | assumption | rfl) H (by omega)
      · intro x1 σ mσ fσ lx1 ux1 i0 i1 i2 i3 i4 i5 i6 i7 i8 H hmu
        replace H : LB_X12_image_189 (LF_X12_image n) x1 σ = R9 := H
        unfold LB_X12_image_189 at H
        refine s_X12_image_189 C hN ?_
        refine ⟨?_, ?_⟩
        · intro q_142
          replace H := f_t q_142 H
          have b_143 : (24 : Int) ≤ x1.toInt := Int32.le_iff_toInt_le.mp q_142
          have z_144 : (0 : Int32).toInt = 0 := rfl
          exact ih215 (0 : Int32) σ mσ fσ (by omega) (by omega) (by first | with_reducible assumption | with_reducible rfl | omega | assumption | rfl) (by first | with_reducible assumption | with_reducible rfl | omega | assumption | rfl) (by first | with_reducible assumption | with_reducible rfl | omega | assumption | rfl) (by first | assumption | exact CD_le (by with_reducible assumption) (by omega)) (by first | with_reducible assumption | with_reducible rfl | omega | assumption | rfl) (by first | with_reducible assumption | with_reducible rfl | omega | assumption | rfl) (by first | with_reducible assumption | with_reducible rfl | omega | assumption | rfl) (by first | with_reducible assumption | with_reducible rfl | omega | assumption | rfl) (by first | with_reducible assumption | with_reducible rfl | omega | assumption | rfl) H (by omega)
        · intro q_142
          replace H := f_f q_142 H
          have b_145 : ¬ (24 : Int) ≤ x1.toInt := fun h9 => q_142 (Int32.le_iff_toInt_le.mpr h9)
          have hv_146 : vp_in x1 24 := vp_in_iff.mpr ⟨by omega, by omega⟩
          refine ⟨hv_146, ?_⟩
          refine ⟨hv_146, ?_⟩
          intro σ4 eσ4
          replace H := f_l eσ4 H
          have mσ4 : MI σ4 := by rw [eσ4]; exact MIs_au (a := 163) mσ rfl rfl
          have fσ4 : Fr [74, 156, 157, 158, 159, 160, 161, 162, 163, 164, 165, 166, 167, 168] [49, 50, 51, 52, 53, 54, 55] σ0 σ4 := by rw [eσ4]; exact Fr_si fσ (by decide +kernel) (fun h9 => absurd h9 (by decide +kernel))
          have k_147 : (gi σ4 74 0).toInt = (gi σ 74 0).toInt := gk_l eσ4 rfl
          have k_148 : (gi σ4 74 1).toInt = (gi σ 74 1).toInt := gk_l eσ4 rfl
          have k_149 : (gi σ4 74 12).toInt = (gi σ 74 12).toInt := gk_l eσ4 rfl
          have k_150 : (gi σ4 74 41).toInt = (gi σ 74 41).toInt := gk_l eσ4 rfl
          have k_151 : (gi σ4 74 45).toInt = (gi σ 74 45).toInt := gk_l eσ4 rfl
          have k_152 : (gi σ4 74 46).toInt = (gi σ 74 46).toInt := gk_l eσ4 rfl
          have k_153 : (gi σ4 74 49).toInt = (gi σ 74 49).toInt := gk_l eσ4 rfl
          have k_154 : (gi σ4 74 50).toInt = (gi σ 74 50).toInt := gk_l eσ4 rfl
          have k_155 : (gi σ4 74 51).toInt = (gi σ 74 51).toInt := gk_l eσ4 rfl
          have k_156 : (gi σ4 74 52).toInt = (gi σ 74 52).toInt := gk_l eσ4 rfl
          have k_157 : (gi σ4 74 53).toInt = (gi σ 74 53).toInt := gk_l eσ4 rfl
          have k_158 : (gi σ4 74 54).toInt = (gi σ 74 54).toInt := gk_l eσ4 rfl
          have k_159 : (gi σ4 74 55).toInt = (gi σ 74 55).toInt := gk_l eσ4 rfl
          try have hC9 : CD σ0 σ4 110 110 (6) := by rw [eσ4]; exact CD_st (by with_reducible assumption) (by decide +kernel)
          try have hC9 : CD σ0 σ4 162 110 (6) := by rw [eσ4]; exact CD_st (by with_reducible assumption) (by decide +kernel)
          try have hC9 : CD σ0 σ4 162 110 (x1.toInt) := by rw [eσ4]; exact CD_st (by with_reducible assumption) (by decide +kernel)
          try have hD9 : CD σ0 σ4 162 110 (x1.toInt + 1) := by rw [eσ4]; first | exact CD_st (by with_reducible assumption) (by decide +kernel) | exact CD_step (c := 110) (by with_reducible assumption) (by with_reducible assumption) (by omega) (by omega)
          intro v5 ev5
          replace H := f_l ev5 H
          have t_160 : (x1 + (1 : Int32)).toInt = x1.toInt + 1 := i_add (x := x1) (y := (1 : Int32)) (by show (_ : Int) ≤ x1.toInt + 1; omega) (by show x1.toInt + 1 ≤ (_ : Int); omega)
          have t_161 : v5.toInt = (x1 + (1 : Int32)).toInt := congrArg Int32.toInt ev5
          exact ih189 v5 σ4 mσ4 fσ4 (by omega) (by omega) (by first | with_reducible assumption | with_reducible rfl | omega | assumption | rfl) (by first | with_reducible assumption | with_reducible rfl | omega | assumption | rfl) (by first | with_reducible assumption | with_reducible rfl | omega | assumption | rfl) (by first | assumption | exact CD_le (by with_reducible assumption) (by omega)) (by first | with_reducible assumption | with_reducible rfl | omega | assumption | rfl) (by first | with_reducible assumption | with_reducible rfl | omega | assumption | rfl) (by first | with_reducible assumption | with_reducible rfl | omega | assumption | rfl) (by first | with_reducible assumption | with_reducible rfl | omega | assumption | rfl) (by first | with_reducible assumption | with_reducible rfl | omega | assumption | rfl) H (by omega)
      · intro x1 σ mσ fσ lx1 ux1 i0 i1 i2 i3 i4 i5 i6 i7 i8 H hmu
        replace H : LB_X12_image_215 (LF_X12_image n) x1 σ = R9 := H
        unfold LB_X12_image_215 at H
        refine s_X12_image_215 C hN ?_
        refine ⟨?_, ?_⟩
        · intro q_162
          replace H := f_t q_162 H
          have b_163 : (10 : Int) ≤ x1.toInt := Int32.le_iff_toInt_le.mp q_162
          have z_164 : (0 : Int32).toInt = 0 := rfl
          exact ih241 (0 : Int32) σ mσ fσ (by omega) (by omega) (by first | with_reducible assumption | with_reducible rfl | omega | assumption | rfl) (by first | with_reducible assumption | with_reducible rfl | omega | assumption | rfl) (by first | with_reducible assumption | with_reducible rfl | omega | assumption | rfl) (by first | assumption | exact CD_le (by with_reducible assumption) (by omega)) (by first | with_reducible assumption | with_reducible rfl | omega | assumption | rfl) (by first | with_reducible assumption | with_reducible rfl | omega | assumption | rfl) (by first | with_reducible assumption | with_reducible rfl | omega | assumption | rfl) (by first | with_reducible assumption | with_reducible rfl | omega | assumption | rfl) (by first | with_reducible assumption | with_reducible rfl | omega | assumption | rfl) H (by omega)
        · intro q_162
          replace H := f_f q_162 H
          have b_165 : ¬ (10 : Int) ≤ x1.toInt := fun h9 => q_162 (Int32.le_iff_toInt_le.mpr h9)
          have hv_166 : vp_in x1 10 := vp_in_iff.mpr ⟨by omega, by omega⟩
          refine ⟨hv_166, ?_⟩
          refine ⟨hv_166, ?_⟩
          intro σ4 eσ4
          replace H := f_l eσ4 H
          have mσ4 : MI σ4 := by rw [eσ4]; exact MIs_au (a := 167) mσ rfl rfl
          have fσ4 : Fr [74, 156, 157, 158, 159, 160, 161, 162, 163, 164, 165, 166, 167, 168] [49, 50, 51, 52, 53, 54, 55] σ0 σ4 := by rw [eσ4]; exact Fr_si fσ (by decide +kernel) (fun h9 => absurd h9 (by decide +kernel))
          have k_167 : (gi σ4 74 0).toInt = (gi σ 74 0).toInt := gk_l eσ4 rfl
          have k_168 : (gi σ4 74 1).toInt = (gi σ 74 1).toInt := gk_l eσ4 rfl
          have k_169 : (gi σ4 74 12).toInt = (gi σ 74 12).toInt := gk_l eσ4 rfl
          have k_170 : (gi σ4 74 41).toInt = (gi σ 74 41).toInt := gk_l eσ4 rfl
          have k_171 : (gi σ4 74 45).toInt = (gi σ 74 45).toInt := gk_l eσ4 rfl
          have k_172 : (gi σ4 74 46).toInt = (gi σ 74 46).toInt := gk_l eσ4 rfl
          have k_173 : (gi σ4 74 49).toInt = (gi σ 74 49).toInt := gk_l eσ4 rfl
          have k_174 : (gi σ4 74 50).toInt = (gi σ 74 50).toInt := gk_l eσ4 rfl
          have k_175 : (gi σ4 74 51).toInt = (gi σ 74 51).toInt := gk_l eσ4 rfl
          have k_176 : (gi σ4 74 52).toInt = (gi σ 74 52).toInt := gk_l eσ4 rfl
          have k_177 : (gi σ4 74 53).toInt = (gi σ 74 53).toInt := gk_l eσ4 rfl
          have k_178 : (gi σ4 74 54).toInt = (gi σ 74 54).toInt := gk_l eσ4 rfl
          have k_179 : (gi σ4 74 55).toInt = (gi σ 74 55).toInt := gk_l eσ4 rfl
          try have hC9 : CD σ0 σ4 110 110 (6) := by rw [eσ4]; exact CD_st (by with_reducible assumption) (by decide +kernel)
          try have hC9 : CD σ0 σ4 162 110 (6) := by rw [eσ4]; exact CD_st (by with_reducible assumption) (by decide +kernel)
          try have hC9 : CD σ0 σ4 162 110 (x1.toInt) := by rw [eσ4]; exact CD_st (by with_reducible assumption) (by decide +kernel)
          try have hD9 : CD σ0 σ4 162 110 (x1.toInt + 1) := by rw [eσ4]; first | exact CD_st (by with_reducible assumption) (by decide +kernel) | exact CD_step (c := 110) (by with_reducible assumption) (by with_reducible assumption) (by omega) (by omega)
          intro v5 ev5
          replace H := f_l ev5 H
          have t_180 : (x1 + (1 : Int32)).toInt = x1.toInt + 1 := i_add (x := x1) (y := (1 : Int32)) (by show (_ : Int) ≤ x1.toInt + 1; omega) (by show x1.toInt + 1 ≤ (_ : Int); omega)
          have t_181 : v5.toInt = (x1 + (1 : Int32)).toInt := congrArg Int32.toInt ev5
          exact ih215 v5 σ4 mσ4 fσ4 (by omega) (by omega) (by first | with_reducible assumption | with_reducible rfl | omega | assumption | rfl) (by first | with_reducible assumption | with_reducible rfl | omega | assumption | rfl) (by first | with_reducible assumption | with_reducible rfl | omega | assumption | rfl) (by first | assumption | exact CD_le (by with_reducible assumption) (by omega)) (by first | with_reducible assumption | with_reducible rfl | omega | assumption | rfl) (by first | with_reducible assumption | with_reducible rfl | omega | assumption | rfl) (by first | with_reducible assumption | with_reducible rfl | omega | assumption | rfl) (by first | with_reducible assumption | with_reducible rfl | omega | assumption | rfl) (by first | with_reducible assumption | with_reducible rfl | omega | assumption | rfl) H (by omega)
      · intro x1 σ mσ fσ lx1 ux1 i0 i1 i2 i3 i4 i5 i6 i7 i8 H hmu
        replace H : LB_X12_image_241 (LF_X12_image n) x1 σ = R9 := H
        unfold LB_X12_image_241 at H
        refine s_X12_image_241 C hN ?_
        refine ⟨?_, ?_⟩
        · intro q_182
          replace H := f_t q_182 H
          have b_183 : (8 : Int) ≤ x1.toInt := Int32.le_iff_toInt_le.mp q_182
          have t_184 := MI_f0 mσ
          exact h9ret (gi σ 74 0) σ mσ fσ (by first | with_reducible assumption | with_reducible rfl | omega | assumption | rfl) (by first | with_reducible assumption | with_reducible rfl | omega | assumption | rfl) (by first | with_reducible assumption | with_reducible rfl | omega | assumption | rfl) (PLI_mk m0 pre0 (by with_reducible assumption) (by omega)) (by first | with_reducible assumption | with_reducible rfl | omega | assumption | rfl) (by first | with_reducible assumption | with_reducible rfl | omega | assumption | rfl) (by first | with_reducible assumption | with_reducible rfl | omega | assumption | rfl) (by first | with_reducible assumption | with_reducible rfl | omega | assumption | rfl) (by first | with_reducible assumption | with_reducible rfl | omega | assumption | rfl) (H0.trans H.symm)
        · intro q_182
          replace H := f_f q_182 H
          have b_185 : ¬ (8 : Int) ≤ x1.toInt := fun h9 => q_182 (Int32.le_iff_toInt_le.mpr h9)
          have hv_186 : vp_in x1 8 := vp_in_iff.mpr ⟨by omega, by omega⟩
          refine ⟨hv_186, ?_⟩
          refine ⟨hv_186, ?_⟩
          intro σ4 eσ4
          replace H := f_l eσ4 H
          have mσ4 : MI σ4 := by rw [eσ4]; exact MIs_au (a := 168) mσ rfl rfl
          have fσ4 : Fr [74, 156, 157, 158, 159, 160, 161, 162, 163, 164, 165, 166, 167, 168] [49, 50, 51, 52, 53, 54, 55] σ0 σ4 := by rw [eσ4]; exact Fr_si fσ (by decide +kernel) (fun h9 => absurd h9 (by decide +kernel))
          have k_187 : (gi σ4 74 0).toInt = (gi σ 74 0).toInt := gk_l eσ4 rfl
          have k_188 : (gi σ4 74 1).toInt = (gi σ 74 1).toInt := gk_l eσ4 rfl
          have k_189 : (gi σ4 74 12).toInt = (gi σ 74 12).toInt := gk_l eσ4 rfl
          have k_190 : (gi σ4 74 41).toInt = (gi σ 74 41).toInt := gk_l eσ4 rfl
          have k_191 : (gi σ4 74 45).toInt = (gi σ 74 45).toInt := gk_l eσ4 rfl
          have k_192 : (gi σ4 74 46).toInt = (gi σ 74 46).toInt := gk_l eσ4 rfl
          have k_193 : (gi σ4 74 49).toInt = (gi σ 74 49).toInt := gk_l eσ4 rfl
          have k_194 : (gi σ4 74 50).toInt = (gi σ 74 50).toInt := gk_l eσ4 rfl
          have k_195 : (gi σ4 74 51).toInt = (gi σ 74 51).toInt := gk_l eσ4 rfl
          have k_196 : (gi σ4 74 52).toInt = (gi σ 74 52).toInt := gk_l eσ4 rfl
          have k_197 : (gi σ4 74 53).toInt = (gi σ 74 53).toInt := gk_l eσ4 rfl
          have k_198 : (gi σ4 74 54).toInt = (gi σ 74 54).toInt := gk_l eσ4 rfl
          have k_199 : (gi σ4 74 55).toInt = (gi σ 74 55).toInt := gk_l eσ4 rfl
          try have hC9 : CD σ0 σ4 110 110 (6) := by rw [eσ4]; exact CD_st (by with_reducible assumption) (by decide +kernel)
          try have hC9 : CD σ0 σ4 162 110 (6) := by rw [eσ4]; exact CD_st (by with_reducible assumption) (by decide +kernel)
          try have hC9 : CD σ0 σ4 162 110 (x1.toInt) := by rw [eσ4]; exact CD_st (by with_reducible assumption) (by decide +kernel)
          try have hD9 : CD σ0 σ4 162 110 (x1.toInt + 1) := by rw [eσ4]; first | exact CD_st (by with_reducible assumption) (by decide +kernel) | exact CD_step (c := 110) (by with_reducible assumption) (by with_reducible assumption) (by omega) (by omega)
          intro v5 ev5
          replace H := f_l ev5 H
          have t_200 : (x1 + (1 : Int32)).toInt = x1.toInt + 1 := i_add (x := x1) (y := (1 : Int32)) (by show (_ : Int) ≤ x1.toInt + 1; omega) (by show x1.toInt + 1 ≤ (_ : Int); omega)
          have t_201 : v5.toInt = (x1 + (1 : Int32)).toInt := congrArg Int32.toInt ev5
          exact ih241 v5 σ4 mσ4 fσ4 (by omega) (by omega) (by first | with_reducible assumption | with_reducible rfl | omega | assumption | rfl) (by first | with_reducible assumption | with_reducible rfl | omega | assumption | rfl) (by first | with_reducible assumption | with_reducible rfl | omega | assumption | rfl) (by first | assumption | exact CD_le (by with_reducible assumption) (by omega)) (by first | with_reducible assumption | with_reducible rfl | omega | assumption | rfl) (by first | with_reducible assumption | with_reducible rfl | omega | assumption | rfl) (by first | with_reducible assumption | with_reducible rfl | omega | assumption | rfl) (by first | with_reducible assumption | with_reducible rfl | omega | assumption | rfl) (by first | with_reducible assumption | with_reducible rfl | omega | assumption | rfl) H (by omega)
  obtain ⟨U55, U189, U215, U241⟩ := T 900
  have f0 : Fr [74, 156, 157, 158, 159, 160, 161, 162, 163, 164, 165, 166, 167, 168] [49, 50, 51, 52, 53, 54, 55] σ0 σ0 := Fr_rf
  have hA9 : CD σ0 σ0 110 110 6 := CD_rf
  have H := H0
  unfold F_X12_image at H
  refine s_X12_image_0 C hN ?_
  intro σ1 eσ1
  replace H := f_l eσ1 H
  have mσ1 : MI σ1 := by rw [eσ1]; exact MIs_fu m0 (by decide +kernel)
  have fσ1 : Fr [74, 156, 157, 158, 159, 160, 161, 162, 163, 164, 165, 166, 167, 168] [49, 50, 51, 52, 53, 54, 55] σ0 σ1 := by rw [eσ1]; exact Fr_si f0 (by decide +kernel) (fun _ => by decide +kernel)
  have k_202 : (gi σ1 74 0).toInt = (gi σ0 74 0).toInt := gk_r eσ1 rfl
  have k_203 : (gi σ1 74 1).toInt = (gi σ0 74 1).toInt := gk_r eσ1 rfl
  have k_204 : (gi σ1 74 12).toInt = (gi σ0 74 12).toInt := gk_r eσ1 rfl
  have k_205 : (gi σ1 74 41).toInt = (gi σ0 74 41).toInt := gk_r eσ1 rfl
  have k_206 : (gi σ1 74 45).toInt = (gi σ0 74 45).toInt := gk_r eσ1 rfl
  have k_207 : (gi σ1 74 46).toInt = (gi σ0 74 46).toInt := gk_r eσ1 rfl
  have k_208 : (gi σ1 74 49).toInt = 1 := by rw [eσ1]; exact congrArg Int32.toInt gi_si_eq
  have k_209 : (gi σ1 74 50).toInt = (gi σ0 74 50).toInt := gk_r eσ1 rfl
  have k_210 : (gi σ1 74 51).toInt = (gi σ0 74 51).toInt := gk_r eσ1 rfl
  have k_211 : (gi σ1 74 52).toInt = (gi σ0 74 52).toInt := gk_r eσ1 rfl
  have k_212 : (gi σ1 74 53).toInt = (gi σ0 74 53).toInt := gk_r eσ1 rfl
  have k_213 : (gi σ1 74 54).toInt = (gi σ0 74 54).toInt := gk_r eσ1 rfl
  have k_214 : (gi σ1 74 55).toInt = (gi σ0 74 55).toInt := gk_r eσ1 rfl
  try have hC9 : CD σ0 σ1 110 110 (6) := by rw [eσ1]; exact CD_st (by with_reducible assumption) (by decide +kernel)
  intro σ2 eσ2
  replace H := f_l eσ2 H
  have t_215 := MI_f12 mσ1
  have mσ2 : MI σ2 := by rw [eσ2]; exact MIs_f50 mσ1 (by omega) (by omega) (FV_copy mσ1.2.2 (Or.inr rfl) (Or.inl rfl))
  have fσ2 : Fr [74, 156, 157, 158, 159, 160, 161, 162, 163, 164, 165, 166, 167, 168] [49, 50, 51, 52, 53, 54, 55] σ0 σ2 := by rw [eσ2]; exact Fr_si fσ1 (by decide +kernel) (fun _ => by decide +kernel)
  have k_216 : (gi σ2 74 0).toInt = (gi σ1 74 0).toInt := gk_r eσ2 rfl
  have k_217 : (gi σ2 74 1).toInt = (gi σ1 74 1).toInt := gk_r eσ2 rfl
  have k_218 : (gi σ2 74 12).toInt = (gi σ1 74 12).toInt := gk_r eσ2 rfl
  have k_219 : (gi σ2 74 41).toInt = (gi σ1 74 41).toInt := gk_r eσ2 rfl
  have k_220 : (gi σ2 74 45).toInt = (gi σ1 74 45).toInt := gk_r eσ2 rfl
  have k_221 : (gi σ2 74 46).toInt = (gi σ1 74 46).toInt := gk_r eσ2 rfl
  have k_222 : (gi σ2 74 49).toInt = (gi σ1 74 49).toInt := gk_r eσ2 rfl
  have k_223 : (gi σ2 74 50).toInt = (gi σ1 74 12).toInt := by rw [eσ2]; exact congrArg Int32.toInt gi_si_eq
  have k_224 : (gi σ2 74 51).toInt = (gi σ1 74 51).toInt := gk_r eσ2 rfl
  have k_225 : (gi σ2 74 52).toInt = (gi σ1 74 52).toInt := gk_r eσ2 rfl
  have k_226 : (gi σ2 74 53).toInt = (gi σ1 74 53).toInt := gk_r eσ2 rfl
  have k_227 : (gi σ2 74 54).toInt = (gi σ1 74 54).toInt := gk_r eσ2 rfl
  have k_228 : (gi σ2 74 55).toInt = (gi σ1 74 55).toInt := gk_r eσ2 rfl
  try have hC9 : CD σ0 σ2 110 110 (6) := by rw [eσ2]; exact CD_st (by with_reducible assumption) (by decide +kernel)
  intro σ3 eσ3
  replace H := f_l eσ3 H
  have t_229 := MI_f0 mσ2
  have mσ3 : MI σ3 := by rw [eσ3]; exact MIs_f51 mσ2 (by omega) (by omega)
  have fσ3 : Fr [74, 156, 157, 158, 159, 160, 161, 162, 163, 164, 165, 166, 167, 168] [49, 50, 51, 52, 53, 54, 55] σ0 σ3 := by rw [eσ3]; exact Fr_si fσ2 (by decide +kernel) (fun _ => by decide +kernel)
  have k_230 : (gi σ3 74 0).toInt = (gi σ2 74 0).toInt := gk_r eσ3 rfl
  have k_231 : (gi σ3 74 1).toInt = (gi σ2 74 1).toInt := gk_r eσ3 rfl
  have k_232 : (gi σ3 74 12).toInt = (gi σ2 74 12).toInt := gk_r eσ3 rfl
  have k_233 : (gi σ3 74 41).toInt = (gi σ2 74 41).toInt := gk_r eσ3 rfl
  have k_234 : (gi σ3 74 45).toInt = (gi σ2 74 45).toInt := gk_r eσ3 rfl
  have k_235 : (gi σ3 74 46).toInt = (gi σ2 74 46).toInt := gk_r eσ3 rfl
  have k_236 : (gi σ3 74 49).toInt = (gi σ2 74 49).toInt := gk_r eσ3 rfl
  have k_237 : (gi σ3 74 50).toInt = (gi σ2 74 50).toInt := gk_r eσ3 rfl
  have k_238 : (gi σ3 74 51).toInt = (gi σ2 74 0).toInt := by rw [eσ3]; exact congrArg Int32.toInt gi_si_eq
  have k_239 : (gi σ3 74 52).toInt = (gi σ2 74 52).toInt := gk_r eσ3 rfl
  have k_240 : (gi σ3 74 53).toInt = (gi σ2 74 53).toInt := gk_r eσ3 rfl
  have k_241 : (gi σ3 74 54).toInt = (gi σ2 74 54).toInt := gk_r eσ3 rfl
  have k_242 : (gi σ3 74 55).toInt = (gi σ2 74 55).toInt := gk_r eσ3 rfl
  try have hC9 : CD σ0 σ3 110 110 (6) := by rw [eσ3]; exact CD_st (by with_reducible assumption) (by decide +kernel)
  intro σ4 eσ4
  replace H := f_l eσ4 H
  have t_243 := MI_f1 mσ3
  have mσ4 : MI σ4 := by rw [eσ4]; exact MIs_f52 mσ3 (by omega) (by omega)
  have fσ4 : Fr [74, 156, 157, 158, 159, 160, 161, 162, 163, 164, 165, 166, 167, 168] [49, 50, 51, 52, 53, 54, 55] σ0 σ4 := by rw [eσ4]; exact Fr_si fσ3 (by decide +kernel) (fun _ => by decide +kernel)
  have k_244 : (gi σ4 74 0).toInt = (gi σ3 74 0).toInt := gk_r eσ4 rfl
  have k_245 : (gi σ4 74 1).toInt = (gi σ3 74 1).toInt := gk_r eσ4 rfl
  have k_246 : (gi σ4 74 12).toInt = (gi σ3 74 12).toInt := gk_r eσ4 rfl
  have k_247 : (gi σ4 74 41).toInt = (gi σ3 74 41).toInt := gk_r eσ4 rfl
  have k_248 : (gi σ4 74 45).toInt = (gi σ3 74 45).toInt := gk_r eσ4 rfl
  have k_249 : (gi σ4 74 46).toInt = (gi σ3 74 46).toInt := gk_r eσ4 rfl
  have k_250 : (gi σ4 74 49).toInt = (gi σ3 74 49).toInt := gk_r eσ4 rfl
  have k_251 : (gi σ4 74 50).toInt = (gi σ3 74 50).toInt := gk_r eσ4 rfl
  have k_252 : (gi σ4 74 51).toInt = (gi σ3 74 51).toInt := gk_r eσ4 rfl
  have k_253 : (gi σ4 74 52).toInt = (gi σ3 74 1).toInt := by rw [eσ4]; exact congrArg Int32.toInt gi_si_eq
  have k_254 : (gi σ4 74 53).toInt = (gi σ3 74 53).toInt := gk_r eσ4 rfl
  have k_255 : (gi σ4 74 54).toInt = (gi σ3 74 54).toInt := gk_r eσ4 rfl
  have k_256 : (gi σ4 74 55).toInt = (gi σ3 74 55).toInt := gk_r eσ4 rfl
  try have hC9 : CD σ0 σ4 110 110 (6) := by rw [eσ4]; exact CD_st (by with_reducible assumption) (by decide +kernel)
  intro σ5 eσ5
  replace H := f_l eσ5 H
  have t_257 := MI_f41 mσ4
  have mσ5 : MI σ5 := by rw [eσ5]; exact MIs_f53 mσ4 (by omega) (by omega)
  have fσ5 : Fr [74, 156, 157, 158, 159, 160, 161, 162, 163, 164, 165, 166, 167, 168] [49, 50, 51, 52, 53, 54, 55] σ0 σ5 := by rw [eσ5]; exact Fr_si fσ4 (by decide +kernel) (fun _ => by decide +kernel)
  have k_258 : (gi σ5 74 0).toInt = (gi σ4 74 0).toInt := gk_r eσ5 rfl
  have k_259 : (gi σ5 74 1).toInt = (gi σ4 74 1).toInt := gk_r eσ5 rfl
  have k_260 : (gi σ5 74 12).toInt = (gi σ4 74 12).toInt := gk_r eσ5 rfl
  have k_261 : (gi σ5 74 41).toInt = (gi σ4 74 41).toInt := gk_r eσ5 rfl
  have k_262 : (gi σ5 74 45).toInt = (gi σ4 74 45).toInt := gk_r eσ5 rfl
  have k_263 : (gi σ5 74 46).toInt = (gi σ4 74 46).toInt := gk_r eσ5 rfl
  have k_264 : (gi σ5 74 49).toInt = (gi σ4 74 49).toInt := gk_r eσ5 rfl
  have k_265 : (gi σ5 74 50).toInt = (gi σ4 74 50).toInt := gk_r eσ5 rfl
  have k_266 : (gi σ5 74 51).toInt = (gi σ4 74 51).toInt := gk_r eσ5 rfl
  have k_267 : (gi σ5 74 52).toInt = (gi σ4 74 52).toInt := gk_r eσ5 rfl
  have k_268 : (gi σ5 74 53).toInt = (gi σ4 74 41).toInt := by rw [eσ5]; exact congrArg Int32.toInt gi_si_eq
  have k_269 : (gi σ5 74 54).toInt = (gi σ4 74 54).toInt := gk_r eσ5 rfl
  have k_270 : (gi σ5 74 55).toInt = (gi σ4 74 55).toInt := gk_r eσ5 rfl
  try have hC9 : CD σ0 σ5 110 110 (6) := by rw [eσ5]; exact CD_st (by with_reducible assumption) (by decide +kernel)
  intro σ6 eσ6
  replace H := f_l eσ6 H
  have t_271 := MI_f45 mσ5
  have mσ6 : MI σ6 := by rw [eσ6]; exact MIs_f54 mσ5 (by omega) (by omega)
  have fσ6 : Fr [74, 156, 157, 158, 159, 160, 161, 162, 163, 164, 165, 166, 167, 168] [49, 50, 51, 52, 53, 54, 55] σ0 σ6 := by rw [eσ6]; exact Fr_si fσ5 (by decide +kernel) (fun _ => by decide +kernel)
  have k_272 : (gi σ6 74 0).toInt = (gi σ5 74 0).toInt := gk_r eσ6 rfl
  have k_273 : (gi σ6 74 1).toInt = (gi σ5 74 1).toInt := gk_r eσ6 rfl
  have k_274 : (gi σ6 74 12).toInt = (gi σ5 74 12).toInt := gk_r eσ6 rfl
  have k_275 : (gi σ6 74 41).toInt = (gi σ5 74 41).toInt := gk_r eσ6 rfl
  have k_276 : (gi σ6 74 45).toInt = (gi σ5 74 45).toInt := gk_r eσ6 rfl
  have k_277 : (gi σ6 74 46).toInt = (gi σ5 74 46).toInt := gk_r eσ6 rfl
  have k_278 : (gi σ6 74 49).toInt = (gi σ5 74 49).toInt := gk_r eσ6 rfl
  have k_279 : (gi σ6 74 50).toInt = (gi σ5 74 50).toInt := gk_r eσ6 rfl
  have k_280 : (gi σ6 74 51).toInt = (gi σ5 74 51).toInt := gk_r eσ6 rfl
  have k_281 : (gi σ6 74 52).toInt = (gi σ5 74 52).toInt := gk_r eσ6 rfl
  have k_282 : (gi σ6 74 53).toInt = (gi σ5 74 53).toInt := gk_r eσ6 rfl
  have k_283 : (gi σ6 74 54).toInt = (gi σ5 74 45).toInt := by rw [eσ6]; exact congrArg Int32.toInt gi_si_eq
  have k_284 : (gi σ6 74 55).toInt = (gi σ5 74 55).toInt := gk_r eσ6 rfl
  try have hC9 : CD σ0 σ6 110 110 (6) := by rw [eσ6]; exact CD_st (by with_reducible assumption) (by decide +kernel)
  intro σ7 eσ7
  replace H := f_l eσ7 H
  have t_285 := MI_f46 mσ6
  have mσ7 : MI σ7 := by rw [eσ7]; exact MIs_f55 mσ6 (by omega) (by omega)
  have fσ7 : Fr [74, 156, 157, 158, 159, 160, 161, 162, 163, 164, 165, 166, 167, 168] [49, 50, 51, 52, 53, 54, 55] σ0 σ7 := by rw [eσ7]; exact Fr_si fσ6 (by decide +kernel) (fun _ => by decide +kernel)
  have k_286 : (gi σ7 74 0).toInt = (gi σ6 74 0).toInt := gk_r eσ7 rfl
  have k_287 : (gi σ7 74 1).toInt = (gi σ6 74 1).toInt := gk_r eσ7 rfl
  have k_288 : (gi σ7 74 12).toInt = (gi σ6 74 12).toInt := gk_r eσ7 rfl
  have k_289 : (gi σ7 74 41).toInt = (gi σ6 74 41).toInt := gk_r eσ7 rfl
  have k_290 : (gi σ7 74 45).toInt = (gi σ6 74 45).toInt := gk_r eσ7 rfl
  have k_291 : (gi σ7 74 46).toInt = (gi σ6 74 46).toInt := gk_r eσ7 rfl
  have k_292 : (gi σ7 74 49).toInt = (gi σ6 74 49).toInt := gk_r eσ7 rfl
  have k_293 : (gi σ7 74 50).toInt = (gi σ6 74 50).toInt := gk_r eσ7 rfl
  have k_294 : (gi σ7 74 51).toInt = (gi σ6 74 51).toInt := gk_r eσ7 rfl
  have k_295 : (gi σ7 74 52).toInt = (gi σ6 74 52).toInt := gk_r eσ7 rfl
  have k_296 : (gi σ7 74 53).toInt = (gi σ6 74 53).toInt := gk_r eσ7 rfl
  have k_297 : (gi σ7 74 54).toInt = (gi σ6 74 54).toInt := gk_r eσ7 rfl
  have k_298 : (gi σ7 74 55).toInt = (gi σ6 74 46).toInt := by rw [eσ7]; exact congrArg Int32.toInt gi_si_eq
  try have hC9 : CD σ0 σ7 110 110 (6) := by rw [eσ7]; exact CD_st (by with_reducible assumption) (by decide +kernel)
  have z_299 : (0 : Int32).toInt = 0 := rfl
  exact U55 (0 : Int32) σ7 mσ7 fσ7 (by omega) (by omega) (by first | with_reducible assumption | with_reducible rfl | omega | assumption | rfl) (by first | with_reducible assumption | with_reducible rfl | omega | assumption | rfl) (by first | with_reducible assumption | with_reducible rfl | omega | assumption | rfl) (by with_reducible assumption) (by first | exact CD_0 (Int.le_refl 0) | (rw [show v32.toInt = x1.toInt + 1 from by omega]; assumption)) (by first | with_reducible assumption | with_reducible rfl | omega | assumption | rfl) (by first | with_reducible assumption | with_reducible rfl | omega | assumption | rfl) (by first | with_reducible assumption | with_reducible rfl | omega | assumption | rfl) (by first | with_reducible assumption | with_reducible rfl | omega | assumption | rfl) (by first | with_reducible assumption | with_reducible rfl | omega | assumption | rfl) H (by omega)
noncomputable def LB_X12_undo_68 (rec : Nat → Int32 → Sg → Int32 × Sg) (x1 : Int32) (σ : Sg) : Int32 × Sg := (if (6 : Int32) ≤ x1 then rec 1 (0 : Int32) σ else fl (si σ 103 x1.toNatClampNeg (gi σ 156 x1.toNatClampNeg)) (fun σ4 => fl (si σ4 104 x1.toNatClampNeg (gi σ4 157 x1.toNatClampNeg)) (fun σ7 => fl (si σ7 105 x1.toNatClampNeg (gi σ7 158 x1.toNatClampNeg)) (fun σ10 => fl (si σ10 106 x1.toNatClampNeg (gi σ10 159 x1.toNatClampNeg)) (fun σ13 => fl (si σ13 107 x1.toNatClampNeg (gi σ13 160 x1.toNatClampNeg)) (fun σ16 => fl (si σ16 108 x1.toNatClampNeg (gi σ16 161 x1.toNatClampNeg)) (fun σ19 => fl (si σ19 110 x1.toNatClampNeg (gi σ19 162 x1.toNatClampNeg)) (fun σ22 => fl (si σ22 142 x1.toNatClampNeg (gi σ22 164 x1.toNatClampNeg)) (fun σ25 => fl (si σ25 143 x1.toNatClampNeg (gi σ25 165 x1.toNatClampNeg)) (fun σ28 => fl (si σ28 144 x1.toNatClampNeg (gi σ28 166 x1.toNatClampNeg)) (fun σ31 => fl (x1 + 1) (fun v32 => rec 0 v32 σ31))))))))))))
noncomputable def LB_X12_undo_202 (rec : Nat → Int32 → Sg → Int32 × Sg) (x1 : Int32) (σ : Sg) : Int32 × Sg := (if (24 : Int32) ≤ x1 then rec 2 (0 : Int32) σ else fl (si σ 109 x1.toNatClampNeg (gi σ 163 x1.toNatClampNeg)) (fun σ4 => fl (x1 + 1) (fun v5 => rec 1 v5 σ4)))
noncomputable def LB_X12_undo_228 (rec : Nat → Int32 → Sg → Int32 × Sg) (x1 : Int32) (σ : Sg) : Int32 × Sg := (if (10 : Int32) ≤ x1 then rec 3 (0 : Int32) σ else fl (si σ 147 x1.toNatClampNeg (gi σ 167 x1.toNatClampNeg)) (fun σ4 => fl (x1 + 1) (fun v5 => rec 2 v5 σ4)))
noncomputable def LB_X12_undo_254 (rec : Nat → Int32 → Sg → Int32 × Sg) (x1 : Int32) (σ : Sg) : Int32 × Sg := (if (8 : Int32) ≤ x1 then (gi σ 74 0, σ) else fl (si σ 148 x1.toNatClampNeg (gi σ 168 x1.toNatClampNeg)) (fun σ4 => fl (x1 + 1) (fun v5 => rec 3 v5 σ4)))
noncomputable def LF_X12_undo : Nat → Nat → Int32 → Sg → Int32 × Sg
  | 0, _, _, σ => (0, σ)
  | n + 1, 0, x1, σ => LB_X12_undo_68 (LF_X12_undo n) x1 σ
  | n + 1, 1, x1, σ => LB_X12_undo_202 (LF_X12_undo n) x1 σ
  | n + 1, 2, x1, σ => LB_X12_undo_228 (LF_X12_undo n) x1 σ
  | n + 1, 3, x1, σ => LB_X12_undo_254 (LF_X12_undo n) x1 σ
  | _ + 1, _ + 4, _, σ => (0, σ)
noncomputable def F_X12_undo (σ : Sg) : Int32 × Sg := (if (gi σ 74 49) = 0 then ((-3 : Int32), σ) else fl (si σ 74 12 (gi σ 74 50)) (fun σ2 => fl (si σ2 74 0 (gi σ2 74 51)) (fun σ3 => fl (si σ3 74 2 (gi σ3 74 51)) (fun σ4 => fl (si σ4 74 1 (gi σ4 74 52)) (fun σ5 => fl (si σ5 74 41 (gi σ5 74 53)) (fun σ6 => fl (si σ6 74 45 (gi σ6 74 54)) (fun σ7 => fl (si σ7 74 46 (gi σ7 74 55)) (fun σ8 => LF_X12_undo 900 0 (0 : Int32) σ8))))))))
set_option maxRecDepth 100000 in
set_option maxHeartbeats 4000000 in
theorem kF_X12_undo {l : Launch} {V : Vx} {σ0 : Sg} {Qk : Int32 → Sg → Prop} (m0 : MI σ0) (pre0 : PL σ0) (pre1 : PLI σ0) (pre2 : (gi σ0 74 1).toInt ≤ 9999) (pre3 : (gi σ0 74 52).toInt ≤ 9999) (pre4 : (gi σ0 74 12).toInt < (gi σ0 74 11).toInt) (pre5 : (gi σ0 74 50).toInt < (gi σ0 74 11).toInt) (h9ret : ∀ (r : Int32) (σ' : Sg), MI σ' → Fr [74, 103, 104, 105, 106, 107, 108, 109, 110, 142, 143, 144, 147, 148] [0, 1, 2, 12, 41, 45, 46] σ0 σ' → (PL σ') → ((gi σ' 74 1).toInt ≤ 9999) → ((gi σ' 74 12).toInt < (gi σ' 74 11).toInt) → (((gi σ0 74 49).toInt = 0 → r.toInt = -3 ∧ (gi σ' 74 0).toInt = (gi σ0 74 0).toInt ∧ (gi σ' 74 45).toInt = (gi σ0 74 45).toInt ∧ (gi σ' 74 46).toInt = (gi σ0 74 46).toInt ∧ (gi σ' 74 1).toInt = (gi σ0 74 1).toInt ∧ (gi σ' 74 41).toInt = (gi σ0 74 41).toInt) ∧ ((gi σ0 74 49).toInt ≠ 0 → r.toInt = (gi σ0 74 51).toInt ∧ (gi σ' 74 0).toInt = (gi σ0 74 51).toInt ∧ (gi σ' 74 45).toInt = (gi σ0 74 54).toInt ∧ (gi σ' 74 46).toInt = (gi σ0 74 55).toInt ∧ (gi σ' 74 1).toInt = (gi σ0 74 52).toInt ∧ (gi σ' 74 41).toInt = (gi σ0 74 53).toInt)) → (F_X12_undo σ0 = (r, σ')) → Qk r σ') : K_X12_undo l V σ0 Qk := by
  refine e_X12_undo (fun M hl hV hN C => ?_)
  subst hl
  subst hV
  obtain ⟨R9, H0⟩ : ∃ R9, F_X12_undo σ0 = R9 := ⟨_, rfl⟩
  have T : ∀ n : Nat, (∀ (x1 : Int32) (σ : Sg), MI σ → Fr [74, 103, 104, 105, 106, 107, 108, 109, 110, 142, 143, 144, 147, 148] [0, 1, 2, 12, 41, 45, 46] σ0 σ → (0 ≤ x1.toInt) → (x1.toInt ≤ 6) → ((gi σ 74 11).toInt = (gi σ0 74 11).toInt) → ((gi σ 74 0).toInt = (gi σ0 74 51).toInt) → ((gi σ 74 1).toInt = (gi σ0 74 52).toInt) → ((gi σ 74 12).toInt = (gi σ0 74 50).toInt) → (CD σ0 σ 162 162 6) → (CD σ0 σ 110 162 x1.toInt) → ((gi σ0 74 49).toInt ≠ 0) → ((gi σ 74 45).toInt = (gi σ0 74 54).toInt) → ((gi σ 74 46).toInt = (gi σ0 74 55).toInt) → ((gi σ 74 0).toInt = (gi σ0 74 51).toInt) → ((gi σ 74 1).toInt = (gi σ0 74 52).toInt) → ((gi σ 74 41).toInt = (gi σ0 74 53).toInt) → (LF_X12_undo n 0 x1 σ = R9) → (7 - x1.toInt).toNat + 300 < n → PS M 68 [(0, .ref 74), (1, .int x1)] [] σ (0, 0)) ∧ (∀ (x1 : Int32) (σ : Sg), MI σ → Fr [74, 103, 104, 105, 106, 107, 108, 109, 110, 142, 143, 144, 147, 148] [0, 1, 2, 12, 41, 45, 46] σ0 σ → (0 ≤ x1.toInt) → (x1.toInt ≤ 24) → ((gi σ 74 11).toInt = (gi σ0 74 11).toInt) → ((gi σ 74 0).toInt = (gi σ0 74 51).toInt) → ((gi σ 74 1).toInt = (gi σ0 74 52).toInt) → ((gi σ 74 12).toInt = (gi σ0 74 50).toInt) → (CD σ0 σ 110 162 6) → ((gi σ0 74 49).toInt ≠ 0) → ((gi σ 74 45).toInt = (gi σ0 74 54).toInt) → ((gi σ 74 46).toInt = (gi σ0 74 55).toInt) → ((gi σ 74 0).toInt = (gi σ0 74 51).toInt) → ((gi σ 74 1).toInt = (gi σ0 74 52).toInt) → ((gi σ 74 41).toInt = (gi σ0 74 53).toInt) → (LF_X12_undo n 1 x1 σ = R9) → (25 - x1.toInt).toNat + 200 < n → PS M 202 [(0, .ref 74), (1, .int x1)] [] σ (0, 0)) ∧ (∀ (x1 : Int32) (σ : Sg), MI σ → Fr [74, 103, 104, 105, 106, 107, 108, 109, 110, 142, 143, 144, 147, 148] [0, 1, 2, 12, 41, 45, 46] σ0 σ → (0 ≤ x1.toInt) → (x1.toInt ≤ 10) → ((gi σ 74 11).toInt = (gi σ0 74 11).toInt) → ((gi σ 74 0).toInt = (gi σ0 74 51).toInt) → ((gi σ 74 1).toInt = (gi σ0 74 52).toInt) → ((gi σ 74 12).toInt = (gi σ0 74 50).toInt) → (CD σ0 σ 110 162 6) → ((gi σ0 74 49).toInt ≠ 0) → ((gi σ 74 45).toInt = (gi σ0 74 54).toInt) → ((gi σ 74 46).toInt = (gi σ0 74 55).toInt) → ((gi σ 74 0).toInt = (gi σ0 74 51).toInt) → ((gi σ 74 1).toInt = (gi σ0 74 52).toInt) → ((gi σ 74 41).toInt = (gi σ0 74 53).toInt) → (LF_X12_undo n 2 x1 σ = R9) → (11 - x1.toInt).toNat + 100 < n → PS M 228 [(0, .ref 74), (1, .int x1)] [] σ (0, 0)) ∧ (∀ (x1 : Int32) (σ : Sg), MI σ → Fr [74, 103, 104, 105, 106, 107, 108, 109, 110, 142, 143, 144, 147, 148] [0, 1, 2, 12, 41, 45, 46] σ0 σ → (0 ≤ x1.toInt) → (x1.toInt ≤ 8) → ((gi σ 74 11).toInt = (gi σ0 74 11).toInt) → ((gi σ 74 0).toInt = (gi σ0 74 51).toInt) → ((gi σ 74 1).toInt = (gi σ0 74 52).toInt) → ((gi σ 74 12).toInt = (gi σ0 74 50).toInt) → (CD σ0 σ 110 162 6) → ((gi σ0 74 49).toInt ≠ 0) → ((gi σ 74 45).toInt = (gi σ0 74 54).toInt) → ((gi σ 74 46).toInt = (gi σ0 74 55).toInt) → ((gi σ 74 0).toInt = (gi σ0 74 51).toInt) → ((gi σ 74 1).toInt = (gi σ0 74 52).toInt) → ((gi σ 74 41).toInt = (gi σ0 74 53).toInt) → (LF_X12_undo n 3 x1 σ = R9) → (9 - x1.toInt).toNat < n → PS M 254 [(0, .ref 74), (1, .int x1)] [] σ (0, 0)) := by
    intro n
    induction n with
    | zero => exact ⟨fun _ _ _ _ _ _ _ _ _ _ _ _ _ _ _ _ _ _ _ h8 => absurd h8 (Nat.not_lt_zero _), fun _ _ _ _ _ _ _ _ _ _ _ _ _ _ _ _ _ _ h8 => absurd h8 (Nat.not_lt_zero _), fun _ _ _ _ _ _ _ _ _ _ _ _ _ _ _ _ _ _ h8 => absurd h8 (Nat.not_lt_zero _), fun _ _ _ _ _ _ _ _ _ _ _ _ _ _ _ _ _ _ h8 => absurd h8 (Nat.not_lt_zero _)⟩
    | succ n ih =>
      obtain ⟨ih68, ih202, ih228, ih254⟩ := ih
      refine ⟨?_, ?_, ?_, ?_⟩
      · intro x1 σ mσ fσ lx1 ux1 i0 i1 i2 i3 i4 i5 i6 i7 i8 i9 i10 i11 H hmu
        replace H : LB_X12_undo_68 (LF_X12_undo n) x1 σ = R9 := H
        unfold LB_X12_undo_68 at H
        refine s_X12_undo_68 C hN ?_
        refine ⟨?_, ?_⟩
        · intro q_1
          replace H := f_t q_1 H
          have b_2 : (6 : Int) ≤ x1.toInt := Int32.le_iff_toInt_le.mp q_1
          have z_3 : (0 : Int32).toInt = 0 := rfl
          exact ih202 (0 : Int32) σ mσ fσ (by omega) (by omega) (by first | with_reducible assumption | with_reducible rfl | omega | assumption | rfl) (by first | with_reducible assumption | with_reducible rfl | omega | assumption | rfl) (by first | with_reducible assumption | with_reducible rfl | omega | assumption | rfl) (by first | with_reducible assumption | with_reducible rfl | omega | assumption | rfl) (by first | assumption | exact CD_le (by with_reducible assumption) (by omega)) (by first | with_reducible assumption | with_reducible rfl | omega | assumption | rfl) (by first | with_reducible assumption | with_reducible rfl | omega | assumption | rfl) (by first | with_reducible assumption | with_reducible rfl | omega | assumption | rfl) (by first | with_reducible assumption | with_reducible rfl | omega | assumption | rfl) (by first | with_reducible assumption | with_reducible rfl | omega | assumption | rfl) (by first | with_reducible assumption | with_reducible rfl | omega | assumption | rfl) H (by omega)
        · intro q_1
          replace H := f_f q_1 H
          have b_4 : ¬ (6 : Int) ≤ x1.toInt := fun h9 => q_1 (Int32.le_iff_toInt_le.mpr h9)
          have hv_5 : vp_in x1 6 := vp_in_iff.mpr ⟨by omega, by omega⟩
          refine ⟨hv_5, ?_⟩
          refine ⟨hv_5, ?_⟩
          intro σ4 eσ4
          replace H := f_l eσ4 H
          have mσ4 : MI σ4 := by rw [eσ4]; exact MIs_au (a := 103) mσ rfl rfl
          have fσ4 : Fr [74, 103, 104, 105, 106, 107, 108, 109, 110, 142, 143, 144, 147, 148] [0, 1, 2, 12, 41, 45, 46] σ0 σ4 := by rw [eσ4]; exact Fr_si fσ (by decide +kernel) (fun h9 => absurd h9 (by decide +kernel))
          have k_6 : (gi σ4 74 0).toInt = (gi σ 74 0).toInt := gk_l eσ4 rfl
          have k_7 : (gi σ4 74 1).toInt = (gi σ 74 1).toInt := gk_l eσ4 rfl
          have k_8 : (gi σ4 74 11).toInt = (gi σ 74 11).toInt := gk_l eσ4 rfl
          have k_9 : (gi σ4 74 12).toInt = (gi σ 74 12).toInt := gk_l eσ4 rfl
          have k_10 : (gi σ4 74 41).toInt = (gi σ 74 41).toInt := gk_l eσ4 rfl
          have k_11 : (gi σ4 74 45).toInt = (gi σ 74 45).toInt := gk_l eσ4 rfl
          have k_12 : (gi σ4 74 46).toInt = (gi σ 74 46).toInt := gk_l eσ4 rfl
          have k_13 : (gi σ4 74 49).toInt = (gi σ 74 49).toInt := gk_l eσ4 rfl
          have k_14 : (gi σ4 74 50).toInt = (gi σ 74 50).toInt := gk_l eσ4 rfl
          have k_15 : (gi σ4 74 51).toInt = (gi σ 74 51).toInt := gk_l eσ4 rfl
          have k_16 : (gi σ4 74 52).toInt = (gi σ 74 52).toInt := gk_l eσ4 rfl
          have k_17 : (gi σ4 74 53).toInt = (gi σ 74 53).toInt := gk_l eσ4 rfl
          have k_18 : (gi σ4 74 54).toInt = (gi σ 74 54).toInt := gk_l eσ4 rfl
          have k_19 : (gi σ4 74 55).toInt = (gi σ 74 55).toInt := gk_l eσ4 rfl
          try have hC9 : CD σ0 σ4 162 162 (6) := by rw [eσ4]; exact CD_st (by with_reducible assumption) (by decide +kernel)
          try have hC9 : CD σ0 σ4 110 162 (6) := by rw [eσ4]; exact CD_st (by with_reducible assumption) (by decide +kernel)
          try have hC9 : CD σ0 σ4 110 162 (x1.toInt) := by rw [eσ4]; exact CD_st (by with_reducible assumption) (by decide +kernel)
          try have hD9 : CD σ0 σ4 110 162 (x1.toInt + 1) := by rw [eσ4]; first | exact CD_st (by with_reducible assumption) (by decide +kernel) | exact CD_step (c := 162) (by with_reducible assumption) (by with_reducible assumption) (by omega) (by omega)
          refine ⟨hv_5, ?_⟩
          refine ⟨hv_5, ?_⟩
          intro σ7 eσ7
          replace H := f_l eσ7 H
          have mσ7 : MI σ7 := by rw [eσ7]; exact MIs_au (a := 104) mσ4 rfl rfl
          have fσ7 : Fr [74, 103, 104, 105, 106, 107, 108, 109, 110, 142, 143, 144, 147, 148] [0, 1, 2, 12, 41, 45, 46] σ0 σ7 := by rw [eσ7]; exact Fr_si fσ4 (by decide +kernel) (fun h9 => absurd h9 (by decide +kernel))
          have k_20 : (gi σ7 74 0).toInt = (gi σ4 74 0).toInt := gk_l eσ7 rfl
          have k_21 : (gi σ7 74 1).toInt = (gi σ4 74 1).toInt := gk_l eσ7 rfl
          have k_22 : (gi σ7 74 11).toInt = (gi σ4 74 11).toInt := gk_l eσ7 rfl
          have k_23 : (gi σ7 74 12).toInt = (gi σ4 74 12).toInt := gk_l eσ7 rfl
          have k_24 : (gi σ7 74 41).toInt = (gi σ4 74 41).toInt := gk_l eσ7 rfl
          have k_25 : (gi σ7 74 45).toInt = (gi σ4 74 45).toInt := gk_l eσ7 rfl
          have k_26 : (gi σ7 74 46).toInt = (gi σ4 74 46).toInt := gk_l eσ7 rfl
          have k_27 : (gi σ7 74 49).toInt = (gi σ4 74 49).toInt := gk_l eσ7 rfl
          have k_28 : (gi σ7 74 50).toInt = (gi σ4 74 50).toInt := gk_l eσ7 rfl
          have k_29 : (gi σ7 74 51).toInt = (gi σ4 74 51).toInt := gk_l eσ7 rfl
          have k_30 : (gi σ7 74 52).toInt = (gi σ4 74 52).toInt := gk_l eσ7 rfl
          have k_31 : (gi σ7 74 53).toInt = (gi σ4 74 53).toInt := gk_l eσ7 rfl
          have k_32 : (gi σ7 74 54).toInt = (gi σ4 74 54).toInt := gk_l eσ7 rfl
          have k_33 : (gi σ7 74 55).toInt = (gi σ4 74 55).toInt := gk_l eσ7 rfl
          try have hC9 : CD σ0 σ7 162 162 (6) := by rw [eσ7]; exact CD_st (by with_reducible assumption) (by decide +kernel)
          try have hC9 : CD σ0 σ7 110 162 (6) := by rw [eσ7]; exact CD_st (by with_reducible assumption) (by decide +kernel)
          try have hC9 : CD σ0 σ7 110 162 (x1.toInt) := by rw [eσ7]; exact CD_st (by with_reducible assumption) (by decide +kernel)
          try have hD9 : CD σ0 σ7 110 162 (x1.toInt + 1) := by rw [eσ7]; first | exact CD_st (by with_reducible assumption) (by decide +kernel) | exact CD_step (c := 162) (by with_reducible assumption) (by with_reducible assumption) (by omega) (by omega)
          refine ⟨hv_5, ?_⟩
          refine ⟨hv_5, ?_⟩
          intro σ10 eσ10
          replace H := f_l eσ10 H
          have t_34 := MI_a158 mσ7 hv_5
          have mσ10 : MI σ10 := by rw [eσ10]; exact MIs_a105 mσ7 (by omega) (by omega)
          have fσ10 : Fr [74, 103, 104, 105, 106, 107, 108, 109, 110, 142, 143, 144, 147, 148] [0, 1, 2, 12, 41, 45, 46] σ0 σ10 := by rw [eσ10]; exact Fr_si fσ7 (by decide +kernel) (fun h9 => absurd h9 (by decide +kernel))
          have k_35 : (gi σ10 74 0).toInt = (gi σ7 74 0).toInt := gk_l eσ10 rfl
          have k_36 : (gi σ10 74 1).toInt = (gi σ7 74 1).toInt := gk_l eσ10 rfl
          have k_37 : (gi σ10 74 11).toInt = (gi σ7 74 11).toInt := gk_l eσ10 rfl
          have k_38 : (gi σ10 74 12).toInt = (gi σ7 74 12).toInt := gk_l eσ10 rfl
          have k_39 : (gi σ10 74 41).toInt = (gi σ7 74 41).toInt := gk_l eσ10 rfl
          have k_40 : (gi σ10 74 45).toInt = (gi σ7 74 45).toInt := gk_l eσ10 rfl
          have k_41 : (gi σ10 74 46).toInt = (gi σ7 74 46).toInt := gk_l eσ10 rfl
          have k_42 : (gi σ10 74 49).toInt = (gi σ7 74 49).toInt := gk_l eσ10 rfl
          have k_43 : (gi σ10 74 50).toInt = (gi σ7 74 50).toInt := gk_l eσ10 rfl
          have k_44 : (gi σ10 74 51).toInt = (gi σ7 74 51).toInt := gk_l eσ10 rfl
          have k_45 : (gi σ10 74 52).toInt = (gi σ7 74 52).toInt := gk_l eσ10 rfl
          have k_46 : (gi σ10 74 53).toInt = (gi σ7 74 53).toInt := gk_l eσ10 rfl
          have k_47 : (gi σ10 74 54).toInt = (gi σ7 74 54).toInt := gk_l eσ10 rfl
          have k_48 : (gi σ10 74 55).toInt = (gi σ7 74 55).toInt := gk_l eσ10 rfl
          try have hC9 : CD σ0 σ10 162 162 (6) := by rw [eσ10]; exact CD_st (by with_reducible assumption) (by decide +kernel)
          try have hC9 : CD σ0 σ10 110 162 (6) := by rw [eσ10]; exact CD_st (by with_reducible assumption) (by decide +kernel)
          try have hC9 : CD σ0 σ10 110 162 (x1.toInt) := by rw [eσ10]; exact CD_st (by with_reducible assumption) (by decide +kernel)
          try have hD9 : CD σ0 σ10 110 162 (x1.toInt + 1) := by rw [eσ10]; first | exact CD_st (by with_reducible assumption) (by decide +kernel) | exact CD_step (c := 162) (by with_reducible assumption) (by with_reducible assumption) (by omega) (by omega)
          refine ⟨hv_5, ?_⟩
          refine ⟨hv_5, ?_⟩
          intro σ13 eσ13
          replace H := f_l eσ13 H
          have mσ13 : MI σ13 := by rw [eσ13]; exact MIs_au (a := 106) mσ10 rfl rfl
          have fσ13 : Fr [74, 103, 104, 105, 106, 107, 108, 109, 110, 142, 143, 144, 147, 148] [0, 1, 2, 12, 41, 45, 46] σ0 σ13 := by rw [eσ13]; exact Fr_si fσ10 (by decide +kernel) (fun h9 => absurd h9 (by decide +kernel))
          have k_49 : (gi σ13 74 0).toInt = (gi σ10 74 0).toInt := gk_l eσ13 rfl
          have k_50 : (gi σ13 74 1).toInt = (gi σ10 74 1).toInt := gk_l eσ13 rfl
          have k_51 : (gi σ13 74 11).toInt = (gi σ10 74 11).toInt := gk_l eσ13 rfl
          have k_52 : (gi σ13 74 12).toInt = (gi σ10 74 12).toInt := gk_l eσ13 rfl
          have k_53 : (gi σ13 74 41).toInt = (gi σ10 74 41).toInt := gk_l eσ13 rfl
          have k_54 : (gi σ13 74 45).toInt = (gi σ10 74 45).toInt := gk_l eσ13 rfl
          have k_55 : (gi σ13 74 46).toInt = (gi σ10 74 46).toInt := gk_l eσ13 rfl
          have k_56 : (gi σ13 74 49).toInt = (gi σ10 74 49).toInt := gk_l eσ13 rfl
          have k_57 : (gi σ13 74 50).toInt = (gi σ10 74 50).toInt := gk_l eσ13 rfl
          have k_58 : (gi σ13 74 51).toInt = (gi σ10 74 51).toInt := gk_l eσ13 rfl
          have k_59 : (gi σ13 74 52).toInt = (gi σ10 74 52).toInt := gk_l eσ13 rfl
          have k_60 : (gi σ13 74 53).toInt = (gi σ10 74 53).toInt := gk_l eσ13 rfl
          have k_61 : (gi σ13 74 54).toInt = (gi σ10 74 54).toInt := gk_l eσ13 rfl
          have k_62 : (gi σ13 74 55).toInt = (gi σ10 74 55).toInt := gk_l eσ13 rfl
          try have hC9 : CD σ0 σ13 162 162 (6) := by rw [eσ13]; exact CD_st (by with_reducible assumption) (by decide +kernel)
          try have hC9 : CD σ0 σ13 110 162 (6) := by rw [eσ13]; exact CD_st (by with_reducible assumption) (by decide +kernel)
          try have hC9 : CD σ0 σ13 110 162 (x1.toInt) := by rw [eσ13]; exact CD_st (by with_reducible assumption) (by decide +kernel)
          try have hD9 : CD σ0 σ13 110 162 (x1.toInt + 1) := by rw [eσ13]; first | exact CD_st (by with_reducible assumption) (by decide +kernel) | exact CD_step (c := 162) (by with_reducible assumption) (by with_reducible assumption) (by omega) (by omega)
          refine ⟨hv_5, ?_⟩
          refine ⟨hv_5, ?_⟩
          intro σ16 eσ16
          replace H := f_l eσ16 H
          have mσ16 : MI σ16 := by rw [eσ16]; exact MIs_au (a := 107) mσ13 rfl rfl
          have fσ16 : Fr [74, 103, 104, 105, 106, 107, 108, 109, 110, 142, 143, 144, 147, 148] [0, 1, 2, 12, 41, 45, 46] σ0 σ16 := by rw [eσ16]; exact Fr_si fσ13 (by decide +kernel) (fun h9 => absurd h9 (by decide +kernel))
          have k_63 : (gi σ16 74 0).toInt = (gi σ13 74 0).toInt := gk_l eσ16 rfl
          have k_64 : (gi σ16 74 1).toInt = (gi σ13 74 1).toInt := gk_l eσ16 rfl
          have k_65 : (gi σ16 74 11).toInt = (gi σ13 74 11).toInt := gk_l eσ16 rfl
          have k_66 : (gi σ16 74 12).toInt = (gi σ13 74 12).toInt := gk_l eσ16 rfl
          have k_67 : (gi σ16 74 41).toInt = (gi σ13 74 41).toInt := gk_l eσ16 rfl
          have k_68 : (gi σ16 74 45).toInt = (gi σ13 74 45).toInt := gk_l eσ16 rfl
          have k_69 : (gi σ16 74 46).toInt = (gi σ13 74 46).toInt := gk_l eσ16 rfl
          have k_70 : (gi σ16 74 49).toInt = (gi σ13 74 49).toInt := gk_l eσ16 rfl
          have k_71 : (gi σ16 74 50).toInt = (gi σ13 74 50).toInt := gk_l eσ16 rfl
          have k_72 : (gi σ16 74 51).toInt = (gi σ13 74 51).toInt := gk_l eσ16 rfl
          have k_73 : (gi σ16 74 52).toInt = (gi σ13 74 52).toInt := gk_l eσ16 rfl
          have k_74 : (gi σ16 74 53).toInt = (gi σ13 74 53).toInt := gk_l eσ16 rfl
          have k_75 : (gi σ16 74 54).toInt = (gi σ13 74 54).toInt := gk_l eσ16 rfl
          have k_76 : (gi σ16 74 55).toInt = (gi σ13 74 55).toInt := gk_l eσ16 rfl
          try have hC9 : CD σ0 σ16 162 162 (6) := by rw [eσ16]; exact CD_st (by with_reducible assumption) (by decide +kernel)
          try have hC9 : CD σ0 σ16 110 162 (6) := by rw [eσ16]; exact CD_st (by with_reducible assumption) (by decide +kernel)
          try have hC9 : CD σ0 σ16 110 162 (x1.toInt) := by rw [eσ16]; exact CD_st (by with_reducible assumption) (by decide +kernel)
          try have hD9 : CD σ0 σ16 110 162 (x1.toInt + 1) := by rw [eσ16]; first | exact CD_st (by with_reducible assumption) (by decide +kernel) | exact CD_step (c := 162) (by with_reducible assumption) (by with_reducible assumption) (by omega) (by omega)
          refine ⟨hv_5, ?_⟩
          refine ⟨hv_5, ?_⟩
          intro σ19 eσ19
          replace H := f_l eσ19 H
          have mσ19 : MI σ19 := by rw [eσ19]; exact MIs_au (a := 108) mσ16 rfl rfl
          have fσ19 : Fr [74, 103, 104, 105, 106, 107, 108, 109, 110, 142, 143, 144, 147, 148] [0, 1, 2, 12, 41, 45, 46] σ0 σ19 := by rw [eσ19]; exact Fr_si fσ16 (by decide +kernel) (fun h9 => absurd h9 (by decide +kernel))
          have k_77 : (gi σ19 74 0).toInt = (gi σ16 74 0).toInt := gk_l eσ19 rfl
          have k_78 : (gi σ19 74 1).toInt = (gi σ16 74 1).toInt := gk_l eσ19 rfl
          have k_79 : (gi σ19 74 11).toInt = (gi σ16 74 11).toInt := gk_l eσ19 rfl
          have k_80 : (gi σ19 74 12).toInt = (gi σ16 74 12).toInt := gk_l eσ19 rfl
          have k_81 : (gi σ19 74 41).toInt = (gi σ16 74 41).toInt := gk_l eσ19 rfl
          have k_82 : (gi σ19 74 45).toInt = (gi σ16 74 45).toInt := gk_l eσ19 rfl
          have k_83 : (gi σ19 74 46).toInt = (gi σ16 74 46).toInt := gk_l eσ19 rfl
          have k_84 : (gi σ19 74 49).toInt = (gi σ16 74 49).toInt := gk_l eσ19 rfl
          have k_85 : (gi σ19 74 50).toInt = (gi σ16 74 50).toInt := gk_l eσ19 rfl
          have k_86 : (gi σ19 74 51).toInt = (gi σ16 74 51).toInt := gk_l eσ19 rfl
          have k_87 : (gi σ19 74 52).toInt = (gi σ16 74 52).toInt := gk_l eσ19 rfl
          have k_88 : (gi σ19 74 53).toInt = (gi σ16 74 53).toInt := gk_l eσ19 rfl
          have k_89 : (gi σ19 74 54).toInt = (gi σ16 74 54).toInt := gk_l eσ19 rfl
          have k_90 : (gi σ19 74 55).toInt = (gi σ16 74 55).toInt := gk_l eσ19 rfl
          try have hC9 : CD σ0 σ19 162 162 (6) := by rw [eσ19]; exact CD_st (by with_reducible assumption) (by decide +kernel)
          try have hC9 : CD σ0 σ19 110 162 (6) := by rw [eσ19]; exact CD_st (by with_reducible assumption) (by decide +kernel)
          try have hC9 : CD σ0 σ19 110 162 (x1.toInt) := by rw [eσ19]; exact CD_st (by with_reducible assumption) (by decide +kernel)
          try have hD9 : CD σ0 σ19 110 162 (x1.toInt + 1) := by rw [eσ19]; first | exact CD_st (by with_reducible assumption) (by decide +kernel) | exact CD_step (c := 162) (by with_reducible assumption) (by with_reducible assumption) (by omega) (by omega)
          refine ⟨hv_5, ?_⟩
          refine ⟨hv_5, ?_⟩
          intro σ22 eσ22
          replace H := f_l eσ22 H
          have t_91 := MI_a162 mσ19 hv_5
          have mσ22 : MI σ22 := by rw [eσ22]; exact MIs_a110 mσ19 (by omega) (by omega)
          have fσ22 : Fr [74, 103, 104, 105, 106, 107, 108, 109, 110, 142, 143, 144, 147, 148] [0, 1, 2, 12, 41, 45, 46] σ0 σ22 := by rw [eσ22]; exact Fr_si fσ19 (by decide +kernel) (fun h9 => absurd h9 (by decide +kernel))
          have k_92 : (gi σ22 74 0).toInt = (gi σ19 74 0).toInt := gk_l eσ22 rfl
          have k_93 : (gi σ22 74 1).toInt = (gi σ19 74 1).toInt := gk_l eσ22 rfl
          have k_94 : (gi σ22 74 11).toInt = (gi σ19 74 11).toInt := gk_l eσ22 rfl
          have k_95 : (gi σ22 74 12).toInt = (gi σ19 74 12).toInt := gk_l eσ22 rfl
          have k_96 : (gi σ22 74 41).toInt = (gi σ19 74 41).toInt := gk_l eσ22 rfl
          have k_97 : (gi σ22 74 45).toInt = (gi σ19 74 45).toInt := gk_l eσ22 rfl
          have k_98 : (gi σ22 74 46).toInt = (gi σ19 74 46).toInt := gk_l eσ22 rfl
          have k_99 : (gi σ22 74 49).toInt = (gi σ19 74 49).toInt := gk_l eσ22 rfl
          have k_100 : (gi σ22 74 50).toInt = (gi σ19 74 50).toInt := gk_l eσ22 rfl
          have k_101 : (gi σ22 74 51).toInt = (gi σ19 74 51).toInt := gk_l eσ22 rfl
          have k_102 : (gi σ22 74 52).toInt = (gi σ19 74 52).toInt := gk_l eσ22 rfl
          have k_103 : (gi σ22 74 53).toInt = (gi σ19 74 53).toInt := gk_l eσ22 rfl
          have k_104 : (gi σ22 74 54).toInt = (gi σ19 74 54).toInt := gk_l eσ22 rfl
          have k_105 : (gi σ22 74 55).toInt = (gi σ19 74 55).toInt := gk_l eσ22 rfl
          try have hC9 : CD σ0 σ22 162 162 (6) := by rw [eσ22]; exact CD_st (by with_reducible assumption) (by decide +kernel)
          try have hC9 : CD σ0 σ22 110 162 (6) := by rw [eσ22]; exact CD_st (by with_reducible assumption) (by decide +kernel)
          try have hC9 : CD σ0 σ22 110 162 (x1.toInt) := by rw [eσ22]; exact CD_st (by with_reducible assumption) (by decide +kernel)
          try have hD9 : CD σ0 σ22 110 162 (x1.toInt + 1) := by rw [eσ22]; first | exact CD_st (by with_reducible assumption) (by decide +kernel) | exact CD_step (c := 162) (by with_reducible assumption) (by with_reducible assumption) (by omega) (by omega)
          refine ⟨hv_5, ?_⟩
          refine ⟨hv_5, ?_⟩
          intro σ25 eσ25
          replace H := f_l eσ25 H
          have t_106 := MI_a164 mσ22 hv_5
          have mσ25 : MI σ25 := by rw [eσ25]; exact MIs_a142 mσ22 (by omega) (by omega)
          have fσ25 : Fr [74, 103, 104, 105, 106, 107, 108, 109, 110, 142, 143, 144, 147, 148] [0, 1, 2, 12, 41, 45, 46] σ0 σ25 := by rw [eσ25]; exact Fr_si fσ22 (by decide +kernel) (fun h9 => absurd h9 (by decide +kernel))
          have k_107 : (gi σ25 74 0).toInt = (gi σ22 74 0).toInt := gk_l eσ25 rfl
          have k_108 : (gi σ25 74 1).toInt = (gi σ22 74 1).toInt := gk_l eσ25 rfl
          have k_109 : (gi σ25 74 11).toInt = (gi σ22 74 11).toInt := gk_l eσ25 rfl
          have k_110 : (gi σ25 74 12).toInt = (gi σ22 74 12).toInt := gk_l eσ25 rfl
          have k_111 : (gi σ25 74 41).toInt = (gi σ22 74 41).toInt := gk_l eσ25 rfl
          have k_112 : (gi σ25 74 45).toInt = (gi σ22 74 45).toInt := gk_l eσ25 rfl
          have k_113 : (gi σ25 74 46).toInt = (gi σ22 74 46).toInt := gk_l eσ25 rfl
          have k_114 : (gi σ25 74 49).toInt = (gi σ22 74 49).toInt := gk_l eσ25 rfl
          have k_115 : (gi σ25 74 50).toInt = (gi σ22 74 50).toInt := gk_l eσ25 rfl
          have k_116 : (gi σ25 74 51).toInt = (gi σ22 74 51).toInt := gk_l eσ25 rfl
          have k_117 : (gi σ25 74 52).toInt = (gi σ22 74 52).toInt := gk_l eσ25 rfl
          have k_118 : (gi σ25 74 53).toInt = (gi σ22 74 53).toInt := gk_l eσ25 rfl
          have k_119 : (gi σ25 74 54).toInt = (gi σ22 74 54).toInt := gk_l eσ25 rfl
          have k_120 : (gi σ25 74 55).toInt = (gi σ22 74 55).toInt := gk_l eσ25 rfl
          try have hC9 : CD σ0 σ25 162 162 (6) := by rw [eσ25]; exact CD_st (by with_reducible assumption) (by decide +kernel)
          try have hC9 : CD σ0 σ25 110 162 (6) := by rw [eσ25]; exact CD_st (by with_reducible assumption) (by decide +kernel)
          try have hC9 : CD σ0 σ25 110 162 (x1.toInt) := by rw [eσ25]; exact CD_st (by with_reducible assumption) (by decide +kernel)
          try have hD9 : CD σ0 σ25 110 162 (x1.toInt + 1) := by rw [eσ25]; first | exact CD_st (by with_reducible assumption) (by decide +kernel) | exact CD_step (c := 162) (by with_reducible assumption) (by with_reducible assumption) (by omega) (by omega)
          refine ⟨hv_5, ?_⟩
          refine ⟨hv_5, ?_⟩
          intro σ28 eσ28
          replace H := f_l eσ28 H
          have t_121 := MI_a165 mσ25 hv_5
          have mσ28 : MI σ28 := by rw [eσ28]; exact MIs_a143 mσ25 (by omega) (by omega)
          have fσ28 : Fr [74, 103, 104, 105, 106, 107, 108, 109, 110, 142, 143, 144, 147, 148] [0, 1, 2, 12, 41, 45, 46] σ0 σ28 := by rw [eσ28]; exact Fr_si fσ25 (by decide +kernel) (fun h9 => absurd h9 (by decide +kernel))
          have k_122 : (gi σ28 74 0).toInt = (gi σ25 74 0).toInt := gk_l eσ28 rfl
          have k_123 : (gi σ28 74 1).toInt = (gi σ25 74 1).toInt := gk_l eσ28 rfl
          have k_124 : (gi σ28 74 11).toInt = (gi σ25 74 11).toInt := gk_l eσ28 rfl
          have k_125 : (gi σ28 74 12).toInt = (gi σ25 74 12).toInt := gk_l eσ28 rfl
          have k_126 : (gi σ28 74 41).toInt = (gi σ25 74 41).toInt := gk_l eσ28 rfl
          have k_127 : (gi σ28 74 45).toInt = (gi σ25 74 45).toInt := gk_l eσ28 rfl
          have k_128 : (gi σ28 74 46).toInt = (gi σ25 74 46).toInt := gk_l eσ28 rfl
          have k_129 : (gi σ28 74 49).toInt = (gi σ25 74 49).toInt := gk_l eσ28 rfl
          have k_130 : (gi σ28 74 50).toInt = (gi σ25 74 50).toInt := gk_l eσ28 rfl
          have k_131 : (gi σ28 74 51).toInt = (gi σ25 74 51).toInt := gk_l eσ28 rfl
          have k_132 : (gi σ28 74 52).toInt = (gi σ25 74 52).toInt := gk_l eσ28 rfl
          have k_133 : (gi σ28 74 53).toInt = (gi σ25 74 53).toInt := gk_l eσ28 rfl
          have k_134 : (gi σ28 74 54).toInt = (gi σ25 74 54).toInt := gk_l eσ28 rfl
          have k_135 : (gi σ28 74 55).toInt = (gi σ25 74 55).toInt := gk_l eσ28 rfl
          try have hC9 : CD σ0 σ28 162 162 (6) := by rw [eσ28]; exact CD_st (by with_reducible assumption) (by decide +kernel)
          try have hC9 : CD σ0 σ28 110 162 (6) := by rw [eσ28]; exact CD_st (by with_reducible assumption) (by decide +kernel)
          try have hC9 : CD σ0 σ28 110 162 (x1.toInt) := by rw [eσ28]; exact CD_st (by with_reducible assumption) (by decide +kernel)
          try have hD9 : CD σ0 σ28 110 162 (x1.toInt + 1) := by rw [eσ28]; first | exact CD_st (by with_reducible assumption) (by decide +kernel) | exact CD_step (c := 162) (by with_reducible assumption) (by with_reducible assumption) (by omega) (by omega)
          refine ⟨hv_5, ?_⟩
          refine ⟨hv_5, ?_⟩
          intro σ31 eσ31
          replace H := f_l eσ31 H
          have mσ31 : MI σ31 := by rw [eσ31]; exact MIs_au (a := 144) mσ28 rfl rfl
          have fσ31 : Fr [74, 103, 104, 105, 106, 107, 108, 109, 110, 142, 143, 144, 147, 148] [0, 1, 2, 12, 41, 45, 46] σ0 σ31 := by rw [eσ31]; exact Fr_si fσ28 (by decide +kernel) (fun h9 => absurd h9 (by decide +kernel))
          have k_136 : (gi σ31 74 0).toInt = (gi σ28 74 0).toInt := gk_l eσ31 rfl
          have k_137 : (gi σ31 74 1).toInt = (gi σ28 74 1).toInt := gk_l eσ31 rfl
          have k_138 : (gi σ31 74 11).toInt = (gi σ28 74 11).toInt := gk_l eσ31 rfl
          have k_139 : (gi σ31 74 12).toInt = (gi σ28 74 12).toInt := gk_l eσ31 rfl
          have k_140 : (gi σ31 74 41).toInt = (gi σ28 74 41).toInt := gk_l eσ31 rfl
          have k_141 : (gi σ31 74 45).toInt = (gi σ28 74 45).toInt := gk_l eσ31 rfl
          have k_142 : (gi σ31 74 46).toInt = (gi σ28 74 46).toInt := gk_l eσ31 rfl
          have k_143 : (gi σ31 74 49).toInt = (gi σ28 74 49).toInt := gk_l eσ31 rfl
          have k_144 : (gi σ31 74 50).toInt = (gi σ28 74 50).toInt := gk_l eσ31 rfl
          have k_145 : (gi σ31 74 51).toInt = (gi σ28 74 51).toInt := gk_l eσ31 rfl
          have k_146 : (gi σ31 74 52).toInt = (gi σ28 74 52).toInt := gk_l eσ31 rfl
          have k_147 : (gi σ31 74 53).toInt = (gi σ28 74 53).toInt := gk_l eσ31 rfl
          have k_148 : (gi σ31 74 54).toInt = (gi σ28 74 54).toInt := gk_l eσ31 rfl
          have k_149 : (gi σ31 74 55).toInt = (gi σ28 74 55).toInt := gk_l eσ31 rfl
          try have hC9 : CD σ0 σ31 162 162 (6) := by rw [eσ31]; exact CD_st (by with_reducible assumption) (by decide +kernel)
          try have hC9 : CD σ0 σ31 110 162 (6) := by rw [eσ31]; exact CD_st (by with_reducible assumption) (by decide +kernel)
          try have hC9 : CD σ0 σ31 110 162 (x1.toInt) := by rw [eσ31]; exact CD_st (by with_reducible assumption) (by decide +kernel)
          try have hD9 : CD σ0 σ31 110 162 (x1.toInt + 1) := by rw [eσ31]; first | exact CD_st (by with_reducible assumption) (by decide +kernel) | exact CD_step (c := 162) (by with_reducible assumption) (by with_reducible assumption) (by omega) (by omega)
          intro v32 ev32
          replace H := f_l ev32 H
          have t_150 : (x1 + (1 : Int32)).toInt = x1.toInt + 1 := i_add (x := x1) (y := (1 : Int32)) (by show (_ : Int) ≤ x1.toInt + 1; omega) (by show x1.toInt + 1 ≤ (_ : Int); omega)
          have t_151 : v32.toInt = (x1 + (1 : Int32)).toInt := congrArg Int32.toInt ev32
          exact ih68 v32 σ31 mσ31 fσ31 (by omega) (by omega) (by first | with_reducible assumption | with_reducible rfl | omega | assumption | rfl) (by first | with_reducible assumption | with_reducible rfl | omega | assumption | rfl) (by first | with_reducible assumption | with_reducible rfl | omega | assumption | rfl) (by first | with_reducible assumption | with_reducible rfl | omega | assumption | rfl) (by with_reducible assumption) (by first | exact CD_0 (Int.le_refl 0) | (rw [show v32.toInt = x1.toInt + 1 from by omega]; assumption)) (by first | with_reducible assumption | with_reducible rfl | omega | assumption | rfl) (by first | with_reducible assumption | with_reducible rfl | omega | assumption | rfl) (by first | with_reducible assumption | with_reducible rfl | omega | assumption | rfl) (by first | with_reducible assumption | with_reducible rfl | omega | assumption | rfl) (by first | with_reducible assumption | with_reducible rfl | omega | assumption | rfl) (by first | with_reducible assumption | with_reducible rfl | omega | assumption | rfl) H (by omega)
      · intro x1 σ mσ fσ lx1 ux1 i0 i1 i2 i3 i4 i5 i6 i7 i8 i9 i10 H hmu
        replace H : LB_X12_undo_202 (LF_X12_undo n) x1 σ = R9 := H
        unfold LB_X12_undo_202 at H
        refine s_X12_undo_202 C hN ?_
        refine ⟨?_, ?_⟩
        · intro q_152
          replace H := f_t q_152 H
          have b_153 : (24 : Int) ≤ x1.toInt := Int32.le_iff_toInt_le.mp q_152
          have z_154 : (0 : Int32).toInt = 0 := rfl
          exact ih228 (0 : Int32) σ mσ fσ (by omega) (by omega) (by first | with_reducible assumption | with_reducible rfl | omega | assumption | rfl) (by first | with_reducible assumption | with_reducible rfl | omega | assumption | rfl) (by first | with_reducible assumption | with_reducible rfl | omega | assumption | rfl) (by first | with_reducible assumption | with_reducible rfl | omega | assumption | rfl) (by first | assumption | exact CD_le (by with_reducible assumption) (by omega)) (by first | with_reducible assumption | with_reducible rfl | omega | assumption | rfl) (by first | with_reducible assumption | with_reducible rfl | omega | assumption | rfl) (by first | with_reducible assumption | with_reducible rfl | omega | assumption | rfl) (by first | with_reducible assumption | with_reducible rfl | omega | assumption | rfl) (by first | with_reducible assumption | with_reducible rfl | omega | assumption | rfl) (by first | with_reducible assumption | with_reducible rfl | omega | assumption | rfl) H (by omega)
        · intro q_152
          replace H := f_f q_152 H
          have b_155 : ¬ (24 : Int) ≤ x1.toInt := fun h9 => q_152 (Int32.le_iff_toInt_le.mpr h9)
          have hv_156 : vp_in x1 24 := vp_in_iff.mpr ⟨by omega, by omega⟩
          refine ⟨hv_156, ?_⟩
          refine ⟨hv_156, ?_⟩
          intro σ4 eσ4
          replace H := f_l eσ4 H
          have mσ4 : MI σ4 := by rw [eσ4]; exact MIs_au (a := 109) mσ rfl rfl
          have fσ4 : Fr [74, 103, 104, 105, 106, 107, 108, 109, 110, 142, 143, 144, 147, 148] [0, 1, 2, 12, 41, 45, 46] σ0 σ4 := by rw [eσ4]; exact Fr_si fσ (by decide +kernel) (fun h9 => absurd h9 (by decide +kernel))
          have k_157 : (gi σ4 74 0).toInt = (gi σ 74 0).toInt := gk_l eσ4 rfl
          have k_158 : (gi σ4 74 1).toInt = (gi σ 74 1).toInt := gk_l eσ4 rfl
          have k_159 : (gi σ4 74 11).toInt = (gi σ 74 11).toInt := gk_l eσ4 rfl
          have k_160 : (gi σ4 74 12).toInt = (gi σ 74 12).toInt := gk_l eσ4 rfl
          have k_161 : (gi σ4 74 41).toInt = (gi σ 74 41).toInt := gk_l eσ4 rfl
          have k_162 : (gi σ4 74 45).toInt = (gi σ 74 45).toInt := gk_l eσ4 rfl
          have k_163 : (gi σ4 74 46).toInt = (gi σ 74 46).toInt := gk_l eσ4 rfl
          have k_164 : (gi σ4 74 49).toInt = (gi σ 74 49).toInt := gk_l eσ4 rfl
          have k_165 : (gi σ4 74 50).toInt = (gi σ 74 50).toInt := gk_l eσ4 rfl
          have k_166 : (gi σ4 74 51).toInt = (gi σ 74 51).toInt := gk_l eσ4 rfl
          have k_167 : (gi σ4 74 52).toInt = (gi σ 74 52).toInt := gk_l eσ4 rfl
          have k_168 : (gi σ4 74 53).toInt = (gi σ 74 53).toInt := gk_l eσ4 rfl
          have k_169 : (gi σ4 74 54).toInt = (gi σ 74 54).toInt := gk_l eσ4 rfl
          have k_170 : (gi σ4 74 55).toInt = (gi σ 74 55).toInt := gk_l eσ4 rfl
          try have hC9 : CD σ0 σ4 162 162 (6) := by rw [eσ4]; exact CD_st (by with_reducible assumption) (by decide +kernel)
          try have hC9 : CD σ0 σ4 110 162 (6) := by rw [eσ4]; exact CD_st (by with_reducible assumption) (by decide +kernel)
          try have hC9 : CD σ0 σ4 110 162 (x1.toInt) := by rw [eσ4]; exact CD_st (by with_reducible assumption) (by decide +kernel)
          try have hD9 : CD σ0 σ4 110 162 (x1.toInt + 1) := by rw [eσ4]; first | exact CD_st (by with_reducible assumption) (by decide +kernel) | exact CD_step (c := 162) (by with_reducible assumption) (by with_reducible assumption) (by omega) (by omega)
          intro v5 ev5
          replace H := f_l ev5 H
          have t_171 : (x1 + (1 : Int32)).toInt = x1.toInt + 1 := i_add (x := x1) (y := (1 : Int32)) (by show (_ : Int) ≤ x1.toInt + 1; omega) (by show x1.toInt + 1 ≤ (_ : Int); omega)
          have t_172 : v5.toInt = (x1 + (1 : Int32)).toInt := congrArg Int32.toInt ev5
          exact ih202 v5 σ4 mσ4 fσ4 (by omega) (by omega) (by first | with_reducible assumption | with_reducible rfl | omega | assumption | rfl) (by first | with_reducible assumption | with_reducible rfl | omega | assumption | rfl) (by first | with_reducible assumption | with_reducible rfl | omega | assumption | rfl) (by first | with_reducible assumption | with_reducible rfl | omega | assumption | rfl) (by first | assumption | exact CD_le (by with_reducible assumption) (by omega)) (by first | with_reducible assumption | with_reducible rfl | omega | assumption | rfl) (by first | with_reducible assumption | with_reducible rfl | omega | assumption | rfl) (by first | with_reducible assumption | with_reducible rfl | omega | assumption | rfl) (by first | with_reducible assumption | with_reducible rfl | omega | assumption | rfl) (by first | with_reducible assumption | with_reducible rfl | omega | assumption | rfl) (by first | with_reducible assumption | with_reducible rfl | omega | assumption | rfl) H (by omega)
      · intro x1 σ mσ fσ lx1 ux1 i0 i1 i2 i3 i4 i5 i6 i7 i8 i9 i10 H hmu
        replace H : LB_X12_undo_228 (LF_X12_undo n) x1 σ = R9 := H
        unfold LB_X12_undo_228 at H
        refine s_X12_undo_228 C hN ?_
        refine ⟨?_, ?_⟩
        · intro q_173
          replace H := f_t q_173 H
          have b_174 : (10 : Int) ≤ x1.toInt := Int32.le_iff_toInt_le.mp q_173
          have z_175 : (0 : Int32).toInt = 0 := rfl
          exact ih254 (0 : Int32) σ mσ fσ (by omega) (by omega) (by first | with_reducible assumption | with_reducible rfl | omega | assumption | rfl) (by first | with_reducible assumption | with_reducible rfl | omega | assumption | rfl) (by first | with_reducible assumption | with_reducible rfl | omega | assumption | rfl) (by first | with_reducible assumption | with_reducible rfl | omega | assumption | rfl) (by first | assumption | exact CD_le (by with_reducible assumption) (by omega)) (by first | with_reducible assumption | with_reducible rfl | omega | assumption | rfl) (by first | with_reducible assumption | with_reducible rfl | omega | assumption | rfl) (by first | with_reducible assumption | with_reducible rfl | omega | assumption | rfl) (by first | with_reducible assumption | with_reducible rfl | omega | assumption | rfl) (by first | with_reducible assumption | with_reducible rfl | omega | assumption | rfl) (by first | with_reducible assumption | with_reducible rfl | omega | assumption | rfl) H (by omega)
        · intro q_173
          replace H := f_f q_173 H
          have b_176 : ¬ (10 : Int) ≤ x1.toInt := fun h9 => q_173 (Int32.le_iff_toInt_le.mpr h9)
          have hv_177 : vp_in x1 10 := vp_in_iff.mpr ⟨by omega, by omega⟩
          refine ⟨hv_177, ?_⟩
          refine ⟨hv_177, ?_⟩
          intro σ4 eσ4
          replace H := f_l eσ4 H
          have mσ4 : MI σ4 := by rw [eσ4]; exact MIs_au (a := 147) mσ rfl rfl
          have fσ4 : Fr [74, 103, 104, 105, 106, 107, 108, 109, 110, 142, 143, 144, 147, 148] [0, 1, 2, 12, 41, 45, 46] σ0 σ4 := by rw [eσ4]; exact Fr_si fσ (by decide +kernel) (fun h9 => absurd h9 (by decide +kernel))
          have k_178 : (gi σ4 74 0).toInt = (gi σ 74 0).toInt := gk_l eσ4 rfl
          have k_179 : (gi σ4 74 1).toInt = (gi σ 74 1).toInt := gk_l eσ4 rfl
          have k_180 : (gi σ4 74 11).toInt = (gi σ 74 11).toInt := gk_l eσ4 rfl
          have k_181 : (gi σ4 74 12).toInt = (gi σ 74 12).toInt := gk_l eσ4 rfl
          have k_182 : (gi σ4 74 41).toInt = (gi σ 74 41).toInt := gk_l eσ4 rfl
          have k_183 : (gi σ4 74 45).toInt = (gi σ 74 45).toInt := gk_l eσ4 rfl
          have k_184 : (gi σ4 74 46).toInt = (gi σ 74 46).toInt := gk_l eσ4 rfl
          have k_185 : (gi σ4 74 49).toInt = (gi σ 74 49).toInt := gk_l eσ4 rfl
          have k_186 : (gi σ4 74 50).toInt = (gi σ 74 50).toInt := gk_l eσ4 rfl
          have k_187 : (gi σ4 74 51).toInt = (gi σ 74 51).toInt := gk_l eσ4 rfl
          have k_188 : (gi σ4 74 52).toInt = (gi σ 74 52).toInt := gk_l eσ4 rfl
          have k_189 : (gi σ4 74 53).toInt = (gi σ 74 53).toInt := gk_l eσ4 rfl
          have k_190 : (gi σ4 74 54).toInt = (gi σ 74 54).toInt := gk_l eσ4 rfl
          have k_191 : (gi σ4 74 55).toInt = (gi σ 74 55).toInt := gk_l eσ4 rfl
          try have hC9 : CD σ0 σ4 162 162 (6) := by rw [eσ4]; exact CD_st (by with_reducible assumption) (by decide +kernel)
          try have hC9 : CD σ0 σ4 110 162 (6) := by rw [eσ4]; exact CD_st (by with_reducible assumption) (by decide +kernel)
          try have hC9 : CD σ0 σ4 110 162 (x1.toInt) := by rw [eσ4]; exact CD_st (by with_reducible assumption) (by decide +kernel)
          try have hD9 : CD σ0 σ4 110 162 (x1.toInt + 1) := by rw [eσ4]; first | exact CD_st (by with_reducible assumption) (by decide +kernel) | exact CD_step (c := 162) (by with_reducible assumption) (by with_reducible assumption) (by omega) (by omega)
          intro v5 ev5
          replace H := f_l ev5 H
          have t_192 : (x1 + (1 : Int32)).toInt = x1.toInt + 1 := i_add (x := x1) (y := (1 : Int32)) (by show (_ : Int) ≤ x1.toInt + 1; omega) (by show x1.toInt + 1 ≤ (_ : Int); omega)
          have t_193 : v5.toInt = (x1 + (1 : Int32)).toInt := congrArg Int32.toInt ev5
          exact ih228 v5 σ4 mσ4 fσ4 (by omega) (by omega) (by first | with_reducible assumption | with_reducible rfl | omega | assumption | rfl) (by first | with_reducible assumption | with_reducible rfl | omega | assumption | rfl) (by first | with_reducible assumption | with_reducible rfl | omega | assumption | rfl) (by first | with_reducible assumption | with_reducible rfl | omega | assumption | rfl) (by first | assumption | exact CD_le (by with_reducible assumption) (by omega)) (by first | with_reducible assumption | with_reducible rfl | omega | assumption | rfl) (by first | with_reducible assumption | with_reducible rfl | omega | assumption | rfl) (by first | with_reducible assumption | with_reducible rfl | omega | assumption | rfl) (by first | with_reducible assumption | with_reducible rfl | omega | assumption | rfl) (by first | with_reducible assumption | with_reducible rfl | omega | assumption | rfl) (by first | with_reducible assumption | with_reducible rfl | omega | assumption | rfl) H (by omega)
      · intro x1 σ mσ fσ lx1 ux1 i0 i1 i2 i3 i4 i5 i6 i7 i8 i9 i10 H hmu
        replace H : LB_X12_undo_254 (LF_X12_undo n) x1 σ = R9 := H
        unfold LB_X12_undo_254 at H
        refine s_X12_undo_254 C hN ?_
        refine ⟨?_, ?_⟩
        · intro q_194
          replace H := f_t q_194 H
          have b_195 : (8 : Int) ≤ x1.toInt := Int32.le_iff_toInt_le.mp q_194
          have t_196 := MI_f0 mσ
          exact h9ret (gi σ 74 0) σ mσ fσ (by first | assumption | exact PL_un m0 pre1 (by with_reducible assumption) (by omega)) (by first | with_reducible assumption | with_reducible rfl | omega | assumption | rfl) (by first | with_reducible assumption | with_reducible rfl | omega | assumption | rfl) (by first | with_reducible assumption | with_reducible rfl | omega | assumption | rfl) (H0.trans H.symm)
        · intro q_194
          replace H := f_f q_194 H
          have b_197 : ¬ (8 : Int) ≤ x1.toInt := fun h9 => q_194 (Int32.le_iff_toInt_le.mpr h9)
          have hv_198 : vp_in x1 8 := vp_in_iff.mpr ⟨by omega, by omega⟩
          refine ⟨hv_198, ?_⟩
          refine ⟨hv_198, ?_⟩
          intro σ4 eσ4
          replace H := f_l eσ4 H
          have mσ4 : MI σ4 := by rw [eσ4]; exact MIs_au (a := 148) mσ rfl rfl
          have fσ4 : Fr [74, 103, 104, 105, 106, 107, 108, 109, 110, 142, 143, 144, 147, 148] [0, 1, 2, 12, 41, 45, 46] σ0 σ4 := by rw [eσ4]; exact Fr_si fσ (by decide +kernel) (fun h9 => absurd h9 (by decide +kernel))
          have k_199 : (gi σ4 74 0).toInt = (gi σ 74 0).toInt := gk_l eσ4 rfl
          have k_200 : (gi σ4 74 1).toInt = (gi σ 74 1).toInt := gk_l eσ4 rfl
          have k_201 : (gi σ4 74 11).toInt = (gi σ 74 11).toInt := gk_l eσ4 rfl
          have k_202 : (gi σ4 74 12).toInt = (gi σ 74 12).toInt := gk_l eσ4 rfl
          have k_203 : (gi σ4 74 41).toInt = (gi σ 74 41).toInt := gk_l eσ4 rfl
          have k_204 : (gi σ4 74 45).toInt = (gi σ 74 45).toInt := gk_l eσ4 rfl
          have k_205 : (gi σ4 74 46).toInt = (gi σ 74 46).toInt := gk_l eσ4 rfl
          have k_206 : (gi σ4 74 49).toInt = (gi σ 74 49).toInt := gk_l eσ4 rfl
          have k_207 : (gi σ4 74 50).toInt = (gi σ 74 50).toInt := gk_l eσ4 rfl
          have k_208 : (gi σ4 74 51).toInt = (gi σ 74 51).toInt := gk_l eσ4 rfl
          have k_209 : (gi σ4 74 52).toInt = (gi σ 74 52).toInt := gk_l eσ4 rfl
          have k_210 : (gi σ4 74 53).toInt = (gi σ 74 53).toInt := gk_l eσ4 rfl
          have k_211 : (gi σ4 74 54).toInt = (gi σ 74 54).toInt := gk_l eσ4 rfl
          have k_212 : (gi σ4 74 55).toInt = (gi σ 74 55).toInt := gk_l eσ4 rfl
          try have hC9 : CD σ0 σ4 162 162 (6) := by rw [eσ4]; exact CD_st (by with_reducible assumption) (by decide +kernel)
          try have hC9 : CD σ0 σ4 110 162 (6) := by rw [eσ4]; exact CD_st (by with_reducible assumption) (by decide +kernel)
          try have hC9 : CD σ0 σ4 110 162 (x1.toInt) := by rw [eσ4]; exact CD_st (by with_reducible assumption) (by decide +kernel)
          try have hD9 : CD σ0 σ4 110 162 (x1.toInt + 1) := by rw [eσ4]; first | exact CD_st (by with_reducible assumption) (by decide +kernel) | exact CD_step (c := 162) (by with_reducible assumption) (by with_reducible assumption) (by omega) (by omega)
          intro v5 ev5
          replace H := f_l ev5 H
          have t_213 : (x1 + (1 : Int32)).toInt = x1.toInt + 1 := i_add (x := x1) (y := (1 : Int32)) (by show (_ : Int) ≤ x1.toInt + 1; omega) (by show x1.toInt + 1 ≤ (_ : Int); omega)
          have t_214 : v5.toInt = (x1 + (1 : Int32)).toInt := congrArg Int32.toInt ev5
          exact ih254 v5 σ4 mσ4 fσ4 (by omega) (by omega) (by first | with_reducible assumption | with_reducible rfl | omega | assumption | rfl) (by first | with_reducible assumption | with_reducible rfl | omega | assumption | rfl) (by first | with_reducible assumption | with_reducible rfl | omega | assumption | rfl) (by first | with_reducible assumption | with_reducible rfl | omega | assumption | rfl) (by first | assumption | exact CD_le (by with_reducible assumption) (by omega)) (by first | with_reducible assumption | with_reducible rfl | omega | assumption | rfl) (by first | with_reducible assumption | with_reducible rfl | omega | assumption | rfl) (by first | with_reducible assumption | with_reducible rfl | omega | assumption | rfl) (by first | with_reducible assumption | with_reducible rfl | omega | assumption | rfl) (by first | with_reducible assumption | with_reducible rfl | omega | assumption | rfl) (by first | with_reducible assumption | with_reducible rfl | omega | assumption | rfl) H (by omega)
  obtain ⟨U68, U202, U228, U254⟩ := T 900
  have f0 : Fr [74, 103, 104, 105, 106, 107, 108, 109, 110, 142, 143, 144, 147, 148] [0, 1, 2, 12, 41, 45, 46] σ0 σ0 := Fr_rf
  have hA9 : CD σ0 σ0 162 162 6 := CD_rf
  have H := H0
  unfold F_X12_undo at H
  refine s_X12_undo_0 C hN ?_
  refine ⟨?_, ?_⟩
  · intro q_215
    replace H := f_f q_215 H
    have b_216 : ¬ (gi σ0 74 49).toInt = 0 := fun h9 => q_215 (Int32.toInt_inj.mp h9)
    intro σ2 eσ2
    replace H := f_l eσ2 H
    have t_217 := MI_f50 m0
    have mσ2 : MI σ2 := by rw [eσ2]; exact MIs_f12 m0 (by omega) (by omega) (FV_copy m0.2.2 (Or.inl rfl) (Or.inr rfl))
    have fσ2 : Fr [74, 103, 104, 105, 106, 107, 108, 109, 110, 142, 143, 144, 147, 148] [0, 1, 2, 12, 41, 45, 46] σ0 σ2 := by rw [eσ2]; exact Fr_si f0 (by decide +kernel) (fun _ => by decide +kernel)
    have k_218 : (gi σ2 74 0).toInt = (gi σ0 74 0).toInt := gk_r eσ2 rfl
    have k_219 : (gi σ2 74 1).toInt = (gi σ0 74 1).toInt := gk_r eσ2 rfl
    have k_220 : (gi σ2 74 11).toInt = (gi σ0 74 11).toInt := gk_r eσ2 rfl
    have k_221 : (gi σ2 74 12).toInt = (gi σ0 74 50).toInt := by rw [eσ2]; exact congrArg Int32.toInt gi_si_eq
    have k_222 : (gi σ2 74 41).toInt = (gi σ0 74 41).toInt := gk_r eσ2 rfl
    have k_223 : (gi σ2 74 45).toInt = (gi σ0 74 45).toInt := gk_r eσ2 rfl
    have k_224 : (gi σ2 74 46).toInt = (gi σ0 74 46).toInt := gk_r eσ2 rfl
    have k_225 : (gi σ2 74 49).toInt = (gi σ0 74 49).toInt := gk_r eσ2 rfl
    have k_226 : (gi σ2 74 50).toInt = (gi σ0 74 50).toInt := gk_r eσ2 rfl
    have k_227 : (gi σ2 74 51).toInt = (gi σ0 74 51).toInt := gk_r eσ2 rfl
    have k_228 : (gi σ2 74 52).toInt = (gi σ0 74 52).toInt := gk_r eσ2 rfl
    have k_229 : (gi σ2 74 53).toInt = (gi σ0 74 53).toInt := gk_r eσ2 rfl
    have k_230 : (gi σ2 74 54).toInt = (gi σ0 74 54).toInt := gk_r eσ2 rfl
    have k_231 : (gi σ2 74 55).toInt = (gi σ0 74 55).toInt := gk_r eσ2 rfl
    try have hC9 : CD σ0 σ2 162 162 (6) := by rw [eσ2]; exact CD_st (by with_reducible assumption) (by decide +kernel)
    intro σ3 eσ3
    replace H := f_l eσ3 H
    have t_232 := MI_f51 mσ2
    have mσ3 : MI σ3 := by rw [eσ3]; exact MIs_f0 mσ2 (by omega) (by omega)
    have fσ3 : Fr [74, 103, 104, 105, 106, 107, 108, 109, 110, 142, 143, 144, 147, 148] [0, 1, 2, 12, 41, 45, 46] σ0 σ3 := by rw [eσ3]; exact Fr_si fσ2 (by decide +kernel) (fun _ => by decide +kernel)
    have k_233 : (gi σ3 74 0).toInt = (gi σ2 74 51).toInt := by rw [eσ3]; exact congrArg Int32.toInt gi_si_eq
    have k_234 : (gi σ3 74 1).toInt = (gi σ2 74 1).toInt := gk_r eσ3 rfl
    have k_235 : (gi σ3 74 11).toInt = (gi σ2 74 11).toInt := gk_r eσ3 rfl
    have k_236 : (gi σ3 74 12).toInt = (gi σ2 74 12).toInt := gk_r eσ3 rfl
    have k_237 : (gi σ3 74 41).toInt = (gi σ2 74 41).toInt := gk_r eσ3 rfl
    have k_238 : (gi σ3 74 45).toInt = (gi σ2 74 45).toInt := gk_r eσ3 rfl
    have k_239 : (gi σ3 74 46).toInt = (gi σ2 74 46).toInt := gk_r eσ3 rfl
    have k_240 : (gi σ3 74 49).toInt = (gi σ2 74 49).toInt := gk_r eσ3 rfl
    have k_241 : (gi σ3 74 50).toInt = (gi σ2 74 50).toInt := gk_r eσ3 rfl
    have k_242 : (gi σ3 74 51).toInt = (gi σ2 74 51).toInt := gk_r eσ3 rfl
    have k_243 : (gi σ3 74 52).toInt = (gi σ2 74 52).toInt := gk_r eσ3 rfl
    have k_244 : (gi σ3 74 53).toInt = (gi σ2 74 53).toInt := gk_r eσ3 rfl
    have k_245 : (gi σ3 74 54).toInt = (gi σ2 74 54).toInt := gk_r eσ3 rfl
    have k_246 : (gi σ3 74 55).toInt = (gi σ2 74 55).toInt := gk_r eσ3 rfl
    try have hC9 : CD σ0 σ3 162 162 (6) := by rw [eσ3]; exact CD_st (by with_reducible assumption) (by decide +kernel)
    intro σ4 eσ4
    replace H := f_l eσ4 H
    have t_247 := MI_f51 mσ3
    have mσ4 : MI σ4 := by rw [eσ4]; exact MIs_f2 mσ3 (by omega) (by omega)
    have fσ4 : Fr [74, 103, 104, 105, 106, 107, 108, 109, 110, 142, 143, 144, 147, 148] [0, 1, 2, 12, 41, 45, 46] σ0 σ4 := by rw [eσ4]; exact Fr_si fσ3 (by decide +kernel) (fun _ => by decide +kernel)
    have k_248 : (gi σ4 74 0).toInt = (gi σ3 74 0).toInt := gk_r eσ4 rfl
    have k_249 : (gi σ4 74 1).toInt = (gi σ3 74 1).toInt := gk_r eσ4 rfl
    have k_250 : (gi σ4 74 11).toInt = (gi σ3 74 11).toInt := gk_r eσ4 rfl
    have k_251 : (gi σ4 74 12).toInt = (gi σ3 74 12).toInt := gk_r eσ4 rfl
    have k_252 : (gi σ4 74 41).toInt = (gi σ3 74 41).toInt := gk_r eσ4 rfl
    have k_253 : (gi σ4 74 45).toInt = (gi σ3 74 45).toInt := gk_r eσ4 rfl
    have k_254 : (gi σ4 74 46).toInt = (gi σ3 74 46).toInt := gk_r eσ4 rfl
    have k_255 : (gi σ4 74 49).toInt = (gi σ3 74 49).toInt := gk_r eσ4 rfl
    have k_256 : (gi σ4 74 50).toInt = (gi σ3 74 50).toInt := gk_r eσ4 rfl
    have k_257 : (gi σ4 74 51).toInt = (gi σ3 74 51).toInt := gk_r eσ4 rfl
    have k_258 : (gi σ4 74 52).toInt = (gi σ3 74 52).toInt := gk_r eσ4 rfl
    have k_259 : (gi σ4 74 53).toInt = (gi σ3 74 53).toInt := gk_r eσ4 rfl
    have k_260 : (gi σ4 74 54).toInt = (gi σ3 74 54).toInt := gk_r eσ4 rfl
    have k_261 : (gi σ4 74 55).toInt = (gi σ3 74 55).toInt := gk_r eσ4 rfl
    try have hC9 : CD σ0 σ4 162 162 (6) := by rw [eσ4]; exact CD_st (by with_reducible assumption) (by decide +kernel)
    intro σ5 eσ5
    replace H := f_l eσ5 H
    have t_262 := MI_f52 mσ4
    have mσ5 : MI σ5 := by rw [eσ5]; exact MIs_f1 mσ4 (by omega) (by omega)
    have fσ5 : Fr [74, 103, 104, 105, 106, 107, 108, 109, 110, 142, 143, 144, 147, 148] [0, 1, 2, 12, 41, 45, 46] σ0 σ5 := by rw [eσ5]; exact Fr_si fσ4 (by decide +kernel) (fun _ => by decide +kernel)
    have k_263 : (gi σ5 74 0).toInt = (gi σ4 74 0).toInt := gk_r eσ5 rfl
    have k_264 : (gi σ5 74 1).toInt = (gi σ4 74 52).toInt := by rw [eσ5]; exact congrArg Int32.toInt gi_si_eq
    have k_265 : (gi σ5 74 11).toInt = (gi σ4 74 11).toInt := gk_r eσ5 rfl
    have k_266 : (gi σ5 74 12).toInt = (gi σ4 74 12).toInt := gk_r eσ5 rfl
    have k_267 : (gi σ5 74 41).toInt = (gi σ4 74 41).toInt := gk_r eσ5 rfl
    have k_268 : (gi σ5 74 45).toInt = (gi σ4 74 45).toInt := gk_r eσ5 rfl
    have k_269 : (gi σ5 74 46).toInt = (gi σ4 74 46).toInt := gk_r eσ5 rfl
    have k_270 : (gi σ5 74 49).toInt = (gi σ4 74 49).toInt := gk_r eσ5 rfl
    have k_271 : (gi σ5 74 50).toInt = (gi σ4 74 50).toInt := gk_r eσ5 rfl
    have k_272 : (gi σ5 74 51).toInt = (gi σ4 74 51).toInt := gk_r eσ5 rfl
    have k_273 : (gi σ5 74 52).toInt = (gi σ4 74 52).toInt := gk_r eσ5 rfl
    have k_274 : (gi σ5 74 53).toInt = (gi σ4 74 53).toInt := gk_r eσ5 rfl
    have k_275 : (gi σ5 74 54).toInt = (gi σ4 74 54).toInt := gk_r eσ5 rfl
    have k_276 : (gi σ5 74 55).toInt = (gi σ4 74 55).toInt := gk_r eσ5 rfl
    try have hC9 : CD σ0 σ5 162 162 (6) := by rw [eσ5]; exact CD_st (by with_reducible assumption) (by decide +kernel)
    intro σ6 eσ6
    replace H := f_l eσ6 H
    have t_277 := MI_f53 mσ5
    have mσ6 : MI σ6 := by rw [eσ6]; exact MIs_f41 mσ5 (by omega) (by omega)
    have fσ6 : Fr [74, 103, 104, 105, 106, 107, 108, 109, 110, 142, 143, 144, 147, 148] [0, 1, 2, 12, 41, 45, 46] σ0 σ6 := by rw [eσ6]; exact Fr_si fσ5 (by decide +kernel) (fun _ => by decide +kernel)
    have k_278 : (gi σ6 74 0).toInt = (gi σ5 74 0).toInt := gk_r eσ6 rfl
    have k_279 : (gi σ6 74 1).toInt = (gi σ5 74 1).toInt := gk_r eσ6 rfl
    have k_280 : (gi σ6 74 11).toInt = (gi σ5 74 11).toInt := gk_r eσ6 rfl
    have k_281 : (gi σ6 74 12).toInt = (gi σ5 74 12).toInt := gk_r eσ6 rfl
    have k_282 : (gi σ6 74 41).toInt = (gi σ5 74 53).toInt := by rw [eσ6]; exact congrArg Int32.toInt gi_si_eq
    have k_283 : (gi σ6 74 45).toInt = (gi σ5 74 45).toInt := gk_r eσ6 rfl
    have k_284 : (gi σ6 74 46).toInt = (gi σ5 74 46).toInt := gk_r eσ6 rfl
    have k_285 : (gi σ6 74 49).toInt = (gi σ5 74 49).toInt := gk_r eσ6 rfl
    have k_286 : (gi σ6 74 50).toInt = (gi σ5 74 50).toInt := gk_r eσ6 rfl
    have k_287 : (gi σ6 74 51).toInt = (gi σ5 74 51).toInt := gk_r eσ6 rfl
    have k_288 : (gi σ6 74 52).toInt = (gi σ5 74 52).toInt := gk_r eσ6 rfl
    have k_289 : (gi σ6 74 53).toInt = (gi σ5 74 53).toInt := gk_r eσ6 rfl
    have k_290 : (gi σ6 74 54).toInt = (gi σ5 74 54).toInt := gk_r eσ6 rfl
    have k_291 : (gi σ6 74 55).toInt = (gi σ5 74 55).toInt := gk_r eσ6 rfl
    try have hC9 : CD σ0 σ6 162 162 (6) := by rw [eσ6]; exact CD_st (by with_reducible assumption) (by decide +kernel)
    intro σ7 eσ7
    replace H := f_l eσ7 H
    have t_292 := MI_f54 mσ6
    have mσ7 : MI σ7 := by rw [eσ7]; exact MIs_f45 mσ6 (by omega) (by omega)
    have fσ7 : Fr [74, 103, 104, 105, 106, 107, 108, 109, 110, 142, 143, 144, 147, 148] [0, 1, 2, 12, 41, 45, 46] σ0 σ7 := by rw [eσ7]; exact Fr_si fσ6 (by decide +kernel) (fun _ => by decide +kernel)
    have k_293 : (gi σ7 74 0).toInt = (gi σ6 74 0).toInt := gk_r eσ7 rfl
    have k_294 : (gi σ7 74 1).toInt = (gi σ6 74 1).toInt := gk_r eσ7 rfl
    have k_295 : (gi σ7 74 11).toInt = (gi σ6 74 11).toInt := gk_r eσ7 rfl
    have k_296 : (gi σ7 74 12).toInt = (gi σ6 74 12).toInt := gk_r eσ7 rfl
    have k_297 : (gi σ7 74 41).toInt = (gi σ6 74 41).toInt := gk_r eσ7 rfl
    have k_298 : (gi σ7 74 45).toInt = (gi σ6 74 54).toInt := by rw [eσ7]; exact congrArg Int32.toInt gi_si_eq
    have k_299 : (gi σ7 74 46).toInt = (gi σ6 74 46).toInt := gk_r eσ7 rfl
    have k_300 : (gi σ7 74 49).toInt = (gi σ6 74 49).toInt := gk_r eσ7 rfl
    have k_301 : (gi σ7 74 50).toInt = (gi σ6 74 50).toInt := gk_r eσ7 rfl
    have k_302 : (gi σ7 74 51).toInt = (gi σ6 74 51).toInt := gk_r eσ7 rfl
    have k_303 : (gi σ7 74 52).toInt = (gi σ6 74 52).toInt := gk_r eσ7 rfl
    have k_304 : (gi σ7 74 53).toInt = (gi σ6 74 53).toInt := gk_r eσ7 rfl
    have k_305 : (gi σ7 74 54).toInt = (gi σ6 74 54).toInt := gk_r eσ7 rfl
    have k_306 : (gi σ7 74 55).toInt = (gi σ6 74 55).toInt := gk_r eσ7 rfl
    try have hC9 : CD σ0 σ7 162 162 (6) := by rw [eσ7]; exact CD_st (by with_reducible assumption) (by decide +kernel)
    intro σ8 eσ8
    replace H := f_l eσ8 H
    have t_307 := MI_f55 mσ7
    have mσ8 : MI σ8 := by rw [eσ8]; exact MIs_f46 mσ7 (by omega) (by omega)
    have fσ8 : Fr [74, 103, 104, 105, 106, 107, 108, 109, 110, 142, 143, 144, 147, 148] [0, 1, 2, 12, 41, 45, 46] σ0 σ8 := by rw [eσ8]; exact Fr_si fσ7 (by decide +kernel) (fun _ => by decide +kernel)
    have k_308 : (gi σ8 74 0).toInt = (gi σ7 74 0).toInt := gk_r eσ8 rfl
    have k_309 : (gi σ8 74 1).toInt = (gi σ7 74 1).toInt := gk_r eσ8 rfl
    have k_310 : (gi σ8 74 11).toInt = (gi σ7 74 11).toInt := gk_r eσ8 rfl
    have k_311 : (gi σ8 74 12).toInt = (gi σ7 74 12).toInt := gk_r eσ8 rfl
    have k_312 : (gi σ8 74 41).toInt = (gi σ7 74 41).toInt := gk_r eσ8 rfl
    have k_313 : (gi σ8 74 45).toInt = (gi σ7 74 45).toInt := gk_r eσ8 rfl
    have k_314 : (gi σ8 74 46).toInt = (gi σ7 74 55).toInt := by rw [eσ8]; exact congrArg Int32.toInt gi_si_eq
    have k_315 : (gi σ8 74 49).toInt = (gi σ7 74 49).toInt := gk_r eσ8 rfl
    have k_316 : (gi σ8 74 50).toInt = (gi σ7 74 50).toInt := gk_r eσ8 rfl
    have k_317 : (gi σ8 74 51).toInt = (gi σ7 74 51).toInt := gk_r eσ8 rfl
    have k_318 : (gi σ8 74 52).toInt = (gi σ7 74 52).toInt := gk_r eσ8 rfl
    have k_319 : (gi σ8 74 53).toInt = (gi σ7 74 53).toInt := gk_r eσ8 rfl
    have k_320 : (gi σ8 74 54).toInt = (gi σ7 74 54).toInt := gk_r eσ8 rfl
    have k_321 : (gi σ8 74 55).toInt = (gi σ7 74 55).toInt := gk_r eσ8 rfl
    try have hC9 : CD σ0 σ8 162 162 (6) := by rw [eσ8]; exact CD_st (by with_reducible assumption) (by decide +kernel)
    have z_322 : (0 : Int32).toInt = 0 := rfl
    exact U68 (0 : Int32) σ8 mσ8 fσ8 (by omega) (by omega) (by first | with_reducible assumption | with_reducible rfl | omega | assumption | rfl) (by first | with_reducible assumption | with_reducible rfl | omega | assumption | rfl) (by first | with_reducible assumption | with_reducible rfl | omega | assumption | rfl) (by first | with_reducible assumption | with_reducible rfl | omega | assumption | rfl) (by with_reducible assumption) (by first | exact CD_0 (Int.le_refl 0) | (rw [show v32.toInt = x1.toInt + 1 from by omega]; assumption)) (by first | with_reducible assumption | with_reducible rfl | omega | assumption | rfl) (by first | with_reducible assumption | with_reducible rfl | omega | assumption | rfl) (by first | with_reducible assumption | with_reducible rfl | omega | assumption | rfl) (by first | with_reducible assumption | with_reducible rfl | omega | assumption | rfl) (by first | with_reducible assumption | with_reducible rfl | omega | assumption | rfl) (by first | with_reducible assumption | with_reducible rfl | omega | assumption | rfl) H (by omega)
  · intro q_215
    replace H := f_t q_215 H
    have b_323 : (gi σ0 74 49).toInt = 0 := congrArg Int32.toInt q_215
    have z_324 : (-3 : Int32).toInt = -3 := rfl
    exact h9ret (-3 : Int32) σ0 m0 f0 (by first | assumption | exact PL_un m0 pre1 (by with_reducible assumption) (by omega)) (by first | with_reducible assumption | with_reducible rfl | omega | assumption | rfl) (by first | with_reducible assumption | with_reducible rfl | omega | assumption | rfl) (by first | with_reducible assumption | with_reducible rfl | omega | assumption | rfl) (H0.trans H.symm)
noncomputable def LB_X12_mower_115 (rec : Int32 → Sg → Int32 × Sg) (x3 : Int32) (σ : Sg) : Int32 × Sg := (if (4 : Int32) ≤ x3 then fl (si σ 74 0 ((gi σ 74 0) + (1 : Int32))) (fun σ2 => fl (si σ2 74 2 (gi σ2 74 0)) (fun σ3 => ((gi σ3 74 0) - (1 : Int32), σ3))) else fl (si σ 109 (((4 : Int32) * (gi σ 74 0)) + x3).toNatClampNeg (0 : Int32)) (fun σ5 => fl (x3 + 1) (fun v6 => rec v6 σ5)))
noncomputable def LF_X12_mower : Nat → Int32 → Sg → Int32 × Sg
  | 0, _, σ => (0, σ)
  | n + 1, x3, σ => LB_X12_mower_115 (LF_X12_mower n) x3 σ
noncomputable def F_X12_mower (a1 : Int32) (a2 : Int32) (σ : Sg) : Int32 × Sg := fb (F_X12_in a1 (0 : Int32) (6 : Int32) σ) (fun r2 σ1 => (if r2 = 0 then ((-1 : Int32), σ1) else fb (F_X12_in a2 (0 : Int32) (9 : Int32) σ1) (fun r5 σ4 => (if r5 = 0 then ((-2 : Int32), σ4) else (if (gi σ4 74 0) = (6 : Int32) then ((-4 : Int32), σ4) else fl (si σ4 103 (gi σ4 74 0).toNatClampNeg a1) (fun σ9 => fl (si σ9 104 (gi σ9 74 0).toNatClampNeg a2) (fun σ11 => fl (si σ11 105 (gi σ11 74 0).toNatClampNeg (0 : Int32)) (fun σ13 => fl (si σ13 106 (gi σ13 74 0).toNatClampNeg (10 : Int32)) (fun σ15 => fl (si σ15 107 (gi σ15 74 0).toNatClampNeg (0 : Int32)) (fun σ17 => fl (si σ17 108 (gi σ17 74 0).toNatClampNeg (0 : Int32)) (fun σ19 => fl (si σ19 110 (gi σ19 74 0).toNatClampNeg (gi σ19 74 0)) (fun σ21 => LF_X12_mower 20 (0 : Int32) σ21))))))))))))
set_option maxRecDepth 100000 in
set_option maxHeartbeats 4000000 in
theorem kF_X12_mower {l : Launch} {V : Vx} {a1 : Int32} {a2 : Int32} {σ0 : Sg} {Qk : Int32 → Sg → Prop} (m0 : MI σ0) (pre0 : PL σ0) (h9ret : ∀ (r : Int32) (σ' : Sg), MI σ' → Fr [74, 103, 104, 105, 106, 107, 108, 109, 110] [0, 2] σ0 σ' → (PL σ') → (((gi σ' 74 0).toInt = (gi σ0 74 0).toInt ∨ (gi σ' 74 0).toInt = (gi σ0 74 0).toInt + 1)) → (((a1.toInt < 0 ∨ 6 < a1.toInt) → r.toInt = -1 ∧ (gi σ' 74 0).toInt = (gi σ0 74 0).toInt) ∧ (0 ≤ a1.toInt → a1.toInt ≤ 6 → ((a2.toInt < 0 ∨ 9 < a2.toInt) → r.toInt = -2 ∧ (gi σ' 74 0).toInt = (gi σ0 74 0).toInt) ∧ (0 ≤ a2.toInt → a2.toInt ≤ 9 → (6 ≤ (gi σ0 74 0).toInt → r.toInt = -4 ∧ (gi σ' 74 0).toInt = (gi σ0 74 0).toInt) ∧ ((gi σ0 74 0).toInt < 6 → r.toInt = (gi σ0 74 0).toInt ∧ (gi σ' 74 0).toInt = (gi σ0 74 0).toInt + 1)))) → (F_X12_mower a1 a2 σ0 = (r, σ')) → Qk r σ') : K_X12_mower l V a1 a2 σ0 Qk := by
  refine e_X12_mower (fun M hl hV hN C => ?_)
  subst hl
  subst hV
  obtain ⟨R9, H0⟩ : ∃ R9, F_X12_mower a1 a2 σ0 = R9 := ⟨_, rfl⟩
  have T : ∀ n : Nat, (∀ (x3 : Int32) (σ : Sg), MI σ → Fr [74, 103, 104, 105, 106, 107, 108, 109, 110] [0, 2] σ0 σ → (0 ≤ x3.toInt) → (x3.toInt ≤ 4) → ((gi σ 74 0).toInt = (gi σ0 74 0).toInt) → ((gi σ0 74 0).toInt ≤ 5) → (PLx σ ((gi σ 74 0).toInt + 1)) → (0 ≤ a1.toInt) → (a1.toInt ≤ 6) → (0 ≤ a2.toInt) → (a2.toInt ≤ 9) → (LF_X12_mower n x3 σ = R9) → (5 - x3.toInt).toNat < n → PS M 115 [(0, .ref 74), (3, .int x3)] [] σ (0, 0)) := by
    intro n
    induction n with
    | zero => exact fun _ _ _ _ _ _ _ _ _ _ _ _ _ _ h8 => absurd h8 (Nat.not_lt_zero _)
    | succ n ih =>
      have ih115 := ih
      · intro x3 σ mσ fσ lx3 ux3 i0 i1 i2 i3 i4 i5 i6 H hmu
        replace H : LB_X12_mower_115 (LF_X12_mower n) x3 σ = R9 := H
        unfold LB_X12_mower_115 at H
        refine s_X12_mower_115 C hN ?_
        refine ⟨?_, ?_⟩
        · intro q_1
          replace H := f_t q_1 H
          have b_2 : (4 : Int) ≤ x3.toInt := Int32.le_iff_toInt_le.mp q_1
          intro σ2 eσ2
          replace H := f_l eσ2 H
          have t_3 := MI_f0 mσ
          have t_4 : ((gi σ 74 0) + (1 : Int32)).toInt = (gi σ 74 0).toInt + 1 := i_add (x := (gi σ 74 0)) (y := (1 : Int32)) (by show (_ : Int) ≤ (gi σ 74 0).toInt + 1; omega) (by show (gi σ 74 0).toInt + 1 ≤ (_ : Int); omega)
          have mσ2 : MI σ2 := by rw [eσ2]; exact MIs_f0 mσ (by omega) (by omega)
          have fσ2 : Fr [74, 103, 104, 105, 106, 107, 108, 109, 110] [0, 2] σ0 σ2 := by rw [eσ2]; exact Fr_si fσ (by decide +kernel) (fun _ => by decide +kernel)
          have k_5 : (gi σ2 74 0).toInt = ((gi σ 74 0) + (1 : Int32)).toInt := by rw [eσ2]; exact congrArg Int32.toInt gi_si_eq
          intro σ3 eσ3
          replace H := f_l eσ3 H
          have t_6 := MI_f0 mσ2
          have mσ3 : MI σ3 := by rw [eσ3]; exact MIs_f2 mσ2 (by omega) (by omega)
          have fσ3 : Fr [74, 103, 104, 105, 106, 107, 108, 109, 110] [0, 2] σ0 σ3 := by rw [eσ3]; exact Fr_si fσ2 (by decide +kernel) (fun _ => by decide +kernel)
          have k_7 : (gi σ3 74 0).toInt = (gi σ2 74 0).toInt := gk_r eσ3 rfl
          have t_8 := MI_f0 mσ3
          have t_9 : ((gi σ3 74 0) - (1 : Int32)).toInt = (gi σ3 74 0).toInt - 1 := i_sub (x := (gi σ3 74 0)) (y := (1 : Int32)) (by show (_ : Int) ≤ (gi σ3 74 0).toInt - 1; omega) (by show (gi σ3 74 0).toInt - 1 ≤ (_ : Int); omega)
          exact h9ret ((gi σ3 74 0) - (1 : Int32)) σ3 mσ3 fσ3 (by first | assumption | (show PLx σ3 (gi σ3 74 0).toInt; rw [show (gi σ3 74 0).toInt = (gi σ 74 0).toInt + 1 from by omega, eσ3, eσ2]; exact PLx_st (PLx_st i2 (by decide +kernel)) (by decide +kernel))) (by first | with_reducible assumption | with_reducible rfl | omega | assumption | rfl) (by first | with_reducible assumption | with_reducible rfl | omega | assumption | rfl) (H0.trans H.symm)
        · intro q_1
          replace H := f_f q_1 H
          have b_10 : ¬ (4 : Int) ≤ x3.toInt := fun h9 => q_1 (Int32.le_iff_toInt_le.mpr h9)
          have t_11 := MI_f0 mσ
          have t_12 : ((4 : Int32) * (gi σ 74 0)).toInt = 4 * (gi σ 74 0).toInt := i_mull rfl (by omega) (by omega)
          have t_13 : (((4 : Int32) * (gi σ 74 0)) + x3).toInt = ((4 : Int32) * (gi σ 74 0)).toInt + x3.toInt := i_add (x := ((4 : Int32) * (gi σ 74 0))) (y := x3) (by show (_ : Int) ≤ ((4 : Int32) * (gi σ 74 0)).toInt + x3.toInt; omega) (by show ((4 : Int32) * (gi σ 74 0)).toInt + x3.toInt ≤ (_ : Int); omega)
          have hv_14 : vp_in (((4 : Int32) * (gi σ 74 0)) + x3) 24 := vp_in_iff.mpr ⟨by omega, by omega⟩
          refine ⟨hv_14, ?_⟩
          intro σ5 eσ5
          replace H := f_l eσ5 H
          have mσ5 : MI σ5 := by rw [eσ5]; exact MIs_au (a := 109) mσ rfl rfl
          have fσ5 : Fr [74, 103, 104, 105, 106, 107, 108, 109, 110] [0, 2] σ0 σ5 := by rw [eσ5]; exact Fr_si fσ (by decide +kernel) (fun h9 => absurd h9 (by decide +kernel))
          have k_15 : (gi σ5 74 0).toInt = (gi σ 74 0).toInt := gk_l eσ5 rfl
          intro v6 ev6
          replace H := f_l ev6 H
          have t_16 : (x3 + (1 : Int32)).toInt = x3.toInt + 1 := i_add (x := x3) (y := (1 : Int32)) (by show (_ : Int) ≤ x3.toInt + 1; omega) (by show x3.toInt + 1 ≤ (_ : Int); omega)
          have t_17 : v6.toInt = (x3 + (1 : Int32)).toInt := congrArg Int32.toInt ev6
          exact ih115 v6 σ5 mσ5 fσ5 (by omega) (by omega) (by first | with_reducible assumption | with_reducible rfl | omega | assumption | rfl) (by first | with_reducible assumption | with_reducible rfl | omega | assumption | rfl) (by first | (rw [show (gi σ21 74 0).toInt + 1 = (gi σ19 74 0).toInt + 1 from by omega, eσ21]; exact PLx_new (by with_reducible assumption) (by omega) rfl) | (rw [show (gi σ5 74 0).toInt + 1 = (gi σ 74 0).toInt + 1 from by omega, eσ5]; exact PLx_st i2 (by decide +kernel))) (by first | with_reducible assumption | with_reducible rfl | omega | assumption | rfl) (by first | with_reducible assumption | with_reducible rfl | omega | assumption | rfl) (by first | with_reducible assumption | with_reducible rfl | omega | assumption | rfl) (by first | with_reducible assumption | with_reducible rfl | omega | assumption | rfl) H (by omega)
  have U115 := T 20
  have f0 : Fr [74, 103, 104, 105, 106, 107, 108, 109, 110] [0, 2] σ0 σ0 := Fr_rf
  have H := H0
  unfold F_X12_mower at H
  refine s_X12_mower_0 C hN ?_
  refine kF_X12_in m0  (fun r2 σ1 mσ1 cσ1 plσ1 phσ1 (pσ1_0 : (r2.toInt = 1 ∧ (0 : Int) ≤ a1.toInt ∧ a1.toInt ≤ (6 : Int)) ∨ (r2.toInt = 0 ∧ (a1.toInt < (0 : Int) ∨ (6 : Int) < a1.toInt))) hσ1 => ?_)
  obtain rfl := Fr_nil cσ1
  replace H := f_b hσ1 H
  refine ⟨?_, ?_⟩
  · intro q_18
    replace H := f_f q_18 H
    have b_19 : ¬ r2.toInt = 0 := fun h9 => q_18 (Int32.toInt_inj.mp h9)
    refine kF_X12_in m0  (fun r5 σ4 mσ4 cσ4 plσ4 phσ4 (pσ4_0 : (r5.toInt = 1 ∧ (0 : Int) ≤ a2.toInt ∧ a2.toInt ≤ (9 : Int)) ∨ (r5.toInt = 0 ∧ (a2.toInt < (0 : Int) ∨ (9 : Int) < a2.toInt))) hσ4 => ?_)
    obtain rfl := Fr_nil cσ4
    replace H := f_b hσ4 H
    refine ⟨?_, ?_⟩
    · intro q_20
      replace H := f_f q_20 H
      have b_21 : ¬ r5.toInt = 0 := fun h9 => q_20 (Int32.toInt_inj.mp h9)
      refine ⟨?_, ?_⟩
      · intro q_22
        replace H := f_f q_22 H
        have t_23 := MI_f0 m0
        have b_24 : ¬ (gi σ0 74 0).toInt = 6 := fun h9 => q_22 (Int32.toInt_inj.mp h9)
        have hv_25 : vp_in (gi σ0 74 0) 6 := vp_in_iff.mpr ⟨by omega, by omega⟩
        refine ⟨hv_25, ?_⟩
        intro σ9 eσ9
        replace H := f_l eσ9 H
        have mσ9 : MI σ9 := by rw [eσ9]; exact MIs_au (a := 103) m0 rfl rfl
        have fσ9 : Fr [74, 103, 104, 105, 106, 107, 108, 109, 110] [0, 2] σ0 σ9 := by rw [eσ9]; exact Fr_si f0 (by decide +kernel) (fun h9 => absurd h9 (by decide +kernel))
        have k_26 : (gi σ9 74 0).toInt = (gi σ0 74 0).toInt := gk_l eσ9 rfl
        try have hP9 : PL σ9 := by rw [eσ9]; exact PL_st (by with_reducible assumption) (by decide +kernel) (by decide +kernel)
        have t_27 := MI_f0 mσ9
        have hv_28 : vp_in (gi σ9 74 0) 6 := vp_in_iff.mpr ⟨by omega, by omega⟩
        refine ⟨hv_28, ?_⟩
        intro σ11 eσ11
        replace H := f_l eσ11 H
        have mσ11 : MI σ11 := by rw [eσ11]; exact MIs_au (a := 104) mσ9 rfl rfl
        have fσ11 : Fr [74, 103, 104, 105, 106, 107, 108, 109, 110] [0, 2] σ0 σ11 := by rw [eσ11]; exact Fr_si fσ9 (by decide +kernel) (fun h9 => absurd h9 (by decide +kernel))
        have k_29 : (gi σ11 74 0).toInt = (gi σ9 74 0).toInt := gk_l eσ11 rfl
        try have hP9 : PL σ11 := by rw [eσ11]; exact PL_st (by with_reducible assumption) (by decide +kernel) (by decide +kernel)
        have t_30 := MI_f0 mσ11
        have hv_31 : vp_in (gi σ11 74 0) 6 := vp_in_iff.mpr ⟨by omega, by omega⟩
        refine ⟨hv_31, ?_⟩
        intro σ13 eσ13
        replace H := f_l eσ13 H
        have z_32 : (0 : Int32).toInt = 0 := rfl
        have mσ13 : MI σ13 := by rw [eσ13]; exact MIs_a105 mσ11 (by omega) (by omega)
        have fσ13 : Fr [74, 103, 104, 105, 106, 107, 108, 109, 110] [0, 2] σ0 σ13 := by rw [eσ13]; exact Fr_si fσ11 (by decide +kernel) (fun h9 => absurd h9 (by decide +kernel))
        have k_33 : (gi σ13 74 0).toInt = (gi σ11 74 0).toInt := gk_l eσ13 rfl
        try have hP9 : PL σ13 := by rw [eσ13]; exact PL_st (by with_reducible assumption) (by decide +kernel) (by decide +kernel)
        have t_34 := MI_f0 mσ13
        have hv_35 : vp_in (gi σ13 74 0) 6 := vp_in_iff.mpr ⟨by omega, by omega⟩
        refine ⟨hv_35, ?_⟩
        intro σ15 eσ15
        replace H := f_l eσ15 H
        have mσ15 : MI σ15 := by rw [eσ15]; exact MIs_au (a := 106) mσ13 rfl rfl
        have fσ15 : Fr [74, 103, 104, 105, 106, 107, 108, 109, 110] [0, 2] σ0 σ15 := by rw [eσ15]; exact Fr_si fσ13 (by decide +kernel) (fun h9 => absurd h9 (by decide +kernel))
        have k_36 : (gi σ15 74 0).toInt = (gi σ13 74 0).toInt := gk_l eσ15 rfl
        try have hP9 : PL σ15 := by rw [eσ15]; exact PL_st (by with_reducible assumption) (by decide +kernel) (by decide +kernel)
        have t_37 := MI_f0 mσ15
        have hv_38 : vp_in (gi σ15 74 0) 6 := vp_in_iff.mpr ⟨by omega, by omega⟩
        refine ⟨hv_38, ?_⟩
        intro σ17 eσ17
        replace H := f_l eσ17 H
        have mσ17 : MI σ17 := by rw [eσ17]; exact MIs_au (a := 107) mσ15 rfl rfl
        have fσ17 : Fr [74, 103, 104, 105, 106, 107, 108, 109, 110] [0, 2] σ0 σ17 := by rw [eσ17]; exact Fr_si fσ15 (by decide +kernel) (fun h9 => absurd h9 (by decide +kernel))
        have k_39 : (gi σ17 74 0).toInt = (gi σ15 74 0).toInt := gk_l eσ17 rfl
        try have hP9 : PL σ17 := by rw [eσ17]; exact PL_st (by with_reducible assumption) (by decide +kernel) (by decide +kernel)
        have t_40 := MI_f0 mσ17
        have hv_41 : vp_in (gi σ17 74 0) 6 := vp_in_iff.mpr ⟨by omega, by omega⟩
        refine ⟨hv_41, ?_⟩
        intro σ19 eσ19
        replace H := f_l eσ19 H
        have mσ19 : MI σ19 := by rw [eσ19]; exact MIs_au (a := 108) mσ17 rfl rfl
        have fσ19 : Fr [74, 103, 104, 105, 106, 107, 108, 109, 110] [0, 2] σ0 σ19 := by rw [eσ19]; exact Fr_si fσ17 (by decide +kernel) (fun h9 => absurd h9 (by decide +kernel))
        have k_42 : (gi σ19 74 0).toInt = (gi σ17 74 0).toInt := gk_l eσ19 rfl
        try have hP9 : PL σ19 := by rw [eσ19]; exact PL_st (by with_reducible assumption) (by decide +kernel) (by decide +kernel)
        have t_43 := MI_f0 mσ19
        have hv_44 : vp_in (gi σ19 74 0) 6 := vp_in_iff.mpr ⟨by omega, by omega⟩
        refine ⟨hv_44, ?_⟩
        intro σ21 eσ21
        replace H := f_l eσ21 H
        have mσ21 : MI σ21 := by rw [eσ21]; exact MIs_a110 mσ19 (by omega) (by omega)
        have fσ21 : Fr [74, 103, 104, 105, 106, 107, 108, 109, 110] [0, 2] σ0 σ21 := by rw [eσ21]; exact Fr_si fσ19 (by decide +kernel) (fun h9 => absurd h9 (by decide +kernel))
        have k_45 : (gi σ21 74 0).toInt = (gi σ19 74 0).toInt := gk_l eσ21 rfl
        try have hP9 : PL σ21 := by rw [eσ21]; exact PL_st (by with_reducible assumption) (by decide +kernel) (by decide +kernel)
        exact U115 (0 : Int32) σ21 mσ21 fσ21 (by omega) (by omega) (by first | with_reducible assumption | with_reducible rfl | omega | assumption | rfl) (by first | with_reducible assumption | with_reducible rfl | omega | assumption | rfl) (by first | (rw [show (gi σ21 74 0).toInt + 1 = (gi σ19 74 0).toInt + 1 from by omega, eσ21]; exact PLx_new (by with_reducible assumption) (by omega) rfl) | (rw [show (gi σ5 74 0).toInt + 1 = (gi σ0 74 0).toInt + 1 from by omega, eσ5]; exact PLx_st i2 (by decide +kernel))) (by first | with_reducible assumption | with_reducible rfl | omega | assumption | rfl) (by first | with_reducible assumption | with_reducible rfl | omega | assumption | rfl) (by first | with_reducible assumption | with_reducible rfl | omega | assumption | rfl) (by first | with_reducible assumption | with_reducible rfl | omega | assumption | rfl) H (by omega)
      · intro q_22
        replace H := f_t q_22 H
        have t_46 := MI_f0 m0
        have b_47 : (gi σ0 74 0).toInt = 6 := congrArg Int32.toInt q_22
        have z_48 : (-4 : Int32).toInt = -4 := rfl
        exact h9ret (-4 : Int32) σ0 m0 f0 (by first | assumption | (show PLx σ3 (gi σ3 74 0).toInt; rw [show (gi σ3 74 0).toInt = (gi σ0 74 0).toInt + 1 from by omega, eσ3, eσ2]; exact PLx_st (PLx_st i2 (by decide +kernel)) (by decide +kernel))) (by first | with_reducible assumption | with_reducible rfl | omega | assumption | rfl) (by first | with_reducible assumption | with_reducible rfl | omega | assumption | rfl) (H0.trans H.symm)
    · intro q_20
      replace H := f_t q_20 H
      have b_49 : r5.toInt = 0 := congrArg Int32.toInt q_20
      have z_50 : (-2 : Int32).toInt = -2 := rfl
      exact h9ret (-2 : Int32) σ0 m0 f0 (by first | assumption | (show PLx σ3 (gi σ3 74 0).toInt; rw [show (gi σ3 74 0).toInt = (gi σ0 74 0).toInt + 1 from by omega, eσ3, eσ2]; exact PLx_st (PLx_st i2 (by decide +kernel)) (by decide +kernel))) (by first | with_reducible assumption | with_reducible rfl | omega | assumption | rfl) (by first | with_reducible assumption | with_reducible rfl | omega | assumption | rfl) (H0.trans H.symm)
  · intro q_18
    replace H := f_t q_18 H
    have b_51 : r2.toInt = 0 := congrArg Int32.toInt q_18
    have z_52 : (-1 : Int32).toInt = -1 := rfl
    exact h9ret (-1 : Int32) σ0 m0 f0 (by first | assumption | (show PLx σ3 (gi σ3 74 0).toInt; rw [show (gi σ3 74 0).toInt = (gi σ0 74 0).toInt + 1 from by omega, eσ3, eσ2]; exact PLx_st (PLx_st i2 (by decide +kernel)) (by decide +kernel))) (by first | with_reducible assumption | with_reducible rfl | omega | assumption | rfl) (by first | with_reducible assumption | with_reducible rfl | omega | assumption | rfl) (H0.trans H.symm)
