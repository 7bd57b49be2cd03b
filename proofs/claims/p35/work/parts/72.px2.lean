set_option maxRecDepth 100000 in
set_option maxHeartbeats 4000000 in
theorem k_X2_readsWord {l : Launch} {V : Vx} {c0 : Nat} {a1 : Int32} {σ0 : Sg} {Qk : Int32 → Sg → Prop} (hc0 : kd c0 = (12, 0)) (lc0 : c0 ∈ ids (V)) (m0 : XI V σ0) (pre0 : gr σ0 c0 9 = some 50) (h9ret : ∀ (r : Int32) (σ' : Sg), XI V σ' → FX (fun id => False) (fun id k => (id = c0 ∧ k = 11)) σ0 σ' → (0 ≤ r.toInt) → (r.toInt ≤ 1) → Qk r σ') : K_X2_readsWord l V c0 a1 σ0 Qk := by
  refine e_X2_readsWord (fun M hl hV hN C => ?_)
  subst hl
  subst hV
  have gc0 : hid _ := kdF_ge hc0
  have T : ∀ n : Nat, (∀ (x2 : Nat) (x3 : Int32) (σ : Sg) (hx2 : x2 < 8), XI (mV M) σ → FX (fun id => False) (fun id k => (id = c0 ∧ k = 11)) σ0 σ → (0 ≤ x3.toInt) → (x3.toInt ≤ 6) → (7 - x3.toInt).toNat < n → PS M 7 [(0, .ref c0), (2, .ref (200 + x2)), (3, .int x3)] [] σ (0, 0)) := by
    intro n
    induction n with
    | zero => exact fun _ _ _ _ _ _ _ _ h8 => absurd h8 (Nat.not_lt_zero _)
    | succ n ih =>
      have ih7 := ih
      · intro x2 x3 σ hx2 mσ fσ lx3 ux3 hmu
        have kr_c0_9 : gr σ c0 9 = some 50 := (FX_r fσ id (show ¬ ((c0 = c0 ∧ 9 = 11)) from by first | omega | (have ugc0 := un gc0; omega))).trans pre0
        have k_1 : (gi σ c0 10).toInt = (gi σ0 c0 10).toInt := congrArg Int32.toInt (FX_i fσ id (show ¬ ((c0 = c0 ∧ 10 = 11)) from by first | omega | (have ugc0 := un gc0; omega)))
        have t_2 := XI_c1 mσ (id := c0) (k := 10) (lim_F0_10 hc0)
        have t_3 := XI_c1 mσ (id := c0) (k := 11) (lim_F0_11 hc0)
        have hn := nI_slen hx2
        refine s_X2_readsWord_7 C hN hc0 lc0 hx2 ?_
        refine k_J0_length_8abf5 hx2 mσ   (fun r2 σ1 mσ1 cσ1 (pσ1_0 : r2.toInt = (slen x2 : Int)) => ?_)
        obtain rfl := FX_nil cσ1
        refine ⟨?_, ?_⟩
        · intro q_4
          have w_5 := Int32.toInt_lt r2
          have w_6 := Int32.le_toInt r2
          have b_7 : r2.toInt ≤ x3.toInt := Int32.le_iff_toInt_le.mp q_4
          have z_8 : (1 : Int32).toInt = 1 := rfl
          exact h9ret (1 : Int32) σ mσ fσ (by omega) (by omega)
        · intro q_4
          have w_9 := Int32.toInt_lt r2
          have w_10 := Int32.le_toInt r2
          have b_11 : ¬ r2.toInt ≤ x3.toInt := fun h9 => q_4 (Int32.le_iff_toInt_le.mpr h9)
          refine k_J0_charAt_5068e hx2 mσ  (vp_in_iff.mpr ⟨by omega, by omega⟩) (fun r5 σ4 mσ4 cσ4 (pσ4_0 : 32 ≤ r5.toInt ∧ r5.toInt ≤ 127) (pσ4_1 : r5 = sby x2 x3.toNatClampNeg) => ?_)
          obtain rfl := FX_nil cσ4
          refine k_X2_takes hc0 lc0 mσ  (by omega) (by omega) (by first | omega | assumption | rfl) (fun r7 σ6 mσ6 cσ6 plσ6 phσ6 => ?_)
          have fσ6 : FX (fun id => False) (fun id k => (id = c0 ∧ k = 11)) σ0 σ6 := FX_tr fσ cσ6 (fun _ h9 => h9.elim) (fun x k (h9 : (x = c0 ∧ k = 11)) => (show (False) ∨ ((x = c0 ∧ k = 11)) from Or.inr (show (x = c0 ∧ k = 11) from h9)))
          have k_12 : (gi σ6 c0 10).toInt = (gi σ c0 10).toInt := congrArg Int32.toInt (FX_i cσ6 id (show ¬ ((c0 = c0 ∧ 10 = 11)) from by first | omega | (have ugc0 := un gc0; omega)))
          have t_13 := XI_c1 mσ6 (id := c0) (k := 11) (lim_F0_11 hc0)
          have kr_14 : gr σ6 c0 9 = some 50 := (FX_r cσ6 id (show ¬ ((c0 = c0 ∧ 9 = 11)) from by first | omega | (have ugc0 := un gc0; omega))).trans kr_c0_9
          refine ⟨?_, ?_⟩
          · intro q_15
            have b_16 : ¬ r7.toInt = 0 := fun h9 => q_15 (Int32.toInt_inj.mp h9)
            intro v9 ev9
            have t_17 : (x3 + (1 : Int32)).toInt = x3.toInt + 1 := i_add (x := x3) (y := (1 : Int32)) (by show (_ : Int) ≤ x3.toInt + 1; omega) (by show x3.toInt + 1 ≤ (_ : Int); omega)
            have t_18 : v9.toInt = (x3 + (1 : Int32)).toInt := congrArg Int32.toInt ev9
            exact ih7 x2 v9 σ6 hx2 mσ6 fσ6 (by omega) (by omega) (by omega)
          · intro q_15
            have b_19 : r7.toInt = 0 := congrArg Int32.toInt q_15
            have z_20 : (0 : Int32).toInt = 0 := rfl
            exact h9ret (0 : Int32) σ6 mσ6 fσ6 (by omega) (by omega)
  have U7 := T 9
  have f0 : FX (fun id => False) (fun id k => (id = c0 ∧ k = 11)) σ0 σ0 := FX_rf
  have t_21 := XI_c1 m0 (id := c0) (k := 10) (lim_F0_10 hc0)
  have t_22 := XI_c1 m0 (id := c0) (k := 11) (lim_F0_11 hc0)
  refine s_X2_readsWord_0 C hN hc0 lc0 ?_
  refine k_X2_wordOf m0 (fun b9 σ1 m9 c9 p9 => ?_)
  obtain rfl := FX_nil c9
  obtain ⟨a2, ea9, ha2⟩ := p9
  refine ⟨a2, ea9, ha2, ?_⟩
  have hna2 := nI_slen ha2
  have z_23 : (0 : Int32).toInt = 0 := rfl
  exact U7 a2 (0 : Int32) σ0 ha2 m0 f0 (by omega) (by omega) (by omega)
set_option maxRecDepth 100000 in
set_option maxHeartbeats 4000000 in
theorem k_X2_readsPart_r4 {l : Launch} {V : Vx} {c0 : Nat} {a1 : Int32} {σ0 : Sg} {Qk : Int32 → Sg → Prop} (hc0 : kd c0 = (12, 0)) (lc0 : c0 ∈ ids (V)) (m0 : XI V σ0) (l_a1 : 4 ≤ a1.toInt) (u_a1 : a1.toInt ≤ 4) (pre0 : gr σ0 c0 9 = some 50) (h9ret : ∀ (r : Int32) (σ' : Sg), XI V σ' → FX (fun id => id = c0 + 1) (fun id k => (id = c0 ∧ k = 4) ∨ (id = c0 ∧ k = 11)) σ0 σ' → (0 ≤ r.toInt) → (r.toInt ≤ 1) → Qk r σ') : K_X2_readsPart_r4 l V c0 a1 σ0 Qk := by
  refine e_X2_readsPart_r4 (fun M hl hV hN C => ?_)
  subst hl
  subst hV
  have gc0 : hid _ := kdF_ge hc0
  have T : ∀ n : Nat, (∀ (x1 : Int32) (σ : Sg), XI (mV M) σ → FX (fun id => id = c0 + 1) (fun id k => (id = c0 ∧ k = 4) ∨ (id = c0 ∧ k = 11)) σ0 σ → (4 ≤ x1.toInt) → (x1.toInt ≤ 4) → 1 < n → PS M 33 [(0, .ref c0), (1, .int x1)] [] σ (0, 0)) := by
    intro n
    induction n with
    | zero => exact fun _ _ _ _ _ _ h8 => absurd h8 (Nat.not_lt_zero _)
    | succ n ih =>
      have ih33 := ih
      · intro x1 σ mσ fσ lx1 ux1 hmu
        have kr_c0_9 : gr σ c0 9 = some 50 := (FX_r fσ (show ¬ (c0 = c0 + 1) from by first | omega | (have ugc0 := un gc0; omega)) (show ¬ ((c0 = c0 ∧ 9 = 4) ∨ (c0 = c0 ∧ 9 = 11)) from by first | omega | (have ugc0 := un gc0; omega))).trans pre0
        have k_1 : (gi σ c0 10).toInt = (gi σ0 c0 10).toInt := congrArg Int32.toInt (FX_i fσ (show ¬ (c0 = c0 + 1) from by first | omega | (have ugc0 := un gc0; omega)) (show ¬ ((c0 = c0 ∧ 10 = 4) ∨ (c0 = c0 ∧ 10 = 11)) from by first | omega | (have ugc0 := un gc0; omega)))
        have t_2 := XI_c1 mσ (id := c0) (k := 10) (lim_F0_10 hc0)
        have t_3 := XI_c1 mσ (id := c0) (k := 11) (lim_F0_11 hc0)
        refine s_X2_readsPart_r4_33 C hN hc0 lc0 ?_
        refine ⟨?_, ?_⟩
        · intro q_4
          have b_5 : (4 : Int) ≤ x1.toInt := Int32.le_iff_toInt_le.mp q_4
          refine k_X2_readsTest hc0 lc0 mσ  (by first | omega | assumption | rfl) (fun r3 σ2 mσ2 cσ2 plσ2 phσ2 => ?_)
          have fσ2 : FX (fun id => id = c0 + 1) (fun id k => (id = c0 ∧ k = 4) ∨ (id = c0 ∧ k = 11)) σ0 σ2 := FX_tr fσ cσ2 (fun x (h9 : x = c0 + 1) => (show x = c0 + 1 from h9)) (fun x k (h9 : (x = c0 ∧ k = 4) ∨ (x = c0 ∧ k = 11)) => (show (x = c0 + 1) ∨ ((x = c0 ∧ k = 4) ∨ (x = c0 ∧ k = 11)) from h9.elim (fun e9 => Or.inr (show (x = c0 ∧ k = 4) ∨ (x = c0 ∧ k = 11) from Or.inl (e9))) (fun h9 => Or.inr (show (x = c0 ∧ k = 4) ∨ (x = c0 ∧ k = 11) from Or.inr (h9)))))
          have k_6 : (gi σ2 c0 10).toInt = (gi σ c0 10).toInt := congrArg Int32.toInt (FX_i cσ2 (show ¬ (c0 = c0 + 1) from by first | omega | (have ugc0 := un gc0; omega)) (show ¬ ((c0 = c0 ∧ 10 = 4) ∨ (c0 = c0 ∧ 10 = 11)) from by first | omega | (have ugc0 := un gc0; omega)))
          have t_7 := XI_c1 mσ2 (id := c0) (k := 11) (lim_F0_11 hc0)
          have kr_8 : gr σ2 c0 9 = some 50 := (FX_r cσ2 (show ¬ (c0 = c0 + 1) from by first | omega | (have ugc0 := un gc0; omega)) (show ¬ ((c0 = c0 ∧ 9 = 4) ∨ (c0 = c0 ∧ 9 = 11)) from by first | omega | (have ugc0 := un gc0; omega))).trans kr_c0_9
          refine ⟨i_bool (by omega) (by omega), ?_⟩
          exact h9ret r3 σ2 mσ2 fσ2 (by omega) (by omega)
        · intro q_4
          have b_9 : ¬ (4 : Int) ≤ x1.toInt := fun h9 => q_4 (Int32.le_iff_toInt_le.mpr h9)
          have z_10 : (40 : Int32).toInt = 40 := rfl
          refine k_X2_takes hc0 lc0 mσ  (by omega) (by omega) (by first | omega | assumption | rfl) (fun r5 σ4 mσ4 cσ4 plσ4 phσ4 => ?_)
          have fσ4 : FX (fun id => id = c0 + 1) (fun id k => (id = c0 ∧ k = 4) ∨ (id = c0 ∧ k = 11)) σ0 σ4 := FX_tr fσ cσ4 (fun _ h9 => h9.elim) (fun x k (h9 : (x = c0 ∧ k = 11)) => (show (x = c0 + 1) ∨ ((x = c0 ∧ k = 4) ∨ (x = c0 ∧ k = 11)) from Or.inr (show (x = c0 ∧ k = 4) ∨ (x = c0 ∧ k = 11) from Or.inr (h9))))
          have k_11 : (gi σ4 c0 10).toInt = (gi σ c0 10).toInt := congrArg Int32.toInt (FX_i cσ4 id (show ¬ ((c0 = c0 ∧ 10 = 11)) from by first | omega | (have ugc0 := un gc0; omega)))
          have t_12 := XI_c1 mσ4 (id := c0) (k := 11) (lim_F0_11 hc0)
          have kr_13 : gr σ4 c0 9 = some 50 := (FX_r cσ4 id (show ¬ ((c0 = c0 ∧ 9 = 11)) from by first | omega | (have ugc0 := un gc0; omega))).trans kr_c0_9
          refine ⟨?_, ?_⟩
          · intro q_14
            have b_15 : r5.toInt = 0 := congrArg Int32.toInt q_14
            refine k_X2_readsTest hc0 lc0 mσ4  (by first | omega | assumption | rfl) (fun r8 σ7 mσ7 cσ7 plσ7 phσ7 => ?_)
            have fσ7 : FX (fun id => id = c0 + 1) (fun id k => (id = c0 ∧ k = 4) ∨ (id = c0 ∧ k = 11)) σ0 σ7 := FX_tr fσ4 cσ7 (fun x (h9 : x = c0 + 1) => (show x = c0 + 1 from h9)) (fun x k (h9 : (x = c0 ∧ k = 4) ∨ (x = c0 ∧ k = 11)) => (show (x = c0 + 1) ∨ ((x = c0 ∧ k = 4) ∨ (x = c0 ∧ k = 11)) from h9.elim (fun e9 => Or.inr (show (x = c0 ∧ k = 4) ∨ (x = c0 ∧ k = 11) from Or.inl (e9))) (fun h9 => Or.inr (show (x = c0 ∧ k = 4) ∨ (x = c0 ∧ k = 11) from Or.inr (h9)))))
            have k_16 : (gi σ7 c0 10).toInt = (gi σ4 c0 10).toInt := congrArg Int32.toInt (FX_i cσ7 (show ¬ (c0 = c0 + 1) from by first | omega | (have ugc0 := un gc0; omega)) (show ¬ ((c0 = c0 ∧ 10 = 4) ∨ (c0 = c0 ∧ 10 = 11)) from by first | omega | (have ugc0 := un gc0; omega)))
            have t_17 := XI_c1 mσ7 (id := c0) (k := 11) (lim_F0_11 hc0)
            have kr_18 : gr σ7 c0 9 = some 50 := (FX_r cσ7 (show ¬ (c0 = c0 + 1) from by first | omega | (have ugc0 := un gc0; omega)) (show ¬ ((c0 = c0 ∧ 9 = 4) ∨ (c0 = c0 ∧ 9 = 11)) from by first | omega | (have ugc0 := un gc0; omega))).trans kr_13
            refine ⟨i_bool (by omega) (by omega), ?_⟩
            exact h9ret r8 σ7 mσ7 fσ7 (by omega) (by omega)
          · intro q_14
            have b_19 : ¬ r5.toInt = 0 := fun h9 => q_14 (Int32.toInt_inj.mp h9)
            exfalso; omega
  have U33 := T 9
  have f0 : FX (fun id => id = c0 + 1) (fun id k => (id = c0 ∧ k = 4) ∨ (id = c0 ∧ k = 11)) σ0 σ0 := FX_rf
  have t_20 := XI_c1 m0 (id := c0) (k := 10) (lim_F0_10 hc0)
  have t_21 := XI_c1 m0 (id := c0) (k := 11) (lim_F0_11 hc0)
  refine s_X2_readsPart_r4_0 C hN hc0 lc0 ?_
  refine ⟨?_, ?_⟩
  · intro q_22
    have b_23 : (4 : Int) ≤ a1.toInt := Int32.le_iff_toInt_le.mp q_22
    exact U33 a1 σ0 m0 f0 (by omega) (by omega) (by omega)
  · intro q_22
    have b_24 : ¬ (4 : Int) ≤ a1.toInt := fun h9 => q_22 (Int32.le_iff_toInt_le.mpr h9)
    have z_25 : (33 : Int32).toInt = 33 := rfl
    refine k_X2_takes hc0 lc0 m0  (by omega) (by omega) (by first | omega | assumption | rfl) (fun r3 σ2 mσ2 cσ2 plσ2 phσ2 => ?_)
    have fσ2 : FX (fun id => id = c0 + 1) (fun id k => (id = c0 ∧ k = 4) ∨ (id = c0 ∧ k = 11)) σ0 σ2 := FX_tr f0 cσ2 (fun _ h9 => h9.elim) (fun x k (h9 : (x = c0 ∧ k = 11)) => (show (x = c0 + 1) ∨ ((x = c0 ∧ k = 4) ∨ (x = c0 ∧ k = 11)) from Or.inr (show (x = c0 ∧ k = 4) ∨ (x = c0 ∧ k = 11) from Or.inr (h9))))
    have k_26 : (gi σ2 c0 10).toInt = (gi σ0 c0 10).toInt := congrArg Int32.toInt (FX_i cσ2 id (show ¬ ((c0 = c0 ∧ 10 = 11)) from by first | omega | (have ugc0 := un gc0; omega)))
    have t_27 := XI_c1 mσ2 (id := c0) (k := 11) (lim_F0_11 hc0)
    have kr_28 : gr σ2 c0 9 = some 50 := (FX_r cσ2 id (show ¬ ((c0 = c0 ∧ 9 = 11)) from by first | omega | (have ugc0 := un gc0; omega))).trans pre0
    refine ⟨?_, ?_⟩
    · intro q_29
      have b_30 : r3.toInt = 0 := congrArg Int32.toInt q_29
      exact U33 a1 σ2 mσ2 fσ2 (by omega) (by omega) (by omega)
    · intro q_29
      have b_31 : ¬ r3.toInt = 0 := fun h9 => q_29 (Int32.toInt_inj.mp h9)
      exfalso; omega
set_option maxRecDepth 100000 in
set_option maxHeartbeats 4000000 in
theorem k_X2_readsBoth_r4 {l : Launch} {V : Vx} {c0 : Nat} {a1 : Int32} {σ0 : Sg} {Qk : Int32 → Sg → Prop} (hc0 : kd c0 = (12, 0)) (lc0 : c0 ∈ ids (V)) (m0 : XI V σ0) (l_a1 : 4 ≤ a1.toInt) (u_a1 : a1.toInt ≤ 4) (pre0 : gr σ0 c0 9 = some 50) (h9ret : ∀ (r : Int32) (σ' : Sg), XI V σ' → FX (fun id => id = c0 + 1) (fun id k => (id = c0 ∧ k = 4) ∨ (id = c0 ∧ k = 11)) σ0 σ' → (0 ≤ r.toInt) → (r.toInt ≤ 1) → Qk r σ') : K_X2_readsBoth_r4 l V c0 a1 σ0 Qk := by
  refine e_X2_readsBoth_r4 (fun M hl hV hN C => ?_)
  subst hl
  subst hV
  have gc0 : hid _ := kdF_ge hc0
  have T : ∀ n : Nat, (∀ (x1 : Int32) (x2 : Int32) (σ : Sg), XI (mV M) σ → FX (fun id => id = c0 + 1) (fun id k => (id = c0 ∧ k = 4) ∨ (id = c0 ∧ k = 11)) σ0 σ → (4 ≤ x1.toInt) → (x1.toInt ≤ 4) → (0 ≤ x2.toInt) → (x2.toInt ≤ 100) → (101 - x2.toInt).toNat < n → PS M 12 [(0, .ref c0), (1, .int x1), (2, .int x2)] [] σ (0, 0)) := by
    intro n
    induction n with
    | zero => exact fun _ _ _ _ _ _ _ _ _ h8 => absurd h8 (Nat.not_lt_zero _)
    | succ n ih =>
      have ih12 := ih
      · intro x1 x2 σ mσ fσ lx1 ux1 lx2 ux2 hmu
        have kr_c0_9 : gr σ c0 9 = some 50 := (FX_r fσ (show ¬ (c0 = c0 + 1) from by first | omega | (have ugc0 := un gc0; omega)) (show ¬ ((c0 = c0 ∧ 9 = 4) ∨ (c0 = c0 ∧ 9 = 11)) from by first | omega | (have ugc0 := un gc0; omega))).trans pre0
        have k_1 : (gi σ c0 10).toInt = (gi σ0 c0 10).toInt := congrArg Int32.toInt (FX_i fσ (show ¬ (c0 = c0 + 1) from by first | omega | (have ugc0 := un gc0; omega)) (show ¬ ((c0 = c0 ∧ 10 = 4) ∨ (c0 = c0 ∧ 10 = 11)) from by first | omega | (have ugc0 := un gc0; omega)))
        have t_2 := XI_c1 mσ (id := c0) (k := 10) (lim_F0_10 hc0)
        have t_3 := XI_c1 mσ (id := c0) (k := 11) (lim_F0_11 hc0)
        refine s_X2_readsBoth_r4_12 C hN hc0 lc0 ?_
        refine ⟨?_, ?_⟩
        · intro q_4
          have b_5 : (100 : Int) ≤ x2.toInt := Int32.le_iff_toInt_le.mp q_4
          have z_6 : (1 : Int32).toInt = 1 := rfl
          exact h9ret (1 : Int32) σ mσ fσ (by omega) (by omega)
        · intro q_4
          have b_7 : ¬ (100 : Int) ≤ x2.toInt := fun h9 => q_4 (Int32.le_iff_toInt_le.mpr h9)
          have z_8 : (38 : Int32).toInt = 38 := rfl
          refine k_X2_takes hc0 lc0 mσ  (by omega) (by omega) (by first | omega | assumption | rfl) (fun r3 σ2 mσ2 cσ2 plσ2 phσ2 => ?_)
          have fσ2 : FX (fun id => id = c0 + 1) (fun id k => (id = c0 ∧ k = 4) ∨ (id = c0 ∧ k = 11)) σ0 σ2 := FX_tr fσ cσ2 (fun _ h9 => h9.elim) (fun x k (h9 : (x = c0 ∧ k = 11)) => (show (x = c0 + 1) ∨ ((x = c0 ∧ k = 4) ∨ (x = c0 ∧ k = 11)) from Or.inr (show (x = c0 ∧ k = 4) ∨ (x = c0 ∧ k = 11) from Or.inr (h9))))
          have k_9 : (gi σ2 c0 10).toInt = (gi σ c0 10).toInt := congrArg Int32.toInt (FX_i cσ2 id (show ¬ ((c0 = c0 ∧ 10 = 11)) from by first | omega | (have ugc0 := un gc0; omega)))
          have t_10 := XI_c1 mσ2 (id := c0) (k := 11) (lim_F0_11 hc0)
          have kr_11 : gr σ2 c0 9 = some 50 := (FX_r cσ2 id (show ¬ ((c0 = c0 ∧ 9 = 11)) from by first | omega | (have ugc0 := un gc0; omega))).trans kr_c0_9
          refine ⟨?_, ?_⟩
          · intro q_12
            have b_13 : r3.toInt = 0 := congrArg Int32.toInt q_12
            have z_14 : (1 : Int32).toInt = 1 := rfl
            exact h9ret (1 : Int32) σ2 mσ2 fσ2 (by omega) (by omega)
          · intro q_12
            have b_15 : ¬ r3.toInt = 0 := fun h9 => q_12 (Int32.toInt_inj.mp h9)
            refine k_X2_readsPart_r4 hc0 lc0 mσ2  (by omega) (by omega) (by first | omega | assumption | rfl) (fun r6 σ5 mσ5 cσ5 plσ5 phσ5 => ?_)
            have fσ5 : FX (fun id => id = c0 + 1) (fun id k => (id = c0 ∧ k = 4) ∨ (id = c0 ∧ k = 11)) σ0 σ5 := FX_tr fσ2 cσ5 (fun x (h9 : x = c0 + 1) => (show x = c0 + 1 from h9)) (fun x k (h9 : (x = c0 ∧ k = 4) ∨ (x = c0 ∧ k = 11)) => (show (x = c0 + 1) ∨ ((x = c0 ∧ k = 4) ∨ (x = c0 ∧ k = 11)) from h9.elim (fun e9 => Or.inr (show (x = c0 ∧ k = 4) ∨ (x = c0 ∧ k = 11) from Or.inl (e9))) (fun h9 => Or.inr (show (x = c0 ∧ k = 4) ∨ (x = c0 ∧ k = 11) from Or.inr (h9)))))
            have k_16 : (gi σ5 c0 10).toInt = (gi σ2 c0 10).toInt := congrArg Int32.toInt (FX_i cσ5 (show ¬ (c0 = c0 + 1) from by first | omega | (have ugc0 := un gc0; omega)) (show ¬ ((c0 = c0 ∧ 10 = 4) ∨ (c0 = c0 ∧ 10 = 11)) from by first | omega | (have ugc0 := un gc0; omega)))
            have t_17 := XI_c1 mσ5 (id := c0) (k := 11) (lim_F0_11 hc0)
            have kr_18 : gr σ5 c0 9 = some 50 := (FX_r cσ5 (show ¬ (c0 = c0 + 1) from by first | omega | (have ugc0 := un gc0; omega)) (show ¬ ((c0 = c0 ∧ 9 = 4) ∨ (c0 = c0 ∧ 9 = 11)) from by first | omega | (have ugc0 := un gc0; omega))).trans kr_11
            refine ⟨?_, ?_⟩
            · intro q_19
              have b_20 : ¬ r6.toInt = 0 := fun h9 => q_19 (Int32.toInt_inj.mp h9)
              have z_21 : (-2 : Int32).toInt = -2 := rfl
              refine k_X2_writes hc0 lc0 mσ5  (by omega) (by omega) (fun σ8 mσ8 cσ8 => ?_)
              have fσ8 : FX (fun id => id = c0 + 1) (fun id k => (id = c0 ∧ k = 4) ∨ (id = c0 ∧ k = 11)) σ0 σ8 := FX_tr fσ5 cσ8 (fun x (h9 : x = c0 + 1) => (show x = c0 + 1 from h9)) (fun x k (h9 : (x = c0 ∧ k = 4)) => (show (x = c0 + 1) ∨ ((x = c0 ∧ k = 4) ∨ (x = c0 ∧ k = 11)) from Or.inr (show (x = c0 ∧ k = 4) ∨ (x = c0 ∧ k = 11) from Or.inl (h9))))
              have k_22 : (gi σ8 c0 10).toInt = (gi σ5 c0 10).toInt := congrArg Int32.toInt (FX_i cσ8 (show ¬ (c0 = c0 + 1) from by first | omega | (have ugc0 := un gc0; omega)) (show ¬ ((c0 = c0 ∧ 10 = 4)) from by first | omega | (have ugc0 := un gc0; omega)))
              have k_23 : (gi σ8 c0 11).toInt = (gi σ5 c0 11).toInt := congrArg Int32.toInt (FX_i cσ8 (show ¬ (c0 = c0 + 1) from by first | omega | (have ugc0 := un gc0; omega)) (show ¬ ((c0 = c0 ∧ 11 = 4)) from by first | omega | (have ugc0 := un gc0; omega)))
              have kr_24 : gr σ8 c0 9 = some 50 := (FX_r cσ8 (show ¬ (c0 = c0 + 1) from by first | omega | (have ugc0 := un gc0; omega)) (show ¬ ((c0 = c0 ∧ 9 = 4)) from by first | omega | (have ugc0 := un gc0; omega))).trans kr_18
              intro v9 ev9
              have t_25 : (x2 + (1 : Int32)).toInt = x2.toInt + 1 := i_add (x := x2) (y := (1 : Int32)) (by show (_ : Int) ≤ x2.toInt + 1; omega) (by show x2.toInt + 1 ≤ (_ : Int); omega)
              have t_26 : v9.toInt = (x2 + (1 : Int32)).toInt := congrArg Int32.toInt ev9
              exact ih12 x1 v9 σ8 mσ8 fσ8 (by omega) (by omega) (by omega) (by omega) (by omega)
            · intro q_19
              have b_27 : r6.toInt = 0 := congrArg Int32.toInt q_19
              have z_28 : (0 : Int32).toInt = 0 := rfl
              exact h9ret (0 : Int32) σ5 mσ5 fσ5 (by omega) (by omega)
  have U12 := T 200
  have f0 : FX (fun id => id = c0 + 1) (fun id k => (id = c0 ∧ k = 4) ∨ (id = c0 ∧ k = 11)) σ0 σ0 := FX_rf
  have t_29 := XI_c1 m0 (id := c0) (k := 10) (lim_F0_10 hc0)
  have t_30 := XI_c1 m0 (id := c0) (k := 11) (lim_F0_11 hc0)
  refine s_X2_readsBoth_r4_0 C hN hc0 lc0 ?_
  refine k_X2_readsPart_r4 hc0 lc0 m0  (by omega) (by omega) (by first | omega | assumption | rfl) (fun r2 σ1 mσ1 cσ1 plσ1 phσ1 => ?_)
  have fσ1 : FX (fun id => id = c0 + 1) (fun id k => (id = c0 ∧ k = 4) ∨ (id = c0 ∧ k = 11)) σ0 σ1 := FX_tr f0 cσ1 (fun x (h9 : x = c0 + 1) => (show x = c0 + 1 from h9)) (fun x k (h9 : (x = c0 ∧ k = 4) ∨ (x = c0 ∧ k = 11)) => (show (x = c0 + 1) ∨ ((x = c0 ∧ k = 4) ∨ (x = c0 ∧ k = 11)) from h9.elim (fun e9 => Or.inr (show (x = c0 ∧ k = 4) ∨ (x = c0 ∧ k = 11) from Or.inl (e9))) (fun h9 => Or.inr (show (x = c0 ∧ k = 4) ∨ (x = c0 ∧ k = 11) from Or.inr (h9)))))
  have k_31 : (gi σ1 c0 10).toInt = (gi σ0 c0 10).toInt := congrArg Int32.toInt (FX_i cσ1 (show ¬ (c0 = c0 + 1) from by first | omega | (have ugc0 := un gc0; omega)) (show ¬ ((c0 = c0 ∧ 10 = 4) ∨ (c0 = c0 ∧ 10 = 11)) from by first | omega | (have ugc0 := un gc0; omega)))
  have t_32 := XI_c1 mσ1 (id := c0) (k := 11) (lim_F0_11 hc0)
  have kr_33 : gr σ1 c0 9 = some 50 := (FX_r cσ1 (show ¬ (c0 = c0 + 1) from by first | omega | (have ugc0 := un gc0; omega)) (show ¬ ((c0 = c0 ∧ 9 = 4) ∨ (c0 = c0 ∧ 9 = 11)) from by first | omega | (have ugc0 := un gc0; omega))).trans pre0
  refine ⟨?_, ?_⟩
  · intro q_34
    have b_35 : ¬ r2.toInt = 0 := fun h9 => q_34 (Int32.toInt_inj.mp h9)
    have z_36 : (0 : Int32).toInt = 0 := rfl
    exact U12 a1 (0 : Int32) σ1 mσ1 fσ1 (by omega) (by omega) (by omega) (by omega) (by omega)
  · intro q_34
    have b_37 : r2.toInt = 0 := congrArg Int32.toInt q_34
    have z_38 : (0 : Int32).toInt = 0 := rfl
    exact h9ret (0 : Int32) σ1 mσ1 fσ1 (by omega) (by omega)
set_option maxRecDepth 100000 in
set_option maxHeartbeats 4000000 in
theorem k_X2_readsEither_r4 {l : Launch} {V : Vx} {c0 : Nat} {a1 : Int32} {σ0 : Sg} {Qk : Int32 → Sg → Prop} (hc0 : kd c0 = (12, 0)) (lc0 : c0 ∈ ids (V)) (m0 : XI V σ0) (l_a1 : 4 ≤ a1.toInt) (u_a1 : a1.toInt ≤ 4) (pre0 : gr σ0 c0 9 = some 50) (h9ret : ∀ (r : Int32) (σ' : Sg), XI V σ' → FX (fun id => id = c0 + 1) (fun id k => (id = c0 ∧ k = 4) ∨ (id = c0 ∧ k = 11)) σ0 σ' → (0 ≤ r.toInt) → (r.toInt ≤ 1) → Qk r σ') : K_X2_readsEither_r4 l V c0 a1 σ0 Qk := by
  refine e_X2_readsEither_r4 (fun M hl hV hN C => ?_)
  subst hl
  subst hV
  have gc0 : hid _ := kdF_ge hc0
  have T : ∀ n : Nat, (∀ (x1 : Int32) (x2 : Int32) (σ : Sg), XI (mV M) σ → FX (fun id => id = c0 + 1) (fun id k => (id = c0 ∧ k = 4) ∨ (id = c0 ∧ k = 11)) σ0 σ → (4 ≤ x1.toInt) → (x1.toInt ≤ 4) → (0 ≤ x2.toInt) → (x2.toInt ≤ 100) → (101 - x2.toInt).toNat < n → PS M 12 [(0, .ref c0), (1, .int x1), (2, .int x2)] [] σ (0, 0)) := by
    intro n
    induction n with
    | zero => exact fun _ _ _ _ _ _ _ _ _ h8 => absurd h8 (Nat.not_lt_zero _)
    | succ n ih =>
      have ih12 := ih
      · intro x1 x2 σ mσ fσ lx1 ux1 lx2 ux2 hmu
        have kr_c0_9 : gr σ c0 9 = some 50 := (FX_r fσ (show ¬ (c0 = c0 + 1) from by first | omega | (have ugc0 := un gc0; omega)) (show ¬ ((c0 = c0 ∧ 9 = 4) ∨ (c0 = c0 ∧ 9 = 11)) from by first | omega | (have ugc0 := un gc0; omega))).trans pre0
        have k_1 : (gi σ c0 10).toInt = (gi σ0 c0 10).toInt := congrArg Int32.toInt (FX_i fσ (show ¬ (c0 = c0 + 1) from by first | omega | (have ugc0 := un gc0; omega)) (show ¬ ((c0 = c0 ∧ 10 = 4) ∨ (c0 = c0 ∧ 10 = 11)) from by first | omega | (have ugc0 := un gc0; omega)))
        have t_2 := XI_c1 mσ (id := c0) (k := 10) (lim_F0_10 hc0)
        have t_3 := XI_c1 mσ (id := c0) (k := 11) (lim_F0_11 hc0)
        refine s_X2_readsEither_r4_12 C hN hc0 lc0 ?_
        refine ⟨?_, ?_⟩
        · intro q_4
          have b_5 : (100 : Int) ≤ x2.toInt := Int32.le_iff_toInt_le.mp q_4
          have z_6 : (1 : Int32).toInt = 1 := rfl
          exact h9ret (1 : Int32) σ mσ fσ (by omega) (by omega)
        · intro q_4
          have b_7 : ¬ (100 : Int) ≤ x2.toInt := fun h9 => q_4 (Int32.le_iff_toInt_le.mpr h9)
          have z_8 : (124 : Int32).toInt = 124 := rfl
          refine k_X2_takes hc0 lc0 mσ  (by omega) (by omega) (by first | omega | assumption | rfl) (fun r3 σ2 mσ2 cσ2 plσ2 phσ2 => ?_)
          have fσ2 : FX (fun id => id = c0 + 1) (fun id k => (id = c0 ∧ k = 4) ∨ (id = c0 ∧ k = 11)) σ0 σ2 := FX_tr fσ cσ2 (fun _ h9 => h9.elim) (fun x k (h9 : (x = c0 ∧ k = 11)) => (show (x = c0 + 1) ∨ ((x = c0 ∧ k = 4) ∨ (x = c0 ∧ k = 11)) from Or.inr (show (x = c0 ∧ k = 4) ∨ (x = c0 ∧ k = 11) from Or.inr (h9))))
          have k_9 : (gi σ2 c0 10).toInt = (gi σ c0 10).toInt := congrArg Int32.toInt (FX_i cσ2 id (show ¬ ((c0 = c0 ∧ 10 = 11)) from by first | omega | (have ugc0 := un gc0; omega)))
          have t_10 := XI_c1 mσ2 (id := c0) (k := 11) (lim_F0_11 hc0)
          have kr_11 : gr σ2 c0 9 = some 50 := (FX_r cσ2 id (show ¬ ((c0 = c0 ∧ 9 = 11)) from by first | omega | (have ugc0 := un gc0; omega))).trans kr_c0_9
          refine ⟨?_, ?_⟩
          · intro q_12
            have b_13 : r3.toInt = 0 := congrArg Int32.toInt q_12
            have z_14 : (1 : Int32).toInt = 1 := rfl
            exact h9ret (1 : Int32) σ2 mσ2 fσ2 (by omega) (by omega)
          · intro q_12
            have b_15 : ¬ r3.toInt = 0 := fun h9 => q_12 (Int32.toInt_inj.mp h9)
            refine k_X2_readsBoth_r4 hc0 lc0 mσ2  (by omega) (by omega) (by first | omega | assumption | rfl) (fun r6 σ5 mσ5 cσ5 plσ5 phσ5 => ?_)
            have fσ5 : FX (fun id => id = c0 + 1) (fun id k => (id = c0 ∧ k = 4) ∨ (id = c0 ∧ k = 11)) σ0 σ5 := FX_tr fσ2 cσ5 (fun x (h9 : x = c0 + 1) => (show x = c0 + 1 from h9)) (fun x k (h9 : (x = c0 ∧ k = 4) ∨ (x = c0 ∧ k = 11)) => (show (x = c0 + 1) ∨ ((x = c0 ∧ k = 4) ∨ (x = c0 ∧ k = 11)) from h9.elim (fun e9 => Or.inr (show (x = c0 ∧ k = 4) ∨ (x = c0 ∧ k = 11) from Or.inl (e9))) (fun h9 => Or.inr (show (x = c0 ∧ k = 4) ∨ (x = c0 ∧ k = 11) from Or.inr (h9)))))
            have k_16 : (gi σ5 c0 10).toInt = (gi σ2 c0 10).toInt := congrArg Int32.toInt (FX_i cσ5 (show ¬ (c0 = c0 + 1) from by first | omega | (have ugc0 := un gc0; omega)) (show ¬ ((c0 = c0 ∧ 10 = 4) ∨ (c0 = c0 ∧ 10 = 11)) from by first | omega | (have ugc0 := un gc0; omega)))
            have t_17 := XI_c1 mσ5 (id := c0) (k := 11) (lim_F0_11 hc0)
            have kr_18 : gr σ5 c0 9 = some 50 := (FX_r cσ5 (show ¬ (c0 = c0 + 1) from by first | omega | (have ugc0 := un gc0; omega)) (show ¬ ((c0 = c0 ∧ 9 = 4) ∨ (c0 = c0 ∧ 9 = 11)) from by first | omega | (have ugc0 := un gc0; omega))).trans kr_11
            refine ⟨?_, ?_⟩
            · intro q_19
              have b_20 : ¬ r6.toInt = 0 := fun h9 => q_19 (Int32.toInt_inj.mp h9)
              have z_21 : (-3 : Int32).toInt = -3 := rfl
              refine k_X2_writes hc0 lc0 mσ5  (by omega) (by omega) (fun σ8 mσ8 cσ8 => ?_)
              have fσ8 : FX (fun id => id = c0 + 1) (fun id k => (id = c0 ∧ k = 4) ∨ (id = c0 ∧ k = 11)) σ0 σ8 := FX_tr fσ5 cσ8 (fun x (h9 : x = c0 + 1) => (show x = c0 + 1 from h9)) (fun x k (h9 : (x = c0 ∧ k = 4)) => (show (x = c0 + 1) ∨ ((x = c0 ∧ k = 4) ∨ (x = c0 ∧ k = 11)) from Or.inr (show (x = c0 ∧ k = 4) ∨ (x = c0 ∧ k = 11) from Or.inl (h9))))
              have k_22 : (gi σ8 c0 10).toInt = (gi σ5 c0 10).toInt := congrArg Int32.toInt (FX_i cσ8 (show ¬ (c0 = c0 + 1) from by first | omega | (have ugc0 := un gc0; omega)) (show ¬ ((c0 = c0 ∧ 10 = 4)) from by first | omega | (have ugc0 := un gc0; omega)))
              have k_23 : (gi σ8 c0 11).toInt = (gi σ5 c0 11).toInt := congrArg Int32.toInt (FX_i cσ8 (show ¬ (c0 = c0 + 1) from by first | omega | (have ugc0 := un gc0; omega)) (show ¬ ((c0 = c0 ∧ 11 = 4)) from by first | omega | (have ugc0 := un gc0; omega)))
              have kr_24 : gr σ8 c0 9 = some 50 := (FX_r cσ8 (show ¬ (c0 = c0 + 1) from by first | omega | (have ugc0 := un gc0; omega)) (show ¬ ((c0 = c0 ∧ 9 = 4)) from by first | omega | (have ugc0 := un gc0; omega))).trans kr_18
              intro v9 ev9
              have t_25 : (x2 + (1 : Int32)).toInt = x2.toInt + 1 := i_add (x := x2) (y := (1 : Int32)) (by show (_ : Int) ≤ x2.toInt + 1; omega) (by show x2.toInt + 1 ≤ (_ : Int); omega)
              have t_26 : v9.toInt = (x2 + (1 : Int32)).toInt := congrArg Int32.toInt ev9
              exact ih12 x1 v9 σ8 mσ8 fσ8 (by omega) (by omega) (by omega) (by omega) (by omega)
            · intro q_19
              have b_27 : r6.toInt = 0 := congrArg Int32.toInt q_19
              have z_28 : (0 : Int32).toInt = 0 := rfl
              exact h9ret (0 : Int32) σ5 mσ5 fσ5 (by omega) (by omega)
  have U12 := T 200
  have f0 : FX (fun id => id = c0 + 1) (fun id k => (id = c0 ∧ k = 4) ∨ (id = c0 ∧ k = 11)) σ0 σ0 := FX_rf
  have t_29 := XI_c1 m0 (id := c0) (k := 10) (lim_F0_10 hc0)
  have t_30 := XI_c1 m0 (id := c0) (k := 11) (lim_F0_11 hc0)
  refine s_X2_readsEither_r4_0 C hN hc0 lc0 ?_
  refine k_X2_readsBoth_r4 hc0 lc0 m0  (by omega) (by omega) (by first | omega | assumption | rfl) (fun r2 σ1 mσ1 cσ1 plσ1 phσ1 => ?_)
  have fσ1 : FX (fun id => id = c0 + 1) (fun id k => (id = c0 ∧ k = 4) ∨ (id = c0 ∧ k = 11)) σ0 σ1 := FX_tr f0 cσ1 (fun x (h9 : x = c0 + 1) => (show x = c0 + 1 from h9)) (fun x k (h9 : (x = c0 ∧ k = 4) ∨ (x = c0 ∧ k = 11)) => (show (x = c0 + 1) ∨ ((x = c0 ∧ k = 4) ∨ (x = c0 ∧ k = 11)) from h9.elim (fun e9 => Or.inr (show (x = c0 ∧ k = 4) ∨ (x = c0 ∧ k = 11) from Or.inl (e9))) (fun h9 => Or.inr (show (x = c0 ∧ k = 4) ∨ (x = c0 ∧ k = 11) from Or.inr (h9)))))
  have k_31 : (gi σ1 c0 10).toInt = (gi σ0 c0 10).toInt := congrArg Int32.toInt (FX_i cσ1 (show ¬ (c0 = c0 + 1) from by first | omega | (have ugc0 := un gc0; omega)) (show ¬ ((c0 = c0 ∧ 10 = 4) ∨ (c0 = c0 ∧ 10 = 11)) from by first | omega | (have ugc0 := un gc0; omega)))
  have t_32 := XI_c1 mσ1 (id := c0) (k := 11) (lim_F0_11 hc0)
  have kr_33 : gr σ1 c0 9 = some 50 := (FX_r cσ1 (show ¬ (c0 = c0 + 1) from by first | omega | (have ugc0 := un gc0; omega)) (show ¬ ((c0 = c0 ∧ 9 = 4) ∨ (c0 = c0 ∧ 9 = 11)) from by first | omega | (have ugc0 := un gc0; omega))).trans pre0
  refine ⟨?_, ?_⟩
  · intro q_34
    have b_35 : ¬ r2.toInt = 0 := fun h9 => q_34 (Int32.toInt_inj.mp h9)
    have z_36 : (0 : Int32).toInt = 0 := rfl
    exact U12 a1 (0 : Int32) σ1 mσ1 fσ1 (by omega) (by omega) (by omega) (by omega) (by omega)
  · intro q_34
    have b_37 : r2.toInt = 0 := congrArg Int32.toInt q_34
    have z_38 : (0 : Int32).toInt = 0 := rfl
    exact h9ret (0 : Int32) σ1 mσ1 fσ1 (by omega) (by omega)
set_option maxRecDepth 100000 in
set_option maxHeartbeats 4000000 in
theorem k_X2_readsPart_r3 {l : Launch} {V : Vx} {c0 : Nat} {a1 : Int32} {σ0 : Sg} {Qk : Int32 → Sg → Prop} (hc0 : kd c0 = (12, 0)) (lc0 : c0 ∈ ids (V)) (m0 : XI V σ0) (l_a1 : 3 ≤ a1.toInt) (u_a1 : a1.toInt ≤ 3) (pre0 : gr σ0 c0 9 = some 50) (h9ret : ∀ (r : Int32) (σ' : Sg), XI V σ' → FX (fun id => id = c0 + 1) (fun id k => (id = c0 ∧ k = 4) ∨ (id = c0 ∧ k = 11)) σ0 σ' → (0 ≤ r.toInt) → (r.toInt ≤ 1) → Qk r σ') : K_X2_readsPart_r3 l V c0 a1 σ0 Qk := by
  refine e_X2_readsPart_r3 (fun M hl hV hN C => ?_)
  subst hl
  subst hV
  have gc0 : hid _ := kdF_ge hc0
  have T : ∀ n : Nat, (∀ (x1 : Int32) (σ : Sg), XI (mV M) σ → FX (fun id => id = c0 + 1) (fun id k => (id = c0 ∧ k = 4) ∨ (id = c0 ∧ k = 11)) σ0 σ → (3 ≤ x1.toInt) → (x1.toInt ≤ 3) → 1 < n → PS M 33 [(0, .ref c0), (1, .int x1)] [] σ (0, 0)) := by
    intro n
    induction n with
    | zero => exact fun _ _ _ _ _ _ h8 => absurd h8 (Nat.not_lt_zero _)
    | succ n ih =>
      have ih33 := ih
      · intro x1 σ mσ fσ lx1 ux1 hmu
        have kr_c0_9 : gr σ c0 9 = some 50 := (FX_r fσ (show ¬ (c0 = c0 + 1) from by first | omega | (have ugc0 := un gc0; omega)) (show ¬ ((c0 = c0 ∧ 9 = 4) ∨ (c0 = c0 ∧ 9 = 11)) from by first | omega | (have ugc0 := un gc0; omega))).trans pre0
        have k_1 : (gi σ c0 10).toInt = (gi σ0 c0 10).toInt := congrArg Int32.toInt (FX_i fσ (show ¬ (c0 = c0 + 1) from by first | omega | (have ugc0 := un gc0; omega)) (show ¬ ((c0 = c0 ∧ 10 = 4) ∨ (c0 = c0 ∧ 10 = 11)) from by first | omega | (have ugc0 := un gc0; omega)))
        have t_2 := XI_c1 mσ (id := c0) (k := 10) (lim_F0_10 hc0)
        have t_3 := XI_c1 mσ (id := c0) (k := 11) (lim_F0_11 hc0)
        refine s_X2_readsPart_r3_33 C hN hc0 lc0 ?_
        refine ⟨?_, ?_⟩
        · intro q_4
          have b_5 : (4 : Int) ≤ x1.toInt := Int32.le_iff_toInt_le.mp q_4
          refine k_X2_readsTest hc0 lc0 mσ  (by first | omega | assumption | rfl) (fun r3 σ2 mσ2 cσ2 plσ2 phσ2 => ?_)
          have fσ2 : FX (fun id => id = c0 + 1) (fun id k => (id = c0 ∧ k = 4) ∨ (id = c0 ∧ k = 11)) σ0 σ2 := FX_tr fσ cσ2 (fun x (h9 : x = c0 + 1) => (show x = c0 + 1 from h9)) (fun x k (h9 : (x = c0 ∧ k = 4) ∨ (x = c0 ∧ k = 11)) => (show (x = c0 + 1) ∨ ((x = c0 ∧ k = 4) ∨ (x = c0 ∧ k = 11)) from h9.elim (fun e9 => Or.inr (show (x = c0 ∧ k = 4) ∨ (x = c0 ∧ k = 11) from Or.inl (e9))) (fun h9 => Or.inr (show (x = c0 ∧ k = 4) ∨ (x = c0 ∧ k = 11) from Or.inr (h9)))))
          have k_6 : (gi σ2 c0 10).toInt = (gi σ c0 10).toInt := congrArg Int32.toInt (FX_i cσ2 (show ¬ (c0 = c0 + 1) from by first | omega | (have ugc0 := un gc0; omega)) (show ¬ ((c0 = c0 ∧ 10 = 4) ∨ (c0 = c0 ∧ 10 = 11)) from by first | omega | (have ugc0 := un gc0; omega)))
          have t_7 := XI_c1 mσ2 (id := c0) (k := 11) (lim_F0_11 hc0)
          have kr_8 : gr σ2 c0 9 = some 50 := (FX_r cσ2 (show ¬ (c0 = c0 + 1) from by first | omega | (have ugc0 := un gc0; omega)) (show ¬ ((c0 = c0 ∧ 9 = 4) ∨ (c0 = c0 ∧ 9 = 11)) from by first | omega | (have ugc0 := un gc0; omega))).trans kr_c0_9
          refine ⟨i_bool (by omega) (by omega), ?_⟩
          exact h9ret r3 σ2 mσ2 fσ2 (by omega) (by omega)
        · intro q_4
          have b_9 : ¬ (4 : Int) ≤ x1.toInt := fun h9 => q_4 (Int32.le_iff_toInt_le.mpr h9)
          have z_10 : (40 : Int32).toInt = 40 := rfl
          refine k_X2_takes hc0 lc0 mσ  (by omega) (by omega) (by first | omega | assumption | rfl) (fun r5 σ4 mσ4 cσ4 plσ4 phσ4 => ?_)
          have fσ4 : FX (fun id => id = c0 + 1) (fun id k => (id = c0 ∧ k = 4) ∨ (id = c0 ∧ k = 11)) σ0 σ4 := FX_tr fσ cσ4 (fun _ h9 => h9.elim) (fun x k (h9 : (x = c0 ∧ k = 11)) => (show (x = c0 + 1) ∨ ((x = c0 ∧ k = 4) ∨ (x = c0 ∧ k = 11)) from Or.inr (show (x = c0 ∧ k = 4) ∨ (x = c0 ∧ k = 11) from Or.inr (h9))))
          have k_11 : (gi σ4 c0 10).toInt = (gi σ c0 10).toInt := congrArg Int32.toInt (FX_i cσ4 id (show ¬ ((c0 = c0 ∧ 10 = 11)) from by first | omega | (have ugc0 := un gc0; omega)))
          have t_12 := XI_c1 mσ4 (id := c0) (k := 11) (lim_F0_11 hc0)
          have kr_13 : gr σ4 c0 9 = some 50 := (FX_r cσ4 id (show ¬ ((c0 = c0 ∧ 9 = 11)) from by first | omega | (have ugc0 := un gc0; omega))).trans kr_c0_9
          refine ⟨?_, ?_⟩
          · intro q_14
            have b_15 : r5.toInt = 0 := congrArg Int32.toInt q_14
            refine k_X2_readsTest hc0 lc0 mσ4  (by first | omega | assumption | rfl) (fun r8 σ7 mσ7 cσ7 plσ7 phσ7 => ?_)
            have fσ7 : FX (fun id => id = c0 + 1) (fun id k => (id = c0 ∧ k = 4) ∨ (id = c0 ∧ k = 11)) σ0 σ7 := FX_tr fσ4 cσ7 (fun x (h9 : x = c0 + 1) => (show x = c0 + 1 from h9)) (fun x k (h9 : (x = c0 ∧ k = 4) ∨ (x = c0 ∧ k = 11)) => (show (x = c0 + 1) ∨ ((x = c0 ∧ k = 4) ∨ (x = c0 ∧ k = 11)) from h9.elim (fun e9 => Or.inr (show (x = c0 ∧ k = 4) ∨ (x = c0 ∧ k = 11) from Or.inl (e9))) (fun h9 => Or.inr (show (x = c0 ∧ k = 4) ∨ (x = c0 ∧ k = 11) from Or.inr (h9)))))
            have k_16 : (gi σ7 c0 10).toInt = (gi σ4 c0 10).toInt := congrArg Int32.toInt (FX_i cσ7 (show ¬ (c0 = c0 + 1) from by first | omega | (have ugc0 := un gc0; omega)) (show ¬ ((c0 = c0 ∧ 10 = 4) ∨ (c0 = c0 ∧ 10 = 11)) from by first | omega | (have ugc0 := un gc0; omega)))
            have t_17 := XI_c1 mσ7 (id := c0) (k := 11) (lim_F0_11 hc0)
            have kr_18 : gr σ7 c0 9 = some 50 := (FX_r cσ7 (show ¬ (c0 = c0 + 1) from by first | omega | (have ugc0 := un gc0; omega)) (show ¬ ((c0 = c0 ∧ 9 = 4) ∨ (c0 = c0 ∧ 9 = 11)) from by first | omega | (have ugc0 := un gc0; omega))).trans kr_13
            refine ⟨i_bool (by omega) (by omega), ?_⟩
            exact h9ret r8 σ7 mσ7 fσ7 (by omega) (by omega)
          · intro q_14
            have b_19 : ¬ r5.toInt = 0 := fun h9 => q_14 (Int32.toInt_inj.mp h9)
            have t_20 : (x1 + (1 : Int32)).toInt = x1.toInt + 1 := i_add (x := x1) (y := (1 : Int32)) (by show (_ : Int) ≤ x1.toInt + 1; omega) (by show x1.toInt + 1 ≤ (_ : Int); omega)
            refine k_X2_readsEither_r4 hc0 lc0 mσ4  (by omega) (by omega) (by first | omega | assumption | rfl) (fun r10 σ9 mσ9 cσ9 plσ9 phσ9 => ?_)
            have fσ9 : FX (fun id => id = c0 + 1) (fun id k => (id = c0 ∧ k = 4) ∨ (id = c0 ∧ k = 11)) σ0 σ9 := FX_tr fσ4 cσ9 (fun x (h9 : x = c0 + 1) => (show x = c0 + 1 from h9)) (fun x k (h9 : (x = c0 ∧ k = 4) ∨ (x = c0 ∧ k = 11)) => (show (x = c0 + 1) ∨ ((x = c0 ∧ k = 4) ∨ (x = c0 ∧ k = 11)) from h9.elim (fun e9 => Or.inr (show (x = c0 ∧ k = 4) ∨ (x = c0 ∧ k = 11) from Or.inl (e9))) (fun h9 => Or.inr (show (x = c0 ∧ k = 4) ∨ (x = c0 ∧ k = 11) from Or.inr (h9)))))
            have k_21 : (gi σ9 c0 10).toInt = (gi σ4 c0 10).toInt := congrArg Int32.toInt (FX_i cσ9 (show ¬ (c0 = c0 + 1) from by first | omega | (have ugc0 := un gc0; omega)) (show ¬ ((c0 = c0 ∧ 10 = 4) ∨ (c0 = c0 ∧ 10 = 11)) from by first | omega | (have ugc0 := un gc0; omega)))
            have t_22 := XI_c1 mσ9 (id := c0) (k := 11) (lim_F0_11 hc0)
            have kr_23 : gr σ9 c0 9 = some 50 := (FX_r cσ9 (show ¬ (c0 = c0 + 1) from by first | omega | (have ugc0 := un gc0; omega)) (show ¬ ((c0 = c0 ∧ 9 = 4) ∨ (c0 = c0 ∧ 9 = 11)) from by first | omega | (have ugc0 := un gc0; omega))).trans kr_13
            refine ⟨?_, ?_⟩
            · intro q_24
              have b_25 : r10.toInt = 0 := congrArg Int32.toInt q_24
              have z_26 : (0 : Int32).toInt = 0 := rfl
              exact h9ret (0 : Int32) σ9 mσ9 fσ9 (by omega) (by omega)
            · intro q_24
              have b_27 : ¬ r10.toInt = 0 := fun h9 => q_24 (Int32.toInt_inj.mp h9)
              have z_28 : (41 : Int32).toInt = 41 := rfl
              refine k_X2_takes hc0 lc0 mσ9  (by omega) (by omega) (by first | omega | assumption | rfl) (fun r13 σ12 mσ12 cσ12 plσ12 phσ12 => ?_)
              have fσ12 : FX (fun id => id = c0 + 1) (fun id k => (id = c0 ∧ k = 4) ∨ (id = c0 ∧ k = 11)) σ0 σ12 := FX_tr fσ9 cσ12 (fun _ h9 => h9.elim) (fun x k (h9 : (x = c0 ∧ k = 11)) => (show (x = c0 + 1) ∨ ((x = c0 ∧ k = 4) ∨ (x = c0 ∧ k = 11)) from Or.inr (show (x = c0 ∧ k = 4) ∨ (x = c0 ∧ k = 11) from Or.inr (h9))))
              have k_29 : (gi σ12 c0 10).toInt = (gi σ9 c0 10).toInt := congrArg Int32.toInt (FX_i cσ12 id (show ¬ ((c0 = c0 ∧ 10 = 11)) from by first | omega | (have ugc0 := un gc0; omega)))
              have t_30 := XI_c1 mσ12 (id := c0) (k := 11) (lim_F0_11 hc0)
              have kr_31 : gr σ12 c0 9 = some 50 := (FX_r cσ12 id (show ¬ ((c0 = c0 ∧ 9 = 11)) from by first | omega | (have ugc0 := un gc0; omega))).trans kr_23
              refine ⟨?_, ?_⟩
              · intro q_32
                have b_33 : r13.toInt = 0 := congrArg Int32.toInt q_32
                have z_34 : (0 : Int32).toInt = 0 := rfl
                exact h9ret (0 : Int32) σ12 mσ12 fσ12 (by omega) (by omega)
              · intro q_32
                have b_35 : ¬ r13.toInt = 0 := fun h9 => q_32 (Int32.toInt_inj.mp h9)
                have z_36 : (1 : Int32).toInt = 1 := rfl
                exact h9ret (1 : Int32) σ12 mσ12 fσ12 (by omega) (by omega)
  have U33 := T 9
  have f0 : FX (fun id => id = c0 + 1) (fun id k => (id = c0 ∧ k = 4) ∨ (id = c0 ∧ k = 11)) σ0 σ0 := FX_rf
  have t_37 := XI_c1 m0 (id := c0) (k := 10) (lim_F0_10 hc0)
  have t_38 := XI_c1 m0 (id := c0) (k := 11) (lim_F0_11 hc0)
  refine s_X2_readsPart_r3_0 C hN hc0 lc0 ?_
  refine ⟨?_, ?_⟩
  · intro q_39
    have b_40 : (4 : Int) ≤ a1.toInt := Int32.le_iff_toInt_le.mp q_39
    exact U33 a1 σ0 m0 f0 (by omega) (by omega) (by omega)
  · intro q_39
    have b_41 : ¬ (4 : Int) ≤ a1.toInt := fun h9 => q_39 (Int32.le_iff_toInt_le.mpr h9)
    have z_42 : (33 : Int32).toInt = 33 := rfl
    refine k_X2_takes hc0 lc0 m0  (by omega) (by omega) (by first | omega | assumption | rfl) (fun r3 σ2 mσ2 cσ2 plσ2 phσ2 => ?_)
    have fσ2 : FX (fun id => id = c0 + 1) (fun id k => (id = c0 ∧ k = 4) ∨ (id = c0 ∧ k = 11)) σ0 σ2 := FX_tr f0 cσ2 (fun _ h9 => h9.elim) (fun x k (h9 : (x = c0 ∧ k = 11)) => (show (x = c0 + 1) ∨ ((x = c0 ∧ k = 4) ∨ (x = c0 ∧ k = 11)) from Or.inr (show (x = c0 ∧ k = 4) ∨ (x = c0 ∧ k = 11) from Or.inr (h9))))
    have k_43 : (gi σ2 c0 10).toInt = (gi σ0 c0 10).toInt := congrArg Int32.toInt (FX_i cσ2 id (show ¬ ((c0 = c0 ∧ 10 = 11)) from by first | omega | (have ugc0 := un gc0; omega)))
    have t_44 := XI_c1 mσ2 (id := c0) (k := 11) (lim_F0_11 hc0)
    have kr_45 : gr σ2 c0 9 = some 50 := (FX_r cσ2 id (show ¬ ((c0 = c0 ∧ 9 = 11)) from by first | omega | (have ugc0 := un gc0; omega))).trans pre0
    refine ⟨?_, ?_⟩
    · intro q_46
      have b_47 : r3.toInt = 0 := congrArg Int32.toInt q_46
      exact U33 a1 σ2 mσ2 fσ2 (by omega) (by omega) (by omega)
    · intro q_46
      have b_48 : ¬ r3.toInt = 0 := fun h9 => q_46 (Int32.toInt_inj.mp h9)
      have t_49 : (a1 + (1 : Int32)).toInt = a1.toInt + 1 := i_add (x := a1) (y := (1 : Int32)) (by show (_ : Int) ≤ a1.toInt + 1; omega) (by show a1.toInt + 1 ≤ (_ : Int); omega)
      refine k_X2_readsPart_r4 hc0 lc0 mσ2  (by omega) (by omega) (by first | omega | assumption | rfl) (fun r6 σ5 mσ5 cσ5 plσ5 phσ5 => ?_)
      have fσ5 : FX (fun id => id = c0 + 1) (fun id k => (id = c0 ∧ k = 4) ∨ (id = c0 ∧ k = 11)) σ0 σ5 := FX_tr fσ2 cσ5 (fun x (h9 : x = c0 + 1) => (show x = c0 + 1 from h9)) (fun x k (h9 : (x = c0 ∧ k = 4) ∨ (x = c0 ∧ k = 11)) => (show (x = c0 + 1) ∨ ((x = c0 ∧ k = 4) ∨ (x = c0 ∧ k = 11)) from h9.elim (fun e9 => Or.inr (show (x = c0 ∧ k = 4) ∨ (x = c0 ∧ k = 11) from Or.inl (e9))) (fun h9 => Or.inr (show (x = c0 ∧ k = 4) ∨ (x = c0 ∧ k = 11) from Or.inr (h9)))))
      have k_50 : (gi σ5 c0 10).toInt = (gi σ2 c0 10).toInt := congrArg Int32.toInt (FX_i cσ5 (show ¬ (c0 = c0 + 1) from by first | omega | (have ugc0 := un gc0; omega)) (show ¬ ((c0 = c0 ∧ 10 = 4) ∨ (c0 = c0 ∧ 10 = 11)) from by first | omega | (have ugc0 := un gc0; omega)))
      have t_51 := XI_c1 mσ5 (id := c0) (k := 11) (lim_F0_11 hc0)
      have kr_52 : gr σ5 c0 9 = some 50 := (FX_r cσ5 (show ¬ (c0 = c0 + 1) from by first | omega | (have ugc0 := un gc0; omega)) (show ¬ ((c0 = c0 ∧ 9 = 4) ∨ (c0 = c0 ∧ 9 = 11)) from by first | omega | (have ugc0 := un gc0; omega))).trans kr_45
      refine ⟨?_, ?_⟩
      · intro q_53
        have b_54 : ¬ r6.toInt = 0 := fun h9 => q_53 (Int32.toInt_inj.mp h9)
        have z_55 : (-1 : Int32).toInt = -1 := rfl
        refine k_X2_writes hc0 lc0 mσ5  (by omega) (by omega) (fun σ8 mσ8 cσ8 => ?_)
        have fσ8 : FX (fun id => id = c0 + 1) (fun id k => (id = c0 ∧ k = 4) ∨ (id = c0 ∧ k = 11)) σ0 σ8 := FX_tr fσ5 cσ8 (fun x (h9 : x = c0 + 1) => (show x = c0 + 1 from h9)) (fun x k (h9 : (x = c0 ∧ k = 4)) => (show (x = c0 + 1) ∨ ((x = c0 ∧ k = 4) ∨ (x = c0 ∧ k = 11)) from Or.inr (show (x = c0 ∧ k = 4) ∨ (x = c0 ∧ k = 11) from Or.inl (h9))))
        have k_56 : (gi σ8 c0 10).toInt = (gi σ5 c0 10).toInt := congrArg Int32.toInt (FX_i cσ8 (show ¬ (c0 = c0 + 1) from by first | omega | (have ugc0 := un gc0; omega)) (show ¬ ((c0 = c0 ∧ 10 = 4)) from by first | omega | (have ugc0 := un gc0; omega)))
        have k_57 : (gi σ8 c0 11).toInt = (gi σ5 c0 11).toInt := congrArg Int32.toInt (FX_i cσ8 (show ¬ (c0 = c0 + 1) from by first | omega | (have ugc0 := un gc0; omega)) (show ¬ ((c0 = c0 ∧ 11 = 4)) from by first | omega | (have ugc0 := un gc0; omega)))
        have kr_58 : gr σ8 c0 9 = some 50 := (FX_r cσ8 (show ¬ (c0 = c0 + 1) from by first | omega | (have ugc0 := un gc0; omega)) (show ¬ ((c0 = c0 ∧ 9 = 4)) from by first | omega | (have ugc0 := un gc0; omega))).trans kr_52
        have z_59 : (1 : Int32).toInt = 1 := rfl
        exact h9ret (1 : Int32) σ8 mσ8 fσ8 (by omega) (by omega)
      · intro q_53
        have b_60 : r6.toInt = 0 := congrArg Int32.toInt q_53
        have z_61 : (0 : Int32).toInt = 0 := rfl
        exact h9ret (0 : Int32) σ5 mσ5 fσ5 (by omega) (by omega)
set_option maxRecDepth 100000 in
set_option maxHeartbeats 4000000 in
theorem k_X2_readsBoth_r3 {l : Launch} {V : Vx} {c0 : Nat} {a1 : Int32} {σ0 : Sg} {Qk : Int32 → Sg → Prop} (hc0 : kd c0 = (12, 0)) (lc0 : c0 ∈ ids (V)) (m0 : XI V σ0) (l_a1 : 3 ≤ a1.toInt) (u_a1 : a1.toInt ≤ 3) (pre0 : gr σ0 c0 9 = some 50) (h9ret : ∀ (r : Int32) (σ' : Sg), XI V σ' → FX (fun id => id = c0 + 1) (fun id k => (id = c0 ∧ k = 4) ∨ (id = c0 ∧ k = 11)) σ0 σ' → (0 ≤ r.toInt) → (r.toInt ≤ 1) → Qk r σ') : K_X2_readsBoth_r3 l V c0 a1 σ0 Qk := by
  refine e_X2_readsBoth_r3 (fun M hl hV hN C => ?_)
  subst hl
  subst hV
  have gc0 : hid _ := kdF_ge hc0
  have T : ∀ n : Nat, (∀ (x1 : Int32) (x2 : Int32) (σ : Sg), XI (mV M) σ → FX (fun id => id = c0 + 1) (fun id k => (id = c0 ∧ k = 4) ∨ (id = c0 ∧ k = 11)) σ0 σ → (3 ≤ x1.toInt) → (x1.toInt ≤ 3) → (0 ≤ x2.toInt) → (x2.toInt ≤ 100) → (101 - x2.toInt).toNat < n → PS M 12 [(0, .ref c0), (1, .int x1), (2, .int x2)] [] σ (0, 0)) := by
    intro n
    induction n with
    | zero => exact fun _ _ _ _ _ _ _ _ _ h8 => absurd h8 (Nat.not_lt_zero _)
    | succ n ih =>
      have ih12 := ih
      · intro x1 x2 σ mσ fσ lx1 ux1 lx2 ux2 hmu
        have kr_c0_9 : gr σ c0 9 = some 50 := (FX_r fσ (show ¬ (c0 = c0 + 1) from by first | omega | (have ugc0 := un gc0; omega)) (show ¬ ((c0 = c0 ∧ 9 = 4) ∨ (c0 = c0 ∧ 9 = 11)) from by first | omega | (have ugc0 := un gc0; omega))).trans pre0
        have k_1 : (gi σ c0 10).toInt = (gi σ0 c0 10).toInt := congrArg Int32.toInt (FX_i fσ (show ¬ (c0 = c0 + 1) from by first | omega | (have ugc0 := un gc0; omega)) (show ¬ ((c0 = c0 ∧ 10 = 4) ∨ (c0 = c0 ∧ 10 = 11)) from by first | omega | (have ugc0 := un gc0; omega)))
        have t_2 := XI_c1 mσ (id := c0) (k := 10) (lim_F0_10 hc0)
        have t_3 := XI_c1 mσ (id := c0) (k := 11) (lim_F0_11 hc0)
        refine s_X2_readsBoth_r3_12 C hN hc0 lc0 ?_
        refine ⟨?_, ?_⟩
        · intro q_4
          have b_5 : (100 : Int) ≤ x2.toInt := Int32.le_iff_toInt_le.mp q_4
          have z_6 : (1 : Int32).toInt = 1 := rfl
          exact h9ret (1 : Int32) σ mσ fσ (by omega) (by omega)
        · intro q_4
          have b_7 : ¬ (100 : Int) ≤ x2.toInt := fun h9 => q_4 (Int32.le_iff_toInt_le.mpr h9)
          have z_8 : (38 : Int32).toInt = 38 := rfl
          refine k_X2_takes hc0 lc0 mσ  (by omega) (by omega) (by first | omega | assumption | rfl) (fun r3 σ2 mσ2 cσ2 plσ2 phσ2 => ?_)
          have fσ2 : FX (fun id => id = c0 + 1) (fun id k => (id = c0 ∧ k = 4) ∨ (id = c0 ∧ k = 11)) σ0 σ2 := FX_tr fσ cσ2 (fun _ h9 => h9.elim) (fun x k (h9 : (x = c0 ∧ k = 11)) => (show (x = c0 + 1) ∨ ((x = c0 ∧ k = 4) ∨ (x = c0 ∧ k = 11)) from Or.inr (show (x = c0 ∧ k = 4) ∨ (x = c0 ∧ k = 11) from Or.inr (h9))))
          have k_9 : (gi σ2 c0 10).toInt = (gi σ c0 10).toInt := congrArg Int32.toInt (FX_i cσ2 id (show ¬ ((c0 = c0 ∧ 10 = 11)) from by first | omega | (have ugc0 := un gc0; omega)))
          have t_10 := XI_c1 mσ2 (id := c0) (k := 11) (lim_F0_11 hc0)
          have kr_11 : gr σ2 c0 9 = some 50 := (FX_r cσ2 id (show ¬ ((c0 = c0 ∧ 9 = 11)) from by first | omega | (have ugc0 := un gc0; omega))).trans kr_c0_9
          refine ⟨?_, ?_⟩
          · intro q_12
            have b_13 : r3.toInt = 0 := congrArg Int32.toInt q_12
            have z_14 : (1 : Int32).toInt = 1 := rfl
            exact h9ret (1 : Int32) σ2 mσ2 fσ2 (by omega) (by omega)
          · intro q_12
            have b_15 : ¬ r3.toInt = 0 := fun h9 => q_12 (Int32.toInt_inj.mp h9)
            refine k_X2_readsPart_r3 hc0 lc0 mσ2  (by omega) (by omega) (by first | omega | assumption | rfl) (fun r6 σ5 mσ5 cσ5 plσ5 phσ5 => ?_)
            have fσ5 : FX (fun id => id = c0 + 1) (fun id k => (id = c0 ∧ k = 4) ∨ (id = c0 ∧ k = 11)) σ0 σ5 := FX_tr fσ2 cσ5 (fun x (h9 : x = c0 + 1) => (show x = c0 + 1 from h9)) (fun x k (h9 : (x = c0 ∧ k = 4) ∨ (x = c0 ∧ k = 11)) => (show (x = c0 + 1) ∨ ((x = c0 ∧ k = 4) ∨ (x = c0 ∧ k = 11)) from h9.elim (fun e9 => Or.inr (show (x = c0 ∧ k = 4) ∨ (x = c0 ∧ k = 11) from Or.inl (e9))) (fun h9 => Or.inr (show (x = c0 ∧ k = 4) ∨ (x = c0 ∧ k = 11) from Or.inr (h9)))))
            have k_16 : (gi σ5 c0 10).toInt = (gi σ2 c0 10).toInt := congrArg Int32.toInt (FX_i cσ5 (show ¬ (c0 = c0 + 1) from by first | omega | (have ugc0 := un gc0; omega)) (show ¬ ((c0 = c0 ∧ 10 = 4) ∨ (c0 = c0 ∧ 10 = 11)) from by first | omega | (have ugc0 := un gc0; omega)))
            have t_17 := XI_c1 mσ5 (id := c0) (k := 11) (lim_F0_11 hc0)
            have kr_18 : gr σ5 c0 9 = some 50 := (FX_r cσ5 (show ¬ (c0 = c0 + 1) from by first | omega | (have ugc0 := un gc0; omega)) (show ¬ ((c0 = c0 ∧ 9 = 4) ∨ (c0 = c0 ∧ 9 = 11)) from by first | omega | (have ugc0 := un gc0; omega))).trans kr_11
            refine ⟨?_, ?_⟩
            · intro q_19
              have b_20 : ¬ r6.toInt = 0 := fun h9 => q_19 (Int32.toInt_inj.mp h9)
              have z_21 : (-2 : Int32).toInt = -2 := rfl
              refine k_X2_writes hc0 lc0 mσ5  (by omega) (by omega) (fun σ8 mσ8 cσ8 => ?_)
              have fσ8 : FX (fun id => id = c0 + 1) (fun id k => (id = c0 ∧ k = 4) ∨ (id = c0 ∧ k = 11)) σ0 σ8 := FX_tr fσ5 cσ8 (fun x (h9 : x = c0 + 1) => (show x = c0 + 1 from h9)) (fun x k (h9 : (x = c0 ∧ k = 4)) => (show (x = c0 + 1) ∨ ((x = c0 ∧ k = 4) ∨ (x = c0 ∧ k = 11)) from Or.inr (show (x = c0 ∧ k = 4) ∨ (x = c0 ∧ k = 11) from Or.inl (h9))))
              have k_22 : (gi σ8 c0 10).toInt = (gi σ5 c0 10).toInt := congrArg Int32.toInt (FX_i cσ8 (show ¬ (c0 = c0 + 1) from by first | omega | (have ugc0 := un gc0; omega)) (show ¬ ((c0 = c0 ∧ 10 = 4)) from by first | omega | (have ugc0 := un gc0; omega)))
              have k_23 : (gi σ8 c0 11).toInt = (gi σ5 c0 11).toInt := congrArg Int32.toInt (FX_i cσ8 (show ¬ (c0 = c0 + 1) from by first | omega | (have ugc0 := un gc0; omega)) (show ¬ ((c0 = c0 ∧ 11 = 4)) from by first | omega | (have ugc0 := un gc0; omega)))
              have kr_24 : gr σ8 c0 9 = some 50 := (FX_r cσ8 (show ¬ (c0 = c0 + 1) from by first | omega | (have ugc0 := un gc0; omega)) (show ¬ ((c0 = c0 ∧ 9 = 4)) from by first | omega | (have ugc0 := un gc0; omega))).trans kr_18
              intro v9 ev9
              have t_25 : (x2 + (1 : Int32)).toInt = x2.toInt + 1 := i_add (x := x2) (y := (1 : Int32)) (by show (_ : Int) ≤ x2.toInt + 1; omega) (by show x2.toInt + 1 ≤ (_ : Int); omega)
              have t_26 : v9.toInt = (x2 + (1 : Int32)).toInt := congrArg Int32.toInt ev9
              exact ih12 x1 v9 σ8 mσ8 fσ8 (by omega) (by omega) (by omega) (by omega) (by omega)
            · intro q_19
              have b_27 : r6.toInt = 0 := congrArg Int32.toInt q_19
              have z_28 : (0 : Int32).toInt = 0 := rfl
              exact h9ret (0 : Int32) σ5 mσ5 fσ5 (by omega) (by omega)
  have U12 := T 200
  have f0 : FX (fun id => id = c0 + 1) (fun id k => (id = c0 ∧ k = 4) ∨ (id = c0 ∧ k = 11)) σ0 σ0 := FX_rf
  have t_29 := XI_c1 m0 (id := c0) (k := 10) (lim_F0_10 hc0)
  have t_30 := XI_c1 m0 (id := c0) (k := 11) (lim_F0_11 hc0)
  refine s_X2_readsBoth_r3_0 C hN hc0 lc0 ?_
  refine k_X2_readsPart_r3 hc0 lc0 m0  (by omega) (by omega) (by first | omega | assumption | rfl) (fun r2 σ1 mσ1 cσ1 plσ1 phσ1 => ?_)
  have fσ1 : FX (fun id => id = c0 + 1) (fun id k => (id = c0 ∧ k = 4) ∨ (id = c0 ∧ k = 11)) σ0 σ1 := FX_tr f0 cσ1 (fun x (h9 : x = c0 + 1) => (show x = c0 + 1 from h9)) (fun x k (h9 : (x = c0 ∧ k = 4) ∨ (x = c0 ∧ k = 11)) => (show (x = c0 + 1) ∨ ((x = c0 ∧ k = 4) ∨ (x = c0 ∧ k = 11)) from h9.elim (fun e9 => Or.inr (show (x = c0 ∧ k = 4) ∨ (x = c0 ∧ k = 11) from Or.inl (e9))) (fun h9 => Or.inr (show (x = c0 ∧ k = 4) ∨ (x = c0 ∧ k = 11) from Or.inr (h9)))))
  have k_31 : (gi σ1 c0 10).toInt = (gi σ0 c0 10).toInt := congrArg Int32.toInt (FX_i cσ1 (show ¬ (c0 = c0 + 1) from by first | omega | (have ugc0 := un gc0; omega)) (show ¬ ((c0 = c0 ∧ 10 = 4) ∨ (c0 = c0 ∧ 10 = 11)) from by first | omega | (have ugc0 := un gc0; omega)))
  have t_32 := XI_c1 mσ1 (id := c0) (k := 11) (lim_F0_11 hc0)
  have kr_33 : gr σ1 c0 9 = some 50 := (FX_r cσ1 (show ¬ (c0 = c0 + 1) from by first | omega | (have ugc0 := un gc0; omega)) (show ¬ ((c0 = c0 ∧ 9 = 4) ∨ (c0 = c0 ∧ 9 = 11)) from by first | omega | (have ugc0 := un gc0; omega))).trans pre0
  refine ⟨?_, ?_⟩
  · intro q_34
    have b_35 : ¬ r2.toInt = 0 := fun h9 => q_34 (Int32.toInt_inj.mp h9)
    have z_36 : (0 : Int32).toInt = 0 := rfl
    exact U12 a1 (0 : Int32) σ1 mσ1 fσ1 (by omega) (by omega) (by omega) (by omega) (by omega)
  · intro q_34
    have b_37 : r2.toInt = 0 := congrArg Int32.toInt q_34
    have z_38 : (0 : Int32).toInt = 0 := rfl
    exact h9ret (0 : Int32) σ1 mσ1 fσ1 (by omega) (by omega)
set_option maxRecDepth 100000 in
set_option maxHeartbeats 4000000 in
theorem k_X2_readsEither_r3 {l : Launch} {V : Vx} {c0 : Nat} {a1 : Int32} {σ0 : Sg} {Qk : Int32 → Sg → Prop} (hc0 : kd c0 = (12, 0)) (lc0 : c0 ∈ ids (V)) (m0 : XI V σ0) (l_a1 : 3 ≤ a1.toInt) (u_a1 : a1.toInt ≤ 3) (pre0 : gr σ0 c0 9 = some 50) (h9ret : ∀ (r : Int32) (σ' : Sg), XI V σ' → FX (fun id => id = c0 + 1) (fun id k => (id = c0 ∧ k = 4) ∨ (id = c0 ∧ k = 11)) σ0 σ' → (0 ≤ r.toInt) → (r.toInt ≤ 1) → Qk r σ') : K_X2_readsEither_r3 l V c0 a1 σ0 Qk := by
  refine e_X2_readsEither_r3 (fun M hl hV hN C => ?_)
  subst hl
  subst hV
  have gc0 : hid _ := kdF_ge hc0
  have T : ∀ n : Nat, (∀ (x1 : Int32) (x2 : Int32) (σ : Sg), XI (mV M) σ → FX (fun id => id = c0 + 1) (fun id k => (id = c0 ∧ k = 4) ∨ (id = c0 ∧ k = 11)) σ0 σ → (3 ≤ x1.toInt) → (x1.toInt ≤ 3) → (0 ≤ x2.toInt) → (x2.toInt ≤ 100) → (101 - x2.toInt).toNat < n → PS M 12 [(0, .ref c0), (1, .int x1), (2, .int x2)] [] σ (0, 0)) := by
    intro n
    induction n with
    | zero => exact fun _ _ _ _ _ _ _ _ _ h8 => absurd h8 (Nat.not_lt_zero _)
    | succ n ih =>
      have ih12 := ih
      · intro x1 x2 σ mσ fσ lx1 ux1 lx2 ux2 hmu
        have kr_c0_9 : gr σ c0 9 = some 50 := (FX_r fσ (show ¬ (c0 = c0 + 1) from by first | omega | (have ugc0 := un gc0; omega)) (show ¬ ((c0 = c0 ∧ 9 = 4) ∨ (c0 = c0 ∧ 9 = 11)) from by first | omega | (have ugc0 := un gc0; omega))).trans pre0
        have k_1 : (gi σ c0 10).toInt = (gi σ0 c0 10).toInt := congrArg Int32.toInt (FX_i fσ (show ¬ (c0 = c0 + 1) from by first | omega | (have ugc0 := un gc0; omega)) (show ¬ ((c0 = c0 ∧ 10 = 4) ∨ (c0 = c0 ∧ 10 = 11)) from by first | omega | (have ugc0 := un gc0; omega)))
        have t_2 := XI_c1 mσ (id := c0) (k := 10) (lim_F0_10 hc0)
        have t_3 := XI_c1 mσ (id := c0) (k := 11) (lim_F0_11 hc0)
        refine s_X2_readsEither_r3_12 C hN hc0 lc0 ?_
        refine ⟨?_, ?_⟩
        · intro q_4
          have b_5 : (100 : Int) ≤ x2.toInt := Int32.le_iff_toInt_le.mp q_4
          have z_6 : (1 : Int32).toInt = 1 := rfl
          exact h9ret (1 : Int32) σ mσ fσ (by omega) (by omega)
        · intro q_4
          have b_7 : ¬ (100 : Int) ≤ x2.toInt := fun h9 => q_4 (Int32.le_iff_toInt_le.mpr h9)
          have z_8 : (124 : Int32).toInt = 124 := rfl
          refine k_X2_takes hc0 lc0 mσ  (by omega) (by omega) (by first | omega | assumption | rfl) (fun r3 σ2 mσ2 cσ2 plσ2 phσ2 => ?_)
          have fσ2 : FX (fun id => id = c0 + 1) (fun id k => (id = c0 ∧ k = 4) ∨ (id = c0 ∧ k = 11)) σ0 σ2 := FX_tr fσ cσ2 (fun _ h9 => h9.elim) (fun x k (h9 : (x = c0 ∧ k = 11)) => (show (x = c0 + 1) ∨ ((x = c0 ∧ k = 4) ∨ (x = c0 ∧ k = 11)) from Or.inr (show (x = c0 ∧ k = 4) ∨ (x = c0 ∧ k = 11) from Or.inr (h9))))
          have k_9 : (gi σ2 c0 10).toInt = (gi σ c0 10).toInt := congrArg Int32.toInt (FX_i cσ2 id (show ¬ ((c0 = c0 ∧ 10 = 11)) from by first | omega | (have ugc0 := un gc0; omega)))
          have t_10 := XI_c1 mσ2 (id := c0) (k := 11) (lim_F0_11 hc0)
          have kr_11 : gr σ2 c0 9 = some 50 := (FX_r cσ2 id (show ¬ ((c0 = c0 ∧ 9 = 11)) from by first | omega | (have ugc0 := un gc0; omega))).trans kr_c0_9
          refine ⟨?_, ?_⟩
          · intro q_12
            have b_13 : r3.toInt = 0 := congrArg Int32.toInt q_12
            have z_14 : (1 : Int32).toInt = 1 := rfl
            exact h9ret (1 : Int32) σ2 mσ2 fσ2 (by omega) (by omega)
          · intro q_12
            have b_15 : ¬ r3.toInt = 0 := fun h9 => q_12 (Int32.toInt_inj.mp h9)
            refine k_X2_readsBoth_r3 hc0 lc0 mσ2  (by omega) (by omega) (by first | omega | assumption | rfl) (fun r6 σ5 mσ5 cσ5 plσ5 phσ5 => ?_)
            have fσ5 : FX (fun id => id = c0 + 1) (fun id k => (id = c0 ∧ k = 4) ∨ (id = c0 ∧ k = 11)) σ0 σ5 := FX_tr fσ2 cσ5 (fun x (h9 : x = c0 + 1) => (show x = c0 + 1 from h9)) (fun x k (h9 : (x = c0 ∧ k = 4) ∨ (x = c0 ∧ k = 11)) => (show (x = c0 + 1) ∨ ((x = c0 ∧ k = 4) ∨ (x = c0 ∧ k = 11)) from h9.elim (fun e9 => Or.inr (show (x = c0 ∧ k = 4) ∨ (x = c0 ∧ k = 11) from Or.inl (e9))) (fun h9 => Or.inr (show (x = c0 ∧ k = 4) ∨ (x = c0 ∧ k = 11) from Or.inr (h9)))))
            have k_16 : (gi σ5 c0 10).toInt = (gi σ2 c0 10).toInt := congrArg Int32.toInt (FX_i cσ5 (show ¬ (c0 = c0 + 1) from by first | omega | (have ugc0 := un gc0; omega)) (show ¬ ((c0 = c0 ∧ 10 = 4) ∨ (c0 = c0 ∧ 10 = 11)) from by first | omega | (have ugc0 := un gc0; omega)))
            have t_17 := XI_c1 mσ5 (id := c0) (k := 11) (lim_F0_11 hc0)
            have kr_18 : gr σ5 c0 9 = some 50 := (FX_r cσ5 (show ¬ (c0 = c0 + 1) from by first | omega | (have ugc0 := un gc0; omega)) (show ¬ ((c0 = c0 ∧ 9 = 4) ∨ (c0 = c0 ∧ 9 = 11)) from by first | omega | (have ugc0 := un gc0; omega))).trans kr_11
            refine ⟨?_, ?_⟩
            · intro q_19
              have b_20 : ¬ r6.toInt = 0 := fun h9 => q_19 (Int32.toInt_inj.mp h9)
              have z_21 : (-3 : Int32).toInt = -3 := rfl
              refine k_X2_writes hc0 lc0 mσ5  (by omega) (by omega) (fun σ8 mσ8 cσ8 => ?_)
              have fσ8 : FX (fun id => id = c0 + 1) (fun id k => (id = c0 ∧ k = 4) ∨ (id = c0 ∧ k = 11)) σ0 σ8 := FX_tr fσ5 cσ8 (fun x (h9 : x = c0 + 1) => (show x = c0 + 1 from h9)) (fun x k (h9 : (x = c0 ∧ k = 4)) => (show (x = c0 + 1) ∨ ((x = c0 ∧ k = 4) ∨ (x = c0 ∧ k = 11)) from Or.inr (show (x = c0 ∧ k = 4) ∨ (x = c0 ∧ k = 11) from Or.inl (h9))))
              have k_22 : (gi σ8 c0 10).toInt = (gi σ5 c0 10).toInt := congrArg Int32.toInt (FX_i cσ8 (show ¬ (c0 = c0 + 1) from by first | omega | (have ugc0 := un gc0; omega)) (show ¬ ((c0 = c0 ∧ 10 = 4)) from by first | omega | (have ugc0 := un gc0; omega)))
              have k_23 : (gi σ8 c0 11).toInt = (gi σ5 c0 11).toInt := congrArg Int32.toInt (FX_i cσ8 (show ¬ (c0 = c0 + 1) from by first | omega | (have ugc0 := un gc0; omega)) (show ¬ ((c0 = c0 ∧ 11 = 4)) from by first | omega | (have ugc0 := un gc0; omega)))
              have kr_24 : gr σ8 c0 9 = some 50 := (FX_r cσ8 (show ¬ (c0 = c0 + 1) from by first | omega | (have ugc0 := un gc0; omega)) (show ¬ ((c0 = c0 ∧ 9 = 4)) from by first | omega | (have ugc0 := un gc0; omega))).trans kr_18
              intro v9 ev9
              have t_25 : (x2 + (1 : Int32)).toInt = x2.toInt + 1 := i_add (x := x2) (y := (1 : Int32)) (by show (_ : Int) ≤ x2.toInt + 1; omega) (by show x2.toInt + 1 ≤ (_ : Int); omega)
              have t_26 : v9.toInt = (x2 + (1 : Int32)).toInt := congrArg Int32.toInt ev9
              exact ih12 x1 v9 σ8 mσ8 fσ8 (by omega) (by omega) (by omega) (by omega) (by omega)
            · intro q_19
              have b_27 : r6.toInt = 0 := congrArg Int32.toInt q_19
              have z_28 : (0 : Int32).toInt = 0 := rfl
              exact h9ret (0 : Int32) σ5 mσ5 fσ5 (by omega) (by omega)
  have U12 := T 200
  have f0 : FX (fun id => id = c0 + 1) (fun id k => (id = c0 ∧ k = 4) ∨ (id = c0 ∧ k = 11)) σ0 σ0 := FX_rf
  have t_29 := XI_c1 m0 (id := c0) (k := 10) (lim_F0_10 hc0)
  have t_30 := XI_c1 m0 (id := c0) (k := 11) (lim_F0_11 hc0)
  refine s_X2_readsEither_r3_0 C hN hc0 lc0 ?_
  refine k_X2_readsBoth_r3 hc0 lc0 m0  (by omega) (by omega) (by first | omega | assumption | rfl) (fun r2 σ1 mσ1 cσ1 plσ1 phσ1 => ?_)
  have fσ1 : FX (fun id => id = c0 + 1) (fun id k => (id = c0 ∧ k = 4) ∨ (id = c0 ∧ k = 11)) σ0 σ1 := FX_tr f0 cσ1 (fun x (h9 : x = c0 + 1) => (show x = c0 + 1 from h9)) (fun x k (h9 : (x = c0 ∧ k = 4) ∨ (x = c0 ∧ k = 11)) => (show (x = c0 + 1) ∨ ((x = c0 ∧ k = 4) ∨ (x = c0 ∧ k = 11)) from h9.elim (fun e9 => Or.inr (show (x = c0 ∧ k = 4) ∨ (x = c0 ∧ k = 11) from Or.inl (e9))) (fun h9 => Or.inr (show (x = c0 ∧ k = 4) ∨ (x = c0 ∧ k = 11) from Or.inr (h9)))))
  have k_31 : (gi σ1 c0 10).toInt = (gi σ0 c0 10).toInt := congrArg Int32.toInt (FX_i cσ1 (show ¬ (c0 = c0 + 1) from by first | omega | (have ugc0 := un gc0; omega)) (show ¬ ((c0 = c0 ∧ 10 = 4) ∨ (c0 = c0 ∧ 10 = 11)) from by first | omega | (have ugc0 := un gc0; omega)))
  have t_32 := XI_c1 mσ1 (id := c0) (k := 11) (lim_F0_11 hc0)
  have kr_33 : gr σ1 c0 9 = some 50 := (FX_r cσ1 (show ¬ (c0 = c0 + 1) from by first | omega | (have ugc0 := un gc0; omega)) (show ¬ ((c0 = c0 ∧ 9 = 4) ∨ (c0 = c0 ∧ 9 = 11)) from by first | omega | (have ugc0 := un gc0; omega))).trans pre0
  refine ⟨?_, ?_⟩
  · intro q_34
    have b_35 : ¬ r2.toInt = 0 := fun h9 => q_34 (Int32.toInt_inj.mp h9)
    have z_36 : (0 : Int32).toInt = 0 := rfl
    exact U12 a1 (0 : Int32) σ1 mσ1 fσ1 (by omega) (by omega) (by omega) (by omega) (by omega)
  · intro q_34
    have b_37 : r2.toInt = 0 := congrArg Int32.toInt q_34
    have z_38 : (0 : Int32).toInt = 0 := rfl
    exact h9ret (0 : Int32) σ1 mσ1 fσ1 (by omega) (by omega)
set_option maxRecDepth 100000 in
set_option maxHeartbeats 4000000 in
theorem k_X2_readsPart_r2 {l : Launch} {V : Vx} {c0 : Nat} {a1 : Int32} {σ0 : Sg} {Qk : Int32 → Sg → Prop} (hc0 : kd c0 = (12, 0)) (lc0 : c0 ∈ ids (V)) (m0 : XI V σ0) (l_a1 : 2 ≤ a1.toInt) (u_a1 : a1.toInt ≤ 2) (pre0 : gr σ0 c0 9 = some 50) (h9ret : ∀ (r : Int32) (σ' : Sg), XI V σ' → FX (fun id => id = c0 + 1) (fun id k => (id = c0 ∧ k = 4) ∨ (id = c0 ∧ k = 11)) σ0 σ' → (0 ≤ r.toInt) → (r.toInt ≤ 1) → Qk r σ') : K_X2_readsPart_r2 l V c0 a1 σ0 Qk := by
  refine e_X2_readsPart_r2 (fun M hl hV hN C => ?_)
  subst hl
  subst hV
  have gc0 : hid _ := kdF_ge hc0
  have T : ∀ n : Nat, (∀ (x1 : Int32) (σ : Sg), XI (mV M) σ → FX (fun id => id = c0 + 1) (fun id k => (id = c0 ∧ k = 4) ∨ (id = c0 ∧ k = 11)) σ0 σ → (2 ≤ x1.toInt) → (x1.toInt ≤ 2) → 1 < n → PS M 33 [(0, .ref c0), (1, .int x1)] [] σ (0, 0)) := by
    intro n
    induction n with
    | zero => exact fun _ _ _ _ _ _ h8 => absurd h8 (Nat.not_lt_zero _)
    | succ n ih =>
      have ih33 := ih
      · intro x1 σ mσ fσ lx1 ux1 hmu
        have kr_c0_9 : gr σ c0 9 = some 50 := (FX_r fσ (show ¬ (c0 = c0 + 1) from by first | omega | (have ugc0 := un gc0; omega)) (show ¬ ((c0 = c0 ∧ 9 = 4) ∨ (c0 = c0 ∧ 9 = 11)) from by first | omega | (have ugc0 := un gc0; omega))).trans pre0
        have k_1 : (gi σ c0 10).toInt = (gi σ0 c0 10).toInt := congrArg Int32.toInt (FX_i fσ (show ¬ (c0 = c0 + 1) from by first | omega | (have ugc0 := un gc0; omega)) (show ¬ ((c0 = c0 ∧ 10 = 4) ∨ (c0 = c0 ∧ 10 = 11)) from by first | omega | (have ugc0 := un gc0; omega)))
        have t_2 := XI_c1 mσ (id := c0) (k := 10) (lim_F0_10 hc0)
        have t_3 := XI_c1 mσ (id := c0) (k := 11) (lim_F0_11 hc0)
        refine s_X2_readsPart_r2_33 C hN hc0 lc0 ?_
        refine ⟨?_, ?_⟩
        · intro q_4
          have b_5 : (4 : Int) ≤ x1.toInt := Int32.le_iff_toInt_le.mp q_4
          refine k_X2_readsTest hc0 lc0 mσ  (by first | omega | assumption | rfl) (fun r3 σ2 mσ2 cσ2 plσ2 phσ2 => ?_)
          have fσ2 : FX (fun id => id = c0 + 1) (fun id k => (id = c0 ∧ k = 4) ∨ (id = c0 ∧ k = 11)) σ0 σ2 := FX_tr fσ cσ2 (fun x (h9 : x = c0 + 1) => (show x = c0 + 1 from h9)) (fun x k (h9 : (x = c0 ∧ k = 4) ∨ (x = c0 ∧ k = 11)) => (show (x = c0 + 1) ∨ ((x = c0 ∧ k = 4) ∨ (x = c0 ∧ k = 11)) from h9.elim (fun e9 => Or.inr (show (x = c0 ∧ k = 4) ∨ (x = c0 ∧ k = 11) from Or.inl (e9))) (fun h9 => Or.inr (show (x = c0 ∧ k = 4) ∨ (x = c0 ∧ k = 11) from Or.inr (h9)))))
          have k_6 : (gi σ2 c0 10).toInt = (gi σ c0 10).toInt := congrArg Int32.toInt (FX_i cσ2 (show ¬ (c0 = c0 + 1) from by first | omega | (have ugc0 := un gc0; omega)) (show ¬ ((c0 = c0 ∧ 10 = 4) ∨ (c0 = c0 ∧ 10 = 11)) from by first | omega | (have ugc0 := un gc0; omega)))
          have t_7 := XI_c1 mσ2 (id := c0) (k := 11) (lim_F0_11 hc0)
          have kr_8 : gr σ2 c0 9 = some 50 := (FX_r cσ2 (show ¬ (c0 = c0 + 1) from by first | omega | (have ugc0 := un gc0; omega)) (show ¬ ((c0 = c0 ∧ 9 = 4) ∨ (c0 = c0 ∧ 9 = 11)) from by first | omega | (have ugc0 := un gc0; omega))).trans kr_c0_9
          refine ⟨i_bool (by omega) (by omega), ?_⟩
          exact h9ret r3 σ2 mσ2 fσ2 (by omega) (by omega)
        · intro q_4
          have b_9 : ¬ (4 : Int) ≤ x1.toInt := fun h9 => q_4 (Int32.le_iff_toInt_le.mpr h9)
          have z_10 : (40 : Int32).toInt = 40 := rfl
          refine k_X2_takes hc0 lc0 mσ  (by omega) (by omega) (by first | omega | assumption | rfl) (fun r5 σ4 mσ4 cσ4 plσ4 phσ4 => ?_)
          have fσ4 : FX (fun id => id = c0 + 1) (fun id k => (id = c0 ∧ k = 4) ∨ (id = c0 ∧ k = 11)) σ0 σ4 := FX_tr fσ cσ4 (fun _ h9 => h9.elim) (fun x k (h9 : (x = c0 ∧ k = 11)) => (show (x = c0 + 1) ∨ ((x = c0 ∧ k = 4) ∨ (x = c0 ∧ k = 11)) from Or.inr (show (x = c0 ∧ k = 4) ∨ (x = c0 ∧ k = 11) from Or.inr (h9))))
          have k_11 : (gi σ4 c0 10).toInt = (gi σ c0 10).toInt := congrArg Int32.toInt (FX_i cσ4 id (show ¬ ((c0 = c0 ∧ 10 = 11)) from by first | omega | (have ugc0 := un gc0; omega)))
          have t_12 := XI_c1 mσ4 (id := c0) (k := 11) (lim_F0_11 hc0)
          have kr_13 : gr σ4 c0 9 = some 50 := (FX_r cσ4 id (show ¬ ((c0 = c0 ∧ 9 = 11)) from by first | omega | (have ugc0 := un gc0; omega))).trans kr_c0_9
          refine ⟨?_, ?_⟩
          · intro q_14
            have b_15 : r5.toInt = 0 := congrArg Int32.toInt q_14
            refine k_X2_readsTest hc0 lc0 mσ4  (by first | omega | assumption | rfl) (fun r8 σ7 mσ7 cσ7 plσ7 phσ7 => ?_)
            have fσ7 : FX (fun id => id = c0 + 1) (fun id k => (id = c0 ∧ k = 4) ∨ (id = c0 ∧ k = 11)) σ0 σ7 := FX_tr fσ4 cσ7 (fun x (h9 : x = c0 + 1) => (show x = c0 + 1 from h9)) (fun x k (h9 : (x = c0 ∧ k = 4) ∨ (x = c0 ∧ k = 11)) => (show (x = c0 + 1) ∨ ((x = c0 ∧ k = 4) ∨ (x = c0 ∧ k = 11)) from h9.elim (fun e9 => Or.inr (show (x = c0 ∧ k = 4) ∨ (x = c0 ∧ k = 11) from Or.inl (e9))) (fun h9 => Or.inr (show (x = c0 ∧ k = 4) ∨ (x = c0 ∧ k = 11) from Or.inr (h9)))))
            have k_16 : (gi σ7 c0 10).toInt = (gi σ4 c0 10).toInt := congrArg Int32.toInt (FX_i cσ7 (show ¬ (c0 = c0 + 1) from by first | omega | (have ugc0 := un gc0; omega)) (show ¬ ((c0 = c0 ∧ 10 = 4) ∨ (c0 = c0 ∧ 10 = 11)) from by first | omega | (have ugc0 := un gc0; omega)))
            have t_17 := XI_c1 mσ7 (id := c0) (k := 11) (lim_F0_11 hc0)
            have kr_18 : gr σ7 c0 9 = some 50 := (FX_r cσ7 (show ¬ (c0 = c0 + 1) from by first | omega | (have ugc0 := un gc0; omega)) (show ¬ ((c0 = c0 ∧ 9 = 4) ∨ (c0 = c0 ∧ 9 = 11)) from by first | omega | (have ugc0 := un gc0; omega))).trans kr_13
            refine ⟨i_bool (by omega) (by omega), ?_⟩
            exact h9ret r8 σ7 mσ7 fσ7 (by omega) (by omega)
          · intro q_14
            have b_19 : ¬ r5.toInt = 0 := fun h9 => q_14 (Int32.toInt_inj.mp h9)
            have t_20 : (x1 + (1 : Int32)).toInt = x1.toInt + 1 := i_add (x := x1) (y := (1 : Int32)) (by show (_ : Int) ≤ x1.toInt + 1; omega) (by show x1.toInt + 1 ≤ (_ : Int); omega)
            refine k_X2_readsEither_r3 hc0 lc0 mσ4  (by omega) (by omega) (by first | omega | assumption | rfl) (fun r10 σ9 mσ9 cσ9 plσ9 phσ9 => ?_)
            have fσ9 : FX (fun id => id = c0 + 1) (fun id k => (id = c0 ∧ k = 4) ∨ (id = c0 ∧ k = 11)) σ0 σ9 := FX_tr fσ4 cσ9 (fun x (h9 : x = c0 + 1) => (show x = c0 + 1 from h9)) (fun x k (h9 : (x = c0 ∧ k = 4) ∨ (x = c0 ∧ k = 11)) => (show (x = c0 + 1) ∨ ((x = c0 ∧ k = 4) ∨ (x = c0 ∧ k = 11)) from h9.elim (fun e9 => Or.inr (show (x = c0 ∧ k = 4) ∨ (x = c0 ∧ k = 11) from Or.inl (e9))) (fun h9 => Or.inr (show (x = c0 ∧ k = 4) ∨ (x = c0 ∧ k = 11) from Or.inr (h9)))))
            have k_21 : (gi σ9 c0 10).toInt = (gi σ4 c0 10).toInt := congrArg Int32.toInt (FX_i cσ9 (show ¬ (c0 = c0 + 1) from by first | omega | (have ugc0 := un gc0; omega)) (show ¬ ((c0 = c0 ∧ 10 = 4) ∨ (c0 = c0 ∧ 10 = 11)) from by first | omega | (have ugc0 := un gc0; omega)))
            have t_22 := XI_c1 mσ9 (id := c0) (k := 11) (lim_F0_11 hc0)
            have kr_23 : gr σ9 c0 9 = some 50 := (FX_r cσ9 (show ¬ (c0 = c0 + 1) from by first | omega | (have ugc0 := un gc0; omega)) (show ¬ ((c0 = c0 ∧ 9 = 4) ∨ (c0 = c0 ∧ 9 = 11)) from by first | omega | (have ugc0 := un gc0; omega))).trans kr_13
            refine ⟨?_, ?_⟩
            · intro q_24
              have b_25 : r10.toInt = 0 := congrArg Int32.toInt q_24
              have z_26 : (0 : Int32).toInt = 0 := rfl
              exact h9ret (0 : Int32) σ9 mσ9 fσ9 (by omega) (by omega)
            · intro q_24
              have b_27 : ¬ r10.toInt = 0 := fun h9 => q_24 (Int32.toInt_inj.mp h9)
              have z_28 : (41 : Int32).toInt = 41 := rfl
              refine k_X2_takes hc0 lc0 mσ9  (by omega) (by omega) (by first | omega | assumption | rfl) (fun r13 σ12 mσ12 cσ12 plσ12 phσ12 => ?_)
              have fσ12 : FX (fun id => id = c0 + 1) (fun id k => (id = c0 ∧ k = 4) ∨ (id = c0 ∧ k = 11)) σ0 σ12 := FX_tr fσ9 cσ12 (fun _ h9 => h9.elim) (fun x k (h9 : (x = c0 ∧ k = 11)) => (show (x = c0 + 1) ∨ ((x = c0 ∧ k = 4) ∨ (x = c0 ∧ k = 11)) from Or.inr (show (x = c0 ∧ k = 4) ∨ (x = c0 ∧ k = 11) from Or.inr (h9))))
              have k_29 : (gi σ12 c0 10).toInt = (gi σ9 c0 10).toInt := congrArg Int32.toInt (FX_i cσ12 id (show ¬ ((c0 = c0 ∧ 10 = 11)) from by first | omega | (have ugc0 := un gc0; omega)))
              have t_30 := XI_c1 mσ12 (id := c0) (k := 11) (lim_F0_11 hc0)
              have kr_31 : gr σ12 c0 9 = some 50 := (FX_r cσ12 id (show ¬ ((c0 = c0 ∧ 9 = 11)) from by first | omega | (have ugc0 := un gc0; omega))).trans kr_23
              refine ⟨?_, ?_⟩
              · intro q_32
                have b_33 : r13.toInt = 0 := congrArg Int32.toInt q_32
                have z_34 : (0 : Int32).toInt = 0 := rfl
                exact h9ret (0 : Int32) σ12 mσ12 fσ12 (by omega) (by omega)
              · intro q_32
                have b_35 : ¬ r13.toInt = 0 := fun h9 => q_32 (Int32.toInt_inj.mp h9)
                have z_36 : (1 : Int32).toInt = 1 := rfl
                exact h9ret (1 : Int32) σ12 mσ12 fσ12 (by omega) (by omega)
  have U33 := T 9
  have f0 : FX (fun id => id = c0 + 1) (fun id k => (id = c0 ∧ k = 4) ∨ (id = c0 ∧ k = 11)) σ0 σ0 := FX_rf
  have t_37 := XI_c1 m0 (id := c0) (k := 10) (lim_F0_10 hc0)
  have t_38 := XI_c1 m0 (id := c0) (k := 11) (lim_F0_11 hc0)
  refine s_X2_readsPart_r2_0 C hN hc0 lc0 ?_
  refine ⟨?_, ?_⟩
  · intro q_39
    have b_40 : (4 : Int) ≤ a1.toInt := Int32.le_iff_toInt_le.mp q_39
    exact U33 a1 σ0 m0 f0 (by omega) (by omega) (by omega)
  · intro q_39
    have b_41 : ¬ (4 : Int) ≤ a1.toInt := fun h9 => q_39 (Int32.le_iff_toInt_le.mpr h9)
    have z_42 : (33 : Int32).toInt = 33 := rfl
    refine k_X2_takes hc0 lc0 m0  (by omega) (by omega) (by first | omega | assumption | rfl) (fun r3 σ2 mσ2 cσ2 plσ2 phσ2 => ?_)
    have fσ2 : FX (fun id => id = c0 + 1) (fun id k => (id = c0 ∧ k = 4) ∨ (id = c0 ∧ k = 11)) σ0 σ2 := FX_tr f0 cσ2 (fun _ h9 => h9.elim) (fun x k (h9 : (x = c0 ∧ k = 11)) => (show (x = c0 + 1) ∨ ((x = c0 ∧ k = 4) ∨ (x = c0 ∧ k = 11)) from Or.inr (show (x = c0 ∧ k = 4) ∨ (x = c0 ∧ k = 11) from Or.inr (h9))))
    have k_43 : (gi σ2 c0 10).toInt = (gi σ0 c0 10).toInt := congrArg Int32.toInt (FX_i cσ2 id (show ¬ ((c0 = c0 ∧ 10 = 11)) from by first | omega | (have ugc0 := un gc0; omega)))
    have t_44 := XI_c1 mσ2 (id := c0) (k := 11) (lim_F0_11 hc0)
    have kr_45 : gr σ2 c0 9 = some 50 := (FX_r cσ2 id (show ¬ ((c0 = c0 ∧ 9 = 11)) from by first | omega | (have ugc0 := un gc0; omega))).trans pre0
    refine ⟨?_, ?_⟩
    · intro q_46
      have b_47 : r3.toInt = 0 := congrArg Int32.toInt q_46
      exact U33 a1 σ2 mσ2 fσ2 (by omega) (by omega) (by omega)
    · intro q_46
      have b_48 : ¬ r3.toInt = 0 := fun h9 => q_46 (Int32.toInt_inj.mp h9)
      have t_49 : (a1 + (1 : Int32)).toInt = a1.toInt + 1 := i_add (x := a1) (y := (1 : Int32)) (by show (_ : Int) ≤ a1.toInt + 1; omega) (by show a1.toInt + 1 ≤ (_ : Int); omega)
      refine k_X2_readsPart_r3 hc0 lc0 mσ2  (by omega) (by omega) (by first | omega | assumption | rfl) (fun r6 σ5 mσ5 cσ5 plσ5 phσ5 => ?_)
      have fσ5 : FX (fun id => id = c0 + 1) (fun id k => (id = c0 ∧ k = 4) ∨ (id = c0 ∧ k = 11)) σ0 σ5 := FX_tr fσ2 cσ5 (fun x (h9 : x = c0 + 1) => (show x = c0 + 1 from h9)) (fun x k (h9 : (x = c0 ∧ k = 4) ∨ (x = c0 ∧ k = 11)) => (show (x = c0 + 1) ∨ ((x = c0 ∧ k = 4) ∨ (x = c0 ∧ k = 11)) from h9.elim (fun e9 => Or.inr (show (x = c0 ∧ k = 4) ∨ (x = c0 ∧ k = 11) from Or.inl (e9))) (fun h9 => Or.inr (show (x = c0 ∧ k = 4) ∨ (x = c0 ∧ k = 11) from Or.inr (h9)))))
      have k_50 : (gi σ5 c0 10).toInt = (gi σ2 c0 10).toInt := congrArg Int32.toInt (FX_i cσ5 (show ¬ (c0 = c0 + 1) from by first | omega | (have ugc0 := un gc0; omega)) (show ¬ ((c0 = c0 ∧ 10 = 4) ∨ (c0 = c0 ∧ 10 = 11)) from by first | omega | (have ugc0 := un gc0; omega)))
      have t_51 := XI_c1 mσ5 (id := c0) (k := 11) (lim_F0_11 hc0)
      have kr_52 : gr σ5 c0 9 = some 50 := (FX_r cσ5 (show ¬ (c0 = c0 + 1) from by first | omega | (have ugc0 := un gc0; omega)) (show ¬ ((c0 = c0 ∧ 9 = 4) ∨ (c0 = c0 ∧ 9 = 11)) from by first | omega | (have ugc0 := un gc0; omega))).trans kr_45
      refine ⟨?_, ?_⟩
      · intro q_53
        have b_54 : ¬ r6.toInt = 0 := fun h9 => q_53 (Int32.toInt_inj.mp h9)
        have z_55 : (-1 : Int32).toInt = -1 := rfl
        refine k_X2_writes hc0 lc0 mσ5  (by omega) (by omega) (fun σ8 mσ8 cσ8 => ?_)
        have fσ8 : FX (fun id => id = c0 + 1) (fun id k => (id = c0 ∧ k = 4) ∨ (id = c0 ∧ k = 11)) σ0 σ8 := FX_tr fσ5 cσ8 (fun x (h9 : x = c0 + 1) => (show x = c0 + 1 from h9)) (fun x k (h9 : (x = c0 ∧ k = 4)) => (show (x = c0 + 1) ∨ ((x = c0 ∧ k = 4) ∨ (x = c0 ∧ k = 11)) from Or.inr (show (x = c0 ∧ k = 4) ∨ (x = c0 ∧ k = 11) from Or.inl (h9))))
        have k_56 : (gi σ8 c0 10).toInt = (gi σ5 c0 10).toInt := congrArg Int32.toInt (FX_i cσ8 (show ¬ (c0 = c0 + 1) from by first | omega | (have ugc0 := un gc0; omega)) (show ¬ ((c0 = c0 ∧ 10 = 4)) from by first | omega | (have ugc0 := un gc0; omega)))
        have k_57 : (gi σ8 c0 11).toInt = (gi σ5 c0 11).toInt := congrArg Int32.toInt (FX_i cσ8 (show ¬ (c0 = c0 + 1) from by first | omega | (have ugc0 := un gc0; omega)) (show ¬ ((c0 = c0 ∧ 11 = 4)) from by first | omega | (have ugc0 := un gc0; omega)))
        have kr_58 : gr σ8 c0 9 = some 50 := (FX_r cσ8 (show ¬ (c0 = c0 + 1) from by first | omega | (have ugc0 := un gc0; omega)) (show ¬ ((c0 = c0 ∧ 9 = 4)) from by first | omega | (have ugc0 := un gc0; omega))).trans kr_52
        have z_59 : (1 : Int32).toInt = 1 := rfl
        exact h9ret (1 : Int32) σ8 mσ8 fσ8 (by omega) (by omega)
      · intro q_53
        have b_60 : r6.toInt = 0 := congrArg Int32.toInt q_53
        have z_61 : (0 : Int32).toInt = 0 := rfl
        exact h9ret (0 : Int32) σ5 mσ5 fσ5 (by omega) (by omega)
set_option maxRecDepth 100000 in
set_option maxHeartbeats 4000000 in
theorem k_X2_readsBoth_r2 {l : Launch} {V : Vx} {c0 : Nat} {a1 : Int32} {σ0 : Sg} {Qk : Int32 → Sg → Prop} (hc0 : kd c0 = (12, 0)) (lc0 : c0 ∈ ids (V)) (m0 : XI V σ0) (l_a1 : 2 ≤ a1.toInt) (u_a1 : a1.toInt ≤ 2) (pre0 : gr σ0 c0 9 = some 50) (h9ret : ∀ (r : Int32) (σ' : Sg), XI V σ' → FX (fun id => id = c0 + 1) (fun id k => (id = c0 ∧ k = 4) ∨ (id = c0 ∧ k = 11)) σ0 σ' → (0 ≤ r.toInt) → (r.toInt ≤ 1) → Qk r σ') : K_X2_readsBoth_r2 l V c0 a1 σ0 Qk := by
  refine e_X2_readsBoth_r2 (fun M hl hV hN C => ?_)
  subst hl
  subst hV
  have gc0 : hid _ := kdF_ge hc0
  have T : ∀ n : Nat, (∀ (x1 : Int32) (x2 : Int32) (σ : Sg), XI (mV M) σ → FX (fun id => id = c0 + 1) (fun id k => (id = c0 ∧ k = 4) ∨ (id = c0 ∧ k = 11)) σ0 σ → (2 ≤ x1.toInt) → (x1.toInt ≤ 2) → (0 ≤ x2.toInt) → (x2.toInt ≤ 100) → (101 - x2.toInt).toNat < n → PS M 12 [(0, .ref c0), (1, .int x1), (2, .int x2)] [] σ (0, 0)) := by
    intro n
    induction n with
    | zero => exact fun _ _ _ _ _ _ _ _ _ h8 => absurd h8 (Nat.not_lt_zero _)
    | succ n ih =>
      have ih12 := ih
      · intro x1 x2 σ mσ fσ lx1 ux1 lx2 ux2 hmu
        have kr_c0_9 : gr σ c0 9 = some 50 := (FX_r fσ (show ¬ (c0 = c0 + 1) from by first | omega | (have ugc0 := un gc0; omega)) (show ¬ ((c0 = c0 ∧ 9 = 4) ∨ (c0 = c0 ∧ 9 = 11)) from by first | omega | (have ugc0 := un gc0; omega))).trans pre0
        have k_1 : (gi σ c0 10).toInt = (gi σ0 c0 10).toInt := congrArg Int32.toInt (FX_i fσ (show ¬ (c0 = c0 + 1) from by first | omega | (have ugc0 := un gc0; omega)) (show ¬ ((c0 = c0 ∧ 10 = 4) ∨ (c0 = c0 ∧ 10 = 11)) from by first | omega | (have ugc0 := un gc0; omega)))
        have t_2 := XI_c1 mσ (id := c0) (k := 10) (lim_F0_10 hc0)
        have t_3 := XI_c1 mσ (id := c0) (k := 11) (lim_F0_11 hc0)
        refine s_X2_readsBoth_r2_12 C hN hc0 lc0 ?_
        refine ⟨?_, ?_⟩
        · intro q_4
          have b_5 : (100 : Int) ≤ x2.toInt := Int32.le_iff_toInt_le.mp q_4
          have z_6 : (1 : Int32).toInt = 1 := rfl
          exact h9ret (1 : Int32) σ mσ fσ (by omega) (by omega)
        · intro q_4
          have b_7 : ¬ (100 : Int) ≤ x2.toInt := fun h9 => q_4 (Int32.le_iff_toInt_le.mpr h9)
          have z_8 : (38 : Int32).toInt = 38 := rfl
          refine k_X2_takes hc0 lc0 mσ  (by omega) (by omega) (by first | omega | assumption | rfl) (fun r3 σ2 mσ2 cσ2 plσ2 phσ2 => ?_)
          have fσ2 : FX (fun id => id = c0 + 1) (fun id k => (id = c0 ∧ k = 4) ∨ (id = c0 ∧ k = 11)) σ0 σ2 := FX_tr fσ cσ2 (fun _ h9 => h9.elim) (fun x k (h9 : (x = c0 ∧ k = 11)) => (show (x = c0 + 1) ∨ ((x = c0 ∧ k = 4) ∨ (x = c0 ∧ k = 11)) from Or.inr (show (x = c0 ∧ k = 4) ∨ (x = c0 ∧ k = 11) from Or.inr (h9))))
          have k_9 : (gi σ2 c0 10).toInt = (gi σ c0 10).toInt := congrArg Int32.toInt (FX_i cσ2 id (show ¬ ((c0 = c0 ∧ 10 = 11)) from by first | omega | (have ugc0 := un gc0; omega)))
          have t_10 := XI_c1 mσ2 (id := c0) (k := 11) (lim_F0_11 hc0)
          have kr_11 : gr σ2 c0 9 = some 50 := (FX_r cσ2 id (show ¬ ((c0 = c0 ∧ 9 = 11)) from by first | omega | (have ugc0 := un gc0; omega))).trans kr_c0_9
          refine ⟨?_, ?_⟩
          · intro q_12
            have b_13 : r3.toInt = 0 := congrArg Int32.toInt q_12
            have z_14 : (1 : Int32).toInt = 1 := rfl
            exact h9ret (1 : Int32) σ2 mσ2 fσ2 (by omega) (by omega)
          · intro q_12
            have b_15 : ¬ r3.toInt = 0 := fun h9 => q_12 (Int32.toInt_inj.mp h9)
            refine k_X2_readsPart_r2 hc0 lc0 mσ2  (by omega) (by omega) (by first | omega | assumption | rfl) (fun r6 σ5 mσ5 cσ5 plσ5 phσ5 => ?_)
            have fσ5 : FX (fun id => id = c0 + 1) (fun id k => (id = c0 ∧ k = 4) ∨ (id = c0 ∧ k = 11)) σ0 σ5 := FX_tr fσ2 cσ5 (fun x (h9 : x = c0 + 1) => (show x = c0 + 1 from h9)) (fun x k (h9 : (x = c0 ∧ k = 4) ∨ (x = c0 ∧ k = 11)) => (show (x = c0 + 1) ∨ ((x = c0 ∧ k = 4) ∨ (x = c0 ∧ k = 11)) from h9.elim (fun e9 => Or.inr (show (x = c0 ∧ k = 4) ∨ (x = c0 ∧ k = 11) from Or.inl (e9))) (fun h9 => Or.inr (show (x = c0 ∧ k = 4) ∨ (x = c0 ∧ k = 11) from Or.inr (h9)))))
            have k_16 : (gi σ5 c0 10).toInt = (gi σ2 c0 10).toInt := congrArg Int32.toInt (FX_i cσ5 (show ¬ (c0 = c0 + 1) from by first | omega | (have ugc0 := un gc0; omega)) (show ¬ ((c0 = c0 ∧ 10 = 4) ∨ (c0 = c0 ∧ 10 = 11)) from by first | omega | (have ugc0 := un gc0; omega)))
            have t_17 := XI_c1 mσ5 (id := c0) (k := 11) (lim_F0_11 hc0)
            have kr_18 : gr σ5 c0 9 = some 50 := (FX_r cσ5 (show ¬ (c0 = c0 + 1) from by first | omega | (have ugc0 := un gc0; omega)) (show ¬ ((c0 = c0 ∧ 9 = 4) ∨ (c0 = c0 ∧ 9 = 11)) from by first | omega | (have ugc0 := un gc0; omega))).trans kr_11
            refine ⟨?_, ?_⟩
            · intro q_19
              have b_20 : ¬ r6.toInt = 0 := fun h9 => q_19 (Int32.toInt_inj.mp h9)
              have z_21 : (-2 : Int32).toInt = -2 := rfl
              refine k_X2_writes hc0 lc0 mσ5  (by omega) (by omega) (fun σ8 mσ8 cσ8 => ?_)
              have fσ8 : FX (fun id => id = c0 + 1) (fun id k => (id = c0 ∧ k = 4) ∨ (id = c0 ∧ k = 11)) σ0 σ8 := FX_tr fσ5 cσ8 (fun x (h9 : x = c0 + 1) => (show x = c0 + 1 from h9)) (fun x k (h9 : (x = c0 ∧ k = 4)) => (show (x = c0 + 1) ∨ ((x = c0 ∧ k = 4) ∨ (x = c0 ∧ k = 11)) from Or.inr (show (x = c0 ∧ k = 4) ∨ (x = c0 ∧ k = 11) from Or.inl (h9))))
              have k_22 : (gi σ8 c0 10).toInt = (gi σ5 c0 10).toInt := congrArg Int32.toInt (FX_i cσ8 (show ¬ (c0 = c0 + 1) from by first | omega | (have ugc0 := un gc0; omega)) (show ¬ ((c0 = c0 ∧ 10 = 4)) from by first | omega | (have ugc0 := un gc0; omega)))
              have k_23 : (gi σ8 c0 11).toInt = (gi σ5 c0 11).toInt := congrArg Int32.toInt (FX_i cσ8 (show ¬ (c0 = c0 + 1) from by first | omega | (have ugc0 := un gc0; omega)) (show ¬ ((c0 = c0 ∧ 11 = 4)) from by first | omega | (have ugc0 := un gc0; omega)))
              have kr_24 : gr σ8 c0 9 = some 50 := (FX_r cσ8 (show ¬ (c0 = c0 + 1) from by first | omega | (have ugc0 := un gc0; omega)) (show ¬ ((c0 = c0 ∧ 9 = 4)) from by first | omega | (have ugc0 := un gc0; omega))).trans kr_18
              intro v9 ev9
              have t_25 : (x2 + (1 : Int32)).toInt = x2.toInt + 1 := i_add (x := x2) (y := (1 : Int32)) (by show (_ : Int) ≤ x2.toInt + 1; omega) (by show x2.toInt + 1 ≤ (_ : Int); omega)
              have t_26 : v9.toInt = (x2 + (1 : Int32)).toInt := congrArg Int32.toInt ev9
              exact ih12 x1 v9 σ8 mσ8 fσ8 (by omega) (by omega) (by omega) (by omega) (by omega)
            · intro q_19
              have b_27 : r6.toInt = 0 := congrArg Int32.toInt q_19
              have z_28 : (0 : Int32).toInt = 0 := rfl
              exact h9ret (0 : Int32) σ5 mσ5 fσ5 (by omega) (by omega)
  have U12 := T 200
  have f0 : FX (fun id => id = c0 + 1) (fun id k => (id = c0 ∧ k = 4) ∨ (id = c0 ∧ k = 11)) σ0 σ0 := FX_rf
  have t_29 := XI_c1 m0 (id := c0) (k := 10) (lim_F0_10 hc0)
  have t_30 := XI_c1 m0 (id := c0) (k := 11) (lim_F0_11 hc0)
  refine s_X2_readsBoth_r2_0 C hN hc0 lc0 ?_
  refine k_X2_readsPart_r2 hc0 lc0 m0  (by omega) (by omega) (by first | omega | assumption | rfl) (fun r2 σ1 mσ1 cσ1 plσ1 phσ1 => ?_)
  have fσ1 : FX (fun id => id = c0 + 1) (fun id k => (id = c0 ∧ k = 4) ∨ (id = c0 ∧ k = 11)) σ0 σ1 := FX_tr f0 cσ1 (fun x (h9 : x = c0 + 1) => (show x = c0 + 1 from h9)) (fun x k (h9 : (x = c0 ∧ k = 4) ∨ (x = c0 ∧ k = 11)) => (show (x = c0 + 1) ∨ ((x = c0 ∧ k = 4) ∨ (x = c0 ∧ k = 11)) from h9.elim (fun e9 => Or.inr (show (x = c0 ∧ k = 4) ∨ (x = c0 ∧ k = 11) from Or.inl (e9))) (fun h9 => Or.inr (show (x = c0 ∧ k = 4) ∨ (x = c0 ∧ k = 11) from Or.inr (h9)))))
  have k_31 : (gi σ1 c0 10).toInt = (gi σ0 c0 10).toInt := congrArg Int32.toInt (FX_i cσ1 (show ¬ (c0 = c0 + 1) from by first | omega | (have ugc0 := un gc0; omega)) (show ¬ ((c0 = c0 ∧ 10 = 4) ∨ (c0 = c0 ∧ 10 = 11)) from by first | omega | (have ugc0 := un gc0; omega)))
  have t_32 := XI_c1 mσ1 (id := c0) (k := 11) (lim_F0_11 hc0)
  have kr_33 : gr σ1 c0 9 = some 50 := (FX_r cσ1 (show ¬ (c0 = c0 + 1) from by first | omega | (have ugc0 := un gc0; omega)) (show ¬ ((c0 = c0 ∧ 9 = 4) ∨ (c0 = c0 ∧ 9 = 11)) from by first | omega | (have ugc0 := un gc0; omega))).trans pre0
  refine ⟨?_, ?_⟩
  · intro q_34
    have b_35 : ¬ r2.toInt = 0 := fun h9 => q_34 (Int32.toInt_inj.mp h9)
    have z_36 : (0 : Int32).toInt = 0 := rfl
    exact U12 a1 (0 : Int32) σ1 mσ1 fσ1 (by omega) (by omega) (by omega) (by omega) (by omega)
  · intro q_34
    have b_37 : r2.toInt = 0 := congrArg Int32.toInt q_34
    have z_38 : (0 : Int32).toInt = 0 := rfl
    exact h9ret (0 : Int32) σ1 mσ1 fσ1 (by omega) (by omega)
set_option maxRecDepth 100000 in
set_option maxHeartbeats 4000000 in
theorem k_X2_readsEither_r2 {l : Launch} {V : Vx} {c0 : Nat} {a1 : Int32} {σ0 : Sg} {Qk : Int32 → Sg → Prop} (hc0 : kd c0 = (12, 0)) (lc0 : c0 ∈ ids (V)) (m0 : XI V σ0) (l_a1 : 2 ≤ a1.toInt) (u_a1 : a1.toInt ≤ 2) (pre0 : gr σ0 c0 9 = some 50) (h9ret : ∀ (r : Int32) (σ' : Sg), XI V σ' → FX (fun id => id = c0 + 1) (fun id k => (id = c0 ∧ k = 4) ∨ (id = c0 ∧ k = 11)) σ0 σ' → (0 ≤ r.toInt) → (r.toInt ≤ 1) → Qk r σ') : K_X2_readsEither_r2 l V c0 a1 σ0 Qk := by
  refine e_X2_readsEither_r2 (fun M hl hV hN C => ?_)
  subst hl
  subst hV
  have gc0 : hid _ := kdF_ge hc0
  have T : ∀ n : Nat, (∀ (x1 : Int32) (x2 : Int32) (σ : Sg), XI (mV M) σ → FX (fun id => id = c0 + 1) (fun id k => (id = c0 ∧ k = 4) ∨ (id = c0 ∧ k = 11)) σ0 σ → (2 ≤ x1.toInt) → (x1.toInt ≤ 2) → (0 ≤ x2.toInt) → (x2.toInt ≤ 100) → (101 - x2.toInt).toNat < n → PS M 12 [(0, .ref c0), (1, .int x1), (2, .int x2)] [] σ (0, 0)) := by
    intro n
    induction n with
    | zero => exact fun _ _ _ _ _ _ _ _ _ h8 => absurd h8 (Nat.not_lt_zero _)
    | succ n ih =>
      have ih12 := ih
      · intro x1 x2 σ mσ fσ lx1 ux1 lx2 ux2 hmu
        have kr_c0_9 : gr σ c0 9 = some 50 := (FX_r fσ (show ¬ (c0 = c0 + 1) from by first | omega | (have ugc0 := un gc0; omega)) (show ¬ ((c0 = c0 ∧ 9 = 4) ∨ (c0 = c0 ∧ 9 = 11)) from by first | omega | (have ugc0 := un gc0; omega))).trans pre0
        have k_1 : (gi σ c0 10).toInt = (gi σ0 c0 10).toInt := congrArg Int32.toInt (FX_i fσ (show ¬ (c0 = c0 + 1) from by first | omega | (have ugc0 := un gc0; omega)) (show ¬ ((c0 = c0 ∧ 10 = 4) ∨ (c0 = c0 ∧ 10 = 11)) from by first | omega | (have ugc0 := un gc0; omega)))
        have t_2 := XI_c1 mσ (id := c0) (k := 10) (lim_F0_10 hc0)
        have t_3 := XI_c1 mσ (id := c0) (k := 11) (lim_F0_11 hc0)
        refine s_X2_readsEither_r2_12 C hN hc0 lc0 ?_
        refine ⟨?_, ?_⟩
        · intro q_4
          have b_5 : (100 : Int) ≤ x2.toInt := Int32.le_iff_toInt_le.mp q_4
          have z_6 : (1 : Int32).toInt = 1 := rfl
          exact h9ret (1 : Int32) σ mσ fσ (by omega) (by omega)
        · intro q_4
          have b_7 : ¬ (100 : Int) ≤ x2.toInt := fun h9 => q_4 (Int32.le_iff_toInt_le.mpr h9)
          have z_8 : (124 : Int32).toInt = 124 := rfl
          refine k_X2_takes hc0 lc0 mσ  (by omega) (by omega) (by first | omega | assumption | rfl) (fun r3 σ2 mσ2 cσ2 plσ2 phσ2 => ?_)
          have fσ2 : FX (fun id => id = c0 + 1) (fun id k => (id = c0 ∧ k = 4) ∨ (id = c0 ∧ k = 11)) σ0 σ2 := FX_tr fσ cσ2 (fun _ h9 => h9.elim) (fun x k (h9 : (x = c0 ∧ k = 11)) => (show (x = c0 + 1) ∨ ((x = c0 ∧ k = 4) ∨ (x = c0 ∧ k = 11)) from Or.inr (show (x = c0 ∧ k = 4) ∨ (x = c0 ∧ k = 11) from Or.inr (h9))))
          have k_9 : (gi σ2 c0 10).toInt = (gi σ c0 10).toInt := congrArg Int32.toInt (FX_i cσ2 id (show ¬ ((c0 = c0 ∧ 10 = 11)) from by first | omega | (have ugc0 := un gc0; omega)))
          have t_10 := XI_c1 mσ2 (id := c0) (k := 11) (lim_F0_11 hc0)
          have kr_11 : gr σ2 c0 9 = some 50 := (FX_r cσ2 id (show ¬ ((c0 = c0 ∧ 9 = 11)) from by first | omega | (have ugc0 := un gc0; omega))).trans kr_c0_9
          refine ⟨?_, ?_⟩
          · intro q_12
            have b_13 : r3.toInt = 0 := congrArg Int32.toInt q_12
            have z_14 : (1 : Int32).toInt = 1 := rfl
            exact h9ret (1 : Int32) σ2 mσ2 fσ2 (by omega) (by omega)
          · intro q_12
            have b_15 : ¬ r3.toInt = 0 := fun h9 => q_12 (Int32.toInt_inj.mp h9)
            refine k_X2_readsBoth_r2 hc0 lc0 mσ2  (by omega) (by omega) (by first | omega | assumption | rfl) (fun r6 σ5 mσ5 cσ5 plσ5 phσ5 => ?_)
            have fσ5 : FX (fun id => id = c0 + 1) (fun id k => (id = c0 ∧ k = 4) ∨ (id = c0 ∧ k = 11)) σ0 σ5 := FX_tr fσ2 cσ5 (fun x (h9 : x = c0 + 1) => (show x = c0 + 1 from h9)) (fun x k (h9 : (x = c0 ∧ k = 4) ∨ (x = c0 ∧ k = 11)) => (show (x = c0 + 1) ∨ ((x = c0 ∧ k = 4) ∨ (x = c0 ∧ k = 11)) from h9.elim (fun e9 => Or.inr (show (x = c0 ∧ k = 4) ∨ (x = c0 ∧ k = 11) from Or.inl (e9))) (fun h9 => Or.inr (show (x = c0 ∧ k = 4) ∨ (x = c0 ∧ k = 11) from Or.inr (h9)))))
            have k_16 : (gi σ5 c0 10).toInt = (gi σ2 c0 10).toInt := congrArg Int32.toInt (FX_i cσ5 (show ¬ (c0 = c0 + 1) from by first | omega | (have ugc0 := un gc0; omega)) (show ¬ ((c0 = c0 ∧ 10 = 4) ∨ (c0 = c0 ∧ 10 = 11)) from by first | omega | (have ugc0 := un gc0; omega)))
            have t_17 := XI_c1 mσ5 (id := c0) (k := 11) (lim_F0_11 hc0)
            have kr_18 : gr σ5 c0 9 = some 50 := (FX_r cσ5 (show ¬ (c0 = c0 + 1) from by first | omega | (have ugc0 := un gc0; omega)) (show ¬ ((c0 = c0 ∧ 9 = 4) ∨ (c0 = c0 ∧ 9 = 11)) from by first | omega | (have ugc0 := un gc0; omega))).trans kr_11
            refine ⟨?_, ?_⟩
            · intro q_19
              have b_20 : ¬ r6.toInt = 0 := fun h9 => q_19 (Int32.toInt_inj.mp h9)
              have z_21 : (-3 : Int32).toInt = -3 := rfl
              refine k_X2_writes hc0 lc0 mσ5  (by omega) (by omega) (fun σ8 mσ8 cσ8 => ?_)
              have fσ8 : FX (fun id => id = c0 + 1) (fun id k => (id = c0 ∧ k = 4) ∨ (id = c0 ∧ k = 11)) σ0 σ8 := FX_tr fσ5 cσ8 (fun x (h9 : x = c0 + 1) => (show x = c0 + 1 from h9)) (fun x k (h9 : (x = c0 ∧ k = 4)) => (show (x = c0 + 1) ∨ ((x = c0 ∧ k = 4) ∨ (x = c0 ∧ k = 11)) from Or.inr (show (x = c0 ∧ k = 4) ∨ (x = c0 ∧ k = 11) from Or.inl (h9))))
              have k_22 : (gi σ8 c0 10).toInt = (gi σ5 c0 10).toInt := congrArg Int32.toInt (FX_i cσ8 (show ¬ (c0 = c0 + 1) from by first | omega | (have ugc0 := un gc0; omega)) (show ¬ ((c0 = c0 ∧ 10 = 4)) from by first | omega | (have ugc0 := un gc0; omega)))
              have k_23 : (gi σ8 c0 11).toInt = (gi σ5 c0 11).toInt := congrArg Int32.toInt (FX_i cσ8 (show ¬ (c0 = c0 + 1) from by first | omega | (have ugc0 := un gc0; omega)) (show ¬ ((c0 = c0 ∧ 11 = 4)) from by first | omega | (have ugc0 := un gc0; omega)))
              have kr_24 : gr σ8 c0 9 = some 50 := (FX_r cσ8 (show ¬ (c0 = c0 + 1) from by first | omega | (have ugc0 := un gc0; omega)) (show ¬ ((c0 = c0 ∧ 9 = 4)) from by first | omega | (have ugc0 := un gc0; omega))).trans kr_18
              intro v9 ev9
              have t_25 : (x2 + (1 : Int32)).toInt = x2.toInt + 1 := i_add (x := x2) (y := (1 : Int32)) (by show (_ : Int) ≤ x2.toInt + 1; omega) (by show x2.toInt + 1 ≤ (_ : Int); omega)
              have t_26 : v9.toInt = (x2 + (1 : Int32)).toInt := congrArg Int32.toInt ev9
              exact ih12 x1 v9 σ8 mσ8 fσ8 (by omega) (by omega) (by omega) (by omega) (by omega)
            · intro q_19
              have b_27 : r6.toInt = 0 := congrArg Int32.toInt q_19
              have z_28 : (0 : Int32).toInt = 0 := rfl
              exact h9ret (0 : Int32) σ5 mσ5 fσ5 (by omega) (by omega)
  have U12 := T 200
  have f0 : FX (fun id => id = c0 + 1) (fun id k => (id = c0 ∧ k = 4) ∨ (id = c0 ∧ k = 11)) σ0 σ0 := FX_rf
  have t_29 := XI_c1 m0 (id := c0) (k := 10) (lim_F0_10 hc0)
  have t_30 := XI_c1 m0 (id := c0) (k := 11) (lim_F0_11 hc0)
  refine s_X2_readsEither_r2_0 C hN hc0 lc0 ?_
  refine k_X2_readsBoth_r2 hc0 lc0 m0  (by omega) (by omega) (by first | omega | assumption | rfl) (fun r2 σ1 mσ1 cσ1 plσ1 phσ1 => ?_)
  have fσ1 : FX (fun id => id = c0 + 1) (fun id k => (id = c0 ∧ k = 4) ∨ (id = c0 ∧ k = 11)) σ0 σ1 := FX_tr f0 cσ1 (fun x (h9 : x = c0 + 1) => (show x = c0 + 1 from h9)) (fun x k (h9 : (x = c0 ∧ k = 4) ∨ (x = c0 ∧ k = 11)) => (show (x = c0 + 1) ∨ ((x = c0 ∧ k = 4) ∨ (x = c0 ∧ k = 11)) from h9.elim (fun e9 => Or.inr (show (x = c0 ∧ k = 4) ∨ (x = c0 ∧ k = 11) from Or.inl (e9))) (fun h9 => Or.inr (show (x = c0 ∧ k = 4) ∨ (x = c0 ∧ k = 11) from Or.inr (h9)))))
  have k_31 : (gi σ1 c0 10).toInt = (gi σ0 c0 10).toInt := congrArg Int32.toInt (FX_i cσ1 (show ¬ (c0 = c0 + 1) from by first | omega | (have ugc0 := un gc0; omega)) (show ¬ ((c0 = c0 ∧ 10 = 4) ∨ (c0 = c0 ∧ 10 = 11)) from by first | omega | (have ugc0 := un gc0; omega)))
  have t_32 := XI_c1 mσ1 (id := c0) (k := 11) (lim_F0_11 hc0)
  have kr_33 : gr σ1 c0 9 = some 50 := (FX_r cσ1 (show ¬ (c0 = c0 + 1) from by first | omega | (have ugc0 := un gc0; omega)) (show ¬ ((c0 = c0 ∧ 9 = 4) ∨ (c0 = c0 ∧ 9 = 11)) from by first | omega | (have ugc0 := un gc0; omega))).trans pre0
  refine ⟨?_, ?_⟩
  · intro q_34
    have b_35 : ¬ r2.toInt = 0 := fun h9 => q_34 (Int32.toInt_inj.mp h9)
    have z_36 : (0 : Int32).toInt = 0 := rfl
    exact U12 a1 (0 : Int32) σ1 mσ1 fσ1 (by omega) (by omega) (by omega) (by omega) (by omega)
  · intro q_34
    have b_37 : r2.toInt = 0 := congrArg Int32.toInt q_34
    have z_38 : (0 : Int32).toInt = 0 := rfl
    exact h9ret (0 : Int32) σ1 mσ1 fσ1 (by omega) (by omega)
set_option maxRecDepth 100000 in
set_option maxHeartbeats 4000000 in
theorem k_X2_readsPart_r1 {l : Launch} {V : Vx} {c0 : Nat} {a1 : Int32} {σ0 : Sg} {Qk : Int32 → Sg → Prop} (hc0 : kd c0 = (12, 0)) (lc0 : c0 ∈ ids (V)) (m0 : XI V σ0) (l_a1 : 1 ≤ a1.toInt) (u_a1 : a1.toInt ≤ 1) (pre0 : gr σ0 c0 9 = some 50) (h9ret : ∀ (r : Int32) (σ' : Sg), XI V σ' → FX (fun id => id = c0 + 1) (fun id k => (id = c0 ∧ k = 4) ∨ (id = c0 ∧ k = 11)) σ0 σ' → (0 ≤ r.toInt) → (r.toInt ≤ 1) → Qk r σ') : K_X2_readsPart_r1 l V c0 a1 σ0 Qk := by
  refine e_X2_readsPart_r1 (fun M hl hV hN C => ?_)
  subst hl
  subst hV
  have gc0 : hid _ := kdF_ge hc0
  have T : ∀ n : Nat, (∀ (x1 : Int32) (σ : Sg), XI (mV M) σ → FX (fun id => id = c0 + 1) (fun id k => (id = c0 ∧ k = 4) ∨ (id = c0 ∧ k = 11)) σ0 σ → (1 ≤ x1.toInt) → (x1.toInt ≤ 1) → 1 < n → PS M 33 [(0, .ref c0), (1, .int x1)] [] σ (0, 0)) := by
    intro n
    induction n with
    | zero => exact fun _ _ _ _ _ _ h8 => absurd h8 (Nat.not_lt_zero _)
    | succ n ih =>
      have ih33 := ih
      · intro x1 σ mσ fσ lx1 ux1 hmu
        have kr_c0_9 : gr σ c0 9 = some 50 := (FX_r fσ (show ¬ (c0 = c0 + 1) from by first | omega | (have ugc0 := un gc0; omega)) (show ¬ ((c0 = c0 ∧ 9 = 4) ∨ (c0 = c0 ∧ 9 = 11)) from by first | omega | (have ugc0 := un gc0; omega))).trans pre0
        have k_1 : (gi σ c0 10).toInt = (gi σ0 c0 10).toInt := congrArg Int32.toInt (FX_i fσ (show ¬ (c0 = c0 + 1) from by first | omega | (have ugc0 := un gc0; omega)) (show ¬ ((c0 = c0 ∧ 10 = 4) ∨ (c0 = c0 ∧ 10 = 11)) from by first | omega | (have ugc0 := un gc0; omega)))
        have t_2 := XI_c1 mσ (id := c0) (k := 10) (lim_F0_10 hc0)
        have t_3 := XI_c1 mσ (id := c0) (k := 11) (lim_F0_11 hc0)
        refine s_X2_readsPart_r1_33 C hN hc0 lc0 ?_
        refine ⟨?_, ?_⟩
        · intro q_4
          have b_5 : (4 : Int) ≤ x1.toInt := Int32.le_iff_toInt_le.mp q_4
          refine k_X2_readsTest hc0 lc0 mσ  (by first | omega | assumption | rfl) (fun r3 σ2 mσ2 cσ2 plσ2 phσ2 => ?_)
          have fσ2 : FX (fun id => id = c0 + 1) (fun id k => (id = c0 ∧ k = 4) ∨ (id = c0 ∧ k = 11)) σ0 σ2 := FX_tr fσ cσ2 (fun x (h9 : x = c0 + 1) => (show x = c0 + 1 from h9)) (fun x k (h9 : (x = c0 ∧ k = 4) ∨ (x = c0 ∧ k = 11)) => (show (x = c0 + 1) ∨ ((x = c0 ∧ k = 4) ∨ (x = c0 ∧ k = 11)) from h9.elim (fun e9 => Or.inr (show (x = c0 ∧ k = 4) ∨ (x = c0 ∧ k = 11) from Or.inl (e9))) (fun h9 => Or.inr (show (x = c0 ∧ k = 4) ∨ (x = c0 ∧ k = 11) from Or.inr (h9)))))
          have k_6 : (gi σ2 c0 10).toInt = (gi σ c0 10).toInt := congrArg Int32.toInt (FX_i cσ2 (show ¬ (c0 = c0 + 1) from by first | omega | (have ugc0 := un gc0; omega)) (show ¬ ((c0 = c0 ∧ 10 = 4) ∨ (c0 = c0 ∧ 10 = 11)) from by first | omega | (have ugc0 := un gc0; omega)))
          have t_7 := XI_c1 mσ2 (id := c0) (k := 11) (lim_F0_11 hc0)
          have kr_8 : gr σ2 c0 9 = some 50 := (FX_r cσ2 (show ¬ (c0 = c0 + 1) from by first | omega | (have ugc0 := un gc0; omega)) (show ¬ ((c0 = c0 ∧ 9 = 4) ∨ (c0 = c0 ∧ 9 = 11)) from by first | omega | (have ugc0 := un gc0; omega))).trans kr_c0_9
          refine ⟨i_bool (by omega) (by omega), ?_⟩
          exact h9ret r3 σ2 mσ2 fσ2 (by omega) (by omega)
        · intro q_4
          have b_9 : ¬ (4 : Int) ≤ x1.toInt := fun h9 => q_4 (Int32.le_iff_toInt_le.mpr h9)
          have z_10 : (40 : Int32).toInt = 40 := rfl
          refine k_X2_takes hc0 lc0 mσ  (by omega) (by omega) (by first | omega | assumption | rfl) (fun r5 σ4 mσ4 cσ4 plσ4 phσ4 => ?_)
          have fσ4 : FX (fun id => id = c0 + 1) (fun id k => (id = c0 ∧ k = 4) ∨ (id = c0 ∧ k = 11)) σ0 σ4 := FX_tr fσ cσ4 (fun _ h9 => h9.elim) (fun x k (h9 : (x = c0 ∧ k = 11)) => (show (x = c0 + 1) ∨ ((x = c0 ∧ k = 4) ∨ (x = c0 ∧ k = 11)) from Or.inr (show (x = c0 ∧ k = 4) ∨ (x = c0 ∧ k = 11) from Or.inr (h9))))
          have k_11 : (gi σ4 c0 10).toInt = (gi σ c0 10).toInt := congrArg Int32.toInt (FX_i cσ4 id (show ¬ ((c0 = c0 ∧ 10 = 11)) from by first | omega | (have ugc0 := un gc0; omega)))
          have t_12 := XI_c1 mσ4 (id := c0) (k := 11) (lim_F0_11 hc0)
          have kr_13 : gr σ4 c0 9 = some 50 := (FX_r cσ4 id (show ¬ ((c0 = c0 ∧ 9 = 11)) from by first | omega | (have ugc0 := un gc0; omega))).trans kr_c0_9
          refine ⟨?_, ?_⟩
          · intro q_14
            have b_15 : r5.toInt = 0 := congrArg Int32.toInt q_14
            refine k_X2_readsTest hc0 lc0 mσ4  (by first | omega | assumption | rfl) (fun r8 σ7 mσ7 cσ7 plσ7 phσ7 => ?_)
            have fσ7 : FX (fun id => id = c0 + 1) (fun id k => (id = c0 ∧ k = 4) ∨ (id = c0 ∧ k = 11)) σ0 σ7 := FX_tr fσ4 cσ7 (fun x (h9 : x = c0 + 1) => (show x = c0 + 1 from h9)) (fun x k (h9 : (x = c0 ∧ k = 4) ∨ (x = c0 ∧ k = 11)) => (show (x = c0 + 1) ∨ ((x = c0 ∧ k = 4) ∨ (x = c0 ∧ k = 11)) from h9.elim (fun e9 => Or.inr (show (x = c0 ∧ k = 4) ∨ (x = c0 ∧ k = 11) from Or.inl (e9))) (fun h9 => Or.inr (show (x = c0 ∧ k = 4) ∨ (x = c0 ∧ k = 11) from Or.inr (h9)))))
            have k_16 : (gi σ7 c0 10).toInt = (gi σ4 c0 10).toInt := congrArg Int32.toInt (FX_i cσ7 (show ¬ (c0 = c0 + 1) from by first | omega | (have ugc0 := un gc0; omega)) (show ¬ ((c0 = c0 ∧ 10 = 4) ∨ (c0 = c0 ∧ 10 = 11)) from by first | omega | (have ugc0 := un gc0; omega)))
            have t_17 := XI_c1 mσ7 (id := c0) (k := 11) (lim_F0_11 hc0)
            have kr_18 : gr σ7 c0 9 = some 50 := (FX_r cσ7 (show ¬ (c0 = c0 + 1) from by first | omega | (have ugc0 := un gc0; omega)) (show ¬ ((c0 = c0 ∧ 9 = 4) ∨ (c0 = c0 ∧ 9 = 11)) from by first | omega | (have ugc0 := un gc0; omega))).trans kr_13
            refine ⟨i_bool (by omega) (by omega), ?_⟩
            exact h9ret r8 σ7 mσ7 fσ7 (by omega) (by omega)
          · intro q_14
            have b_19 : ¬ r5.toInt = 0 := fun h9 => q_14 (Int32.toInt_inj.mp h9)
            have t_20 : (x1 + (1 : Int32)).toInt = x1.toInt + 1 := i_add (x := x1) (y := (1 : Int32)) (by show (_ : Int) ≤ x1.toInt + 1; omega) (by show x1.toInt + 1 ≤ (_ : Int); omega)
            refine k_X2_readsEither_r2 hc0 lc0 mσ4  (by omega) (by omega) (by first | omega | assumption | rfl) (fun r10 σ9 mσ9 cσ9 plσ9 phσ9 => ?_)
            have fσ9 : FX (fun id => id = c0 + 1) (fun id k => (id = c0 ∧ k = 4) ∨ (id = c0 ∧ k = 11)) σ0 σ9 := FX_tr fσ4 cσ9 (fun x (h9 : x = c0 + 1) => (show x = c0 + 1 from h9)) (fun x k (h9 : (x = c0 ∧ k = 4) ∨ (x = c0 ∧ k = 11)) => (show (x = c0 + 1) ∨ ((x = c0 ∧ k = 4) ∨ (x = c0 ∧ k = 11)) from h9.elim (fun e9 => Or.inr (show (x = c0 ∧ k = 4) ∨ (x = c0 ∧ k = 11) from Or.inl (e9))) (fun h9 => Or.inr (show (x = c0 ∧ k = 4) ∨ (x = c0 ∧ k = 11) from Or.inr (h9)))))
            have k_21 : (gi σ9 c0 10).toInt = (gi σ4 c0 10).toInt := congrArg Int32.toInt (FX_i cσ9 (show ¬ (c0 = c0 + 1) from by first | omega | (have ugc0 := un gc0; omega)) (show ¬ ((c0 = c0 ∧ 10 = 4) ∨ (c0 = c0 ∧ 10 = 11)) from by first | omega | (have ugc0 := un gc0; omega)))
            have t_22 := XI_c1 mσ9 (id := c0) (k := 11) (lim_F0_11 hc0)
            have kr_23 : gr σ9 c0 9 = some 50 := (FX_r cσ9 (show ¬ (c0 = c0 + 1) from by first | omega | (have ugc0 := un gc0; omega)) (show ¬ ((c0 = c0 ∧ 9 = 4) ∨ (c0 = c0 ∧ 9 = 11)) from by first | omega | (have ugc0 := un gc0; omega))).trans kr_13
            refine ⟨?_, ?_⟩
            · intro q_24
              have b_25 : r10.toInt = 0 := congrArg Int32.toInt q_24
              have z_26 : (0 : Int32).toInt = 0 := rfl
              exact h9ret (0 : Int32) σ9 mσ9 fσ9 (by omega) (by omega)
            · intro q_24
              have b_27 : ¬ r10.toInt = 0 := fun h9 => q_24 (Int32.toInt_inj.mp h9)
              have z_28 : (41 : Int32).toInt = 41 := rfl
              refine k_X2_takes hc0 lc0 mσ9  (by omega) (by omega) (by first | omega | assumption | rfl) (fun r13 σ12 mσ12 cσ12 plσ12 phσ12 => ?_)
              have fσ12 : FX (fun id => id = c0 + 1) (fun id k => (id = c0 ∧ k = 4) ∨ (id = c0 ∧ k = 11)) σ0 σ12 := FX_tr fσ9 cσ12 (fun _ h9 => h9.elim) (fun x k (h9 : (x = c0 ∧ k = 11)) => (show (x = c0 + 1) ∨ ((x = c0 ∧ k = 4) ∨ (x = c0 ∧ k = 11)) from Or.inr (show (x = c0 ∧ k = 4) ∨ (x = c0 ∧ k = 11) from Or.inr (h9))))
              have k_29 : (gi σ12 c0 10).toInt = (gi σ9 c0 10).toInt := congrArg Int32.toInt (FX_i cσ12 id (show ¬ ((c0 = c0 ∧ 10 = 11)) from by first | omega | (have ugc0 := un gc0; omega)))
              have t_30 := XI_c1 mσ12 (id := c0) (k := 11) (lim_F0_11 hc0)
              have kr_31 : gr σ12 c0 9 = some 50 := (FX_r cσ12 id (show ¬ ((c0 = c0 ∧ 9 = 11)) from by first | omega | (have ugc0 := un gc0; omega))).trans kr_23
              refine ⟨?_, ?_⟩
              · intro q_32
                have b_33 : r13.toInt = 0 := congrArg Int32.toInt q_32
                have z_34 : (0 : Int32).toInt = 0 := rfl
                exact h9ret (0 : Int32) σ12 mσ12 fσ12 (by omega) (by omega)
              · intro q_32
                have b_35 : ¬ r13.toInt = 0 := fun h9 => q_32 (Int32.toInt_inj.mp h9)
                have z_36 : (1 : Int32).toInt = 1 := rfl
                exact h9ret (1 : Int32) σ12 mσ12 fσ12 (by omega) (by omega)
  have U33 := T 9
  have f0 : FX (fun id => id = c0 + 1) (fun id k => (id = c0 ∧ k = 4) ∨ (id = c0 ∧ k = 11)) σ0 σ0 := FX_rf
  have t_37 := XI_c1 m0 (id := c0) (k := 10) (lim_F0_10 hc0)
  have t_38 := XI_c1 m0 (id := c0) (k := 11) (lim_F0_11 hc0)
  refine s_X2_readsPart_r1_0 C hN hc0 lc0 ?_
  refine ⟨?_, ?_⟩
  · intro q_39
    have b_40 : (4 : Int) ≤ a1.toInt := Int32.le_iff_toInt_le.mp q_39
    exact U33 a1 σ0 m0 f0 (by omega) (by omega) (by omega)
  · intro q_39
    have b_41 : ¬ (4 : Int) ≤ a1.toInt := fun h9 => q_39 (Int32.le_iff_toInt_le.mpr h9)
    have z_42 : (33 : Int32).toInt = 33 := rfl
    refine k_X2_takes hc0 lc0 m0  (by omega) (by omega) (by first | omega | assumption | rfl) (fun r3 σ2 mσ2 cσ2 plσ2 phσ2 => ?_)
    have fσ2 : FX (fun id => id = c0 + 1) (fun id k => (id = c0 ∧ k = 4) ∨ (id = c0 ∧ k = 11)) σ0 σ2 := FX_tr f0 cσ2 (fun _ h9 => h9.elim) (fun x k (h9 : (x = c0 ∧ k = 11)) => (show (x = c0 + 1) ∨ ((x = c0 ∧ k = 4) ∨ (x = c0 ∧ k = 11)) from Or.inr (show (x = c0 ∧ k = 4) ∨ (x = c0 ∧ k = 11) from Or.inr (h9))))
    have k_43 : (gi σ2 c0 10).toInt = (gi σ0 c0 10).toInt := congrArg Int32.toInt (FX_i cσ2 id (show ¬ ((c0 = c0 ∧ 10 = 11)) from by first | omega | (have ugc0 := un gc0; omega)))
    have t_44 := XI_c1 mσ2 (id := c0) (k := 11) (lim_F0_11 hc0)
    have kr_45 : gr σ2 c0 9 = some 50 := (FX_r cσ2 id (show ¬ ((c0 = c0 ∧ 9 = 11)) from by first | omega | (have ugc0 := un gc0; omega))).trans pre0
    refine ⟨?_, ?_⟩
    · intro q_46
      have b_47 : r3.toInt = 0 := congrArg Int32.toInt q_46
      exact U33 a1 σ2 mσ2 fσ2 (by omega) (by omega) (by omega)
    · intro q_46
      have b_48 : ¬ r3.toInt = 0 := fun h9 => q_46 (Int32.toInt_inj.mp h9)
      have t_49 : (a1 + (1 : Int32)).toInt = a1.toInt + 1 := i_add (x := a1) (y := (1 : Int32)) (by show (_ : Int) ≤ a1.toInt + 1; omega) (by show a1.toInt + 1 ≤ (_ : Int); omega)
      refine k_X2_readsPart_r2 hc0 lc0 mσ2  (by omega) (by omega) (by first | omega | assumption | rfl) (fun r6 σ5 mσ5 cσ5 plσ5 phσ5 => ?_)
      have fσ5 : FX (fun id => id = c0 + 1) (fun id k => (id = c0 ∧ k = 4) ∨ (id = c0 ∧ k = 11)) σ0 σ5 := FX_tr fσ2 cσ5 (fun x (h9 : x = c0 + 1) => (show x = c0 + 1 from h9)) (fun x k (h9 : (x = c0 ∧ k = 4) ∨ (x = c0 ∧ k = 11)) => (show (x = c0 + 1) ∨ ((x = c0 ∧ k = 4) ∨ (x = c0 ∧ k = 11)) from h9.elim (fun e9 => Or.inr (show (x = c0 ∧ k = 4) ∨ (x = c0 ∧ k = 11) from Or.inl (e9))) (fun h9 => Or.inr (show (x = c0 ∧ k = 4) ∨ (x = c0 ∧ k = 11) from Or.inr (h9)))))
      have k_50 : (gi σ5 c0 10).toInt = (gi σ2 c0 10).toInt := congrArg Int32.toInt (FX_i cσ5 (show ¬ (c0 = c0 + 1) from by first | omega | (have ugc0 := un gc0; omega)) (show ¬ ((c0 = c0 ∧ 10 = 4) ∨ (c0 = c0 ∧ 10 = 11)) from by first | omega | (have ugc0 := un gc0; omega)))
      have t_51 := XI_c1 mσ5 (id := c0) (k := 11) (lim_F0_11 hc0)
      have kr_52 : gr σ5 c0 9 = some 50 := (FX_r cσ5 (show ¬ (c0 = c0 + 1) from by first | omega | (have ugc0 := un gc0; omega)) (show ¬ ((c0 = c0 ∧ 9 = 4) ∨ (c0 = c0 ∧ 9 = 11)) from by first | omega | (have ugc0 := un gc0; omega))).trans kr_45
      refine ⟨?_, ?_⟩
      · intro q_53
        have b_54 : ¬ r6.toInt = 0 := fun h9 => q_53 (Int32.toInt_inj.mp h9)
        have z_55 : (-1 : Int32).toInt = -1 := rfl
        refine k_X2_writes hc0 lc0 mσ5  (by omega) (by omega) (fun σ8 mσ8 cσ8 => ?_)
        have fσ8 : FX (fun id => id = c0 + 1) (fun id k => (id = c0 ∧ k = 4) ∨ (id = c0 ∧ k = 11)) σ0 σ8 := FX_tr fσ5 cσ8 (fun x (h9 : x = c0 + 1) => (show x = c0 + 1 from h9)) (fun x k (h9 : (x = c0 ∧ k = 4)) => (show (x = c0 + 1) ∨ ((x = c0 ∧ k = 4) ∨ (x = c0 ∧ k = 11)) from Or.inr (show (x = c0 ∧ k = 4) ∨ (x = c0 ∧ k = 11) from Or.inl (h9))))
        have k_56 : (gi σ8 c0 10).toInt = (gi σ5 c0 10).toInt := congrArg Int32.toInt (FX_i cσ8 (show ¬ (c0 = c0 + 1) from by first | omega | (have ugc0 := un gc0; omega)) (show ¬ ((c0 = c0 ∧ 10 = 4)) from by first | omega | (have ugc0 := un gc0; omega)))
        have k_57 : (gi σ8 c0 11).toInt = (gi σ5 c0 11).toInt := congrArg Int32.toInt (FX_i cσ8 (show ¬ (c0 = c0 + 1) from by first | omega | (have ugc0 := un gc0; omega)) (show ¬ ((c0 = c0 ∧ 11 = 4)) from by first | omega | (have ugc0 := un gc0; omega)))
        have kr_58 : gr σ8 c0 9 = some 50 := (FX_r cσ8 (show ¬ (c0 = c0 + 1) from by first | omega | (have ugc0 := un gc0; omega)) (show ¬ ((c0 = c0 ∧ 9 = 4)) from by first | omega | (have ugc0 := un gc0; omega))).trans kr_52
        have z_59 : (1 : Int32).toInt = 1 := rfl
        exact h9ret (1 : Int32) σ8 mσ8 fσ8 (by omega) (by omega)
      · intro q_53
        have b_60 : r6.toInt = 0 := congrArg Int32.toInt q_53
        have z_61 : (0 : Int32).toInt = 0 := rfl
        exact h9ret (0 : Int32) σ5 mσ5 fσ5 (by omega) (by omega)
set_option maxRecDepth 100000 in
set_option maxHeartbeats 4000000 in
theorem k_X2_readsBoth_r1 {l : Launch} {V : Vx} {c0 : Nat} {a1 : Int32} {σ0 : Sg} {Qk : Int32 → Sg → Prop} (hc0 : kd c0 = (12, 0)) (lc0 : c0 ∈ ids (V)) (m0 : XI V σ0) (l_a1 : 1 ≤ a1.toInt) (u_a1 : a1.toInt ≤ 1) (pre0 : gr σ0 c0 9 = some 50) (h9ret : ∀ (r : Int32) (σ' : Sg), XI V σ' → FX (fun id => id = c0 + 1) (fun id k => (id = c0 ∧ k = 4) ∨ (id = c0 ∧ k = 11)) σ0 σ' → (0 ≤ r.toInt) → (r.toInt ≤ 1) → Qk r σ') : K_X2_readsBoth_r1 l V c0 a1 σ0 Qk := by
  refine e_X2_readsBoth_r1 (fun M hl hV hN C => ?_)
  subst hl
  subst hV
  have gc0 : hid _ := kdF_ge hc0
  have T : ∀ n : Nat, (∀ (x1 : Int32) (x2 : Int32) (σ : Sg), XI (mV M) σ → FX (fun id => id = c0 + 1) (fun id k => (id = c0 ∧ k = 4) ∨ (id = c0 ∧ k = 11)) σ0 σ → (1 ≤ x1.toInt) → (x1.toInt ≤ 1) → (0 ≤ x2.toInt) → (x2.toInt ≤ 100) → (101 - x2.toInt).toNat < n → PS M 12 [(0, .ref c0), (1, .int x1), (2, .int x2)] [] σ (0, 0)) := by
    intro n
    induction n with
    | zero => exact fun _ _ _ _ _ _ _ _ _ h8 => absurd h8 (Nat.not_lt_zero _)
    | succ n ih =>
      have ih12 := ih
      · intro x1 x2 σ mσ fσ lx1 ux1 lx2 ux2 hmu
        have kr_c0_9 : gr σ c0 9 = some 50 := (FX_r fσ (show ¬ (c0 = c0 + 1) from by first | omega | (have ugc0 := un gc0; omega)) (show ¬ ((c0 = c0 ∧ 9 = 4) ∨ (c0 = c0 ∧ 9 = 11)) from by first | omega | (have ugc0 := un gc0; omega))).trans pre0
        have k_1 : (gi σ c0 10).toInt = (gi σ0 c0 10).toInt := congrArg Int32.toInt (FX_i fσ (show ¬ (c0 = c0 + 1) from by first | omega | (have ugc0 := un gc0; omega)) (show ¬ ((c0 = c0 ∧ 10 = 4) ∨ (c0 = c0 ∧ 10 = 11)) from by first | omega | (have ugc0 := un gc0; omega)))
        have t_2 := XI_c1 mσ (id := c0) (k := 10) (lim_F0_10 hc0)
        have t_3 := XI_c1 mσ (id := c0) (k := 11) (lim_F0_11 hc0)
        refine s_X2_readsBoth_r1_12 C hN hc0 lc0 ?_
        refine ⟨?_, ?_⟩
        · intro q_4
          have b_5 : (100 : Int) ≤ x2.toInt := Int32.le_iff_toInt_le.mp q_4
          have z_6 : (1 : Int32).toInt = 1 := rfl
          exact h9ret (1 : Int32) σ mσ fσ (by omega) (by omega)
        · intro q_4
          have b_7 : ¬ (100 : Int) ≤ x2.toInt := fun h9 => q_4 (Int32.le_iff_toInt_le.mpr h9)
          have z_8 : (38 : Int32).toInt = 38 := rfl
          refine k_X2_takes hc0 lc0 mσ  (by omega) (by omega) (by first | omega | assumption | rfl) (fun r3 σ2 mσ2 cσ2 plσ2 phσ2 => ?_)
          have fσ2 : FX (fun id => id = c0 + 1) (fun id k => (id = c0 ∧ k = 4) ∨ (id = c0 ∧ k = 11)) σ0 σ2 := FX_tr fσ cσ2 (fun _ h9 => h9.elim) (fun x k (h9 : (x = c0 ∧ k = 11)) => (show (x = c0 + 1) ∨ ((x = c0 ∧ k = 4) ∨ (x = c0 ∧ k = 11)) from Or.inr (show (x = c0 ∧ k = 4) ∨ (x = c0 ∧ k = 11) from Or.inr (h9))))
          have k_9 : (gi σ2 c0 10).toInt = (gi σ c0 10).toInt := congrArg Int32.toInt (FX_i cσ2 id (show ¬ ((c0 = c0 ∧ 10 = 11)) from by first | omega | (have ugc0 := un gc0; omega)))
          have t_10 := XI_c1 mσ2 (id := c0) (k := 11) (lim_F0_11 hc0)
          have kr_11 : gr σ2 c0 9 = some 50 := (FX_r cσ2 id (show ¬ ((c0 = c0 ∧ 9 = 11)) from by first | omega | (have ugc0 := un gc0; omega))).trans kr_c0_9
          refine ⟨?_, ?_⟩
          · intro q_12
            have b_13 : r3.toInt = 0 := congrArg Int32.toInt q_12
            have z_14 : (1 : Int32).toInt = 1 := rfl
            exact h9ret (1 : Int32) σ2 mσ2 fσ2 (by omega) (by omega)
          · intro q_12
            have b_15 : ¬ r3.toInt = 0 := fun h9 => q_12 (Int32.toInt_inj.mp h9)
            refine k_X2_readsPart_r1 hc0 lc0 mσ2  (by omega) (by omega) (by first | omega | assumption | rfl) (fun r6 σ5 mσ5 cσ5 plσ5 phσ5 => ?_)
            have fσ5 : FX (fun id => id = c0 + 1) (fun id k => (id = c0 ∧ k = 4) ∨ (id = c0 ∧ k = 11)) σ0 σ5 := FX_tr fσ2 cσ5 (fun x (h9 : x = c0 + 1) => (show x = c0 + 1 from h9)) (fun x k (h9 : (x = c0 ∧ k = 4) ∨ (x = c0 ∧ k = 11)) => (show (x = c0 + 1) ∨ ((x = c0 ∧ k = 4) ∨ (x = c0 ∧ k = 11)) from h9.elim (fun e9 => Or.inr (show (x = c0 ∧ k = 4) ∨ (x = c0 ∧ k = 11) from Or.inl (e9))) (fun h9 => Or.inr (show (x = c0 ∧ k = 4) ∨ (x = c0 ∧ k = 11) from Or.inr (h9)))))
            have k_16 : (gi σ5 c0 10).toInt = (gi σ2 c0 10).toInt := congrArg Int32.toInt (FX_i cσ5 (show ¬ (c0 = c0 + 1) from by first | omega | (have ugc0 := un gc0; omega)) (show ¬ ((c0 = c0 ∧ 10 = 4) ∨ (c0 = c0 ∧ 10 = 11)) from by first | omega | (have ugc0 := un gc0; omega)))
            have t_17 := XI_c1 mσ5 (id := c0) (k := 11) (lim_F0_11 hc0)
            have kr_18 : gr σ5 c0 9 = some 50 := (FX_r cσ5 (show ¬ (c0 = c0 + 1) from by first | omega | (have ugc0 := un gc0; omega)) (show ¬ ((c0 = c0 ∧ 9 = 4) ∨ (c0 = c0 ∧ 9 = 11)) from by first | omega | (have ugc0 := un gc0; omega))).trans kr_11
            refine ⟨?_, ?_⟩
            · intro q_19
              have b_20 : ¬ r6.toInt = 0 := fun h9 => q_19 (Int32.toInt_inj.mp h9)
              have z_21 : (-2 : Int32).toInt = -2 := rfl
              refine k_X2_writes hc0 lc0 mσ5  (by omega) (by omega) (fun σ8 mσ8 cσ8 => ?_)
              have fσ8 : FX (fun id => id = c0 + 1) (fun id k => (id = c0 ∧ k = 4) ∨ (id = c0 ∧ k = 11)) σ0 σ8 := FX_tr fσ5 cσ8 (fun x (h9 : x = c0 + 1) => (show x = c0 + 1 from h9)) (fun x k (h9 : (x = c0 ∧ k = 4)) => (show (x = c0 + 1) ∨ ((x = c0 ∧ k = 4) ∨ (x = c0 ∧ k = 11)) from Or.inr (show (x = c0 ∧ k = 4) ∨ (x = c0 ∧ k = 11) from Or.inl (h9))))
              have k_22 : (gi σ8 c0 10).toInt = (gi σ5 c0 10).toInt := congrArg Int32.toInt (FX_i cσ8 (show ¬ (c0 = c0 + 1) from by first | omega | (have ugc0 := un gc0; omega)) (show ¬ ((c0 = c0 ∧ 10 = 4)) from by first | omega | (have ugc0 := un gc0; omega)))
              have k_23 : (gi σ8 c0 11).toInt = (gi σ5 c0 11).toInt := congrArg Int32.toInt (FX_i cσ8 (show ¬ (c0 = c0 + 1) from by first | omega | (have ugc0 := un gc0; omega)) (show ¬ ((c0 = c0 ∧ 11 = 4)) from by first | omega | (have ugc0 := un gc0; omega)))
              have kr_24 : gr σ8 c0 9 = some 50 := (FX_r cσ8 (show ¬ (c0 = c0 + 1) from by first | omega | (have ugc0 := un gc0; omega)) (show ¬ ((c0 = c0 ∧ 9 = 4)) from by first | omega | (have ugc0 := un gc0; omega))).trans kr_18
              intro v9 ev9
              have t_25 : (x2 + (1 : Int32)).toInt = x2.toInt + 1 := i_add (x := x2) (y := (1 : Int32)) (by show (_ : Int) ≤ x2.toInt + 1; omega) (by show x2.toInt + 1 ≤ (_ : Int); omega)
              have t_26 : v9.toInt = (x2 + (1 : Int32)).toInt := congrArg Int32.toInt ev9
              exact ih12 x1 v9 σ8 mσ8 fσ8 (by omega) (by omega) (by omega) (by omega) (by omega)
            · intro q_19
              have b_27 : r6.toInt = 0 := congrArg Int32.toInt q_19
              have z_28 : (0 : Int32).toInt = 0 := rfl
              exact h9ret (0 : Int32) σ5 mσ5 fσ5 (by omega) (by omega)
  have U12 := T 200
  have f0 : FX (fun id => id = c0 + 1) (fun id k => (id = c0 ∧ k = 4) ∨ (id = c0 ∧ k = 11)) σ0 σ0 := FX_rf
  have t_29 := XI_c1 m0 (id := c0) (k := 10) (lim_F0_10 hc0)
  have t_30 := XI_c1 m0 (id := c0) (k := 11) (lim_F0_11 hc0)
  refine s_X2_readsBoth_r1_0 C hN hc0 lc0 ?_
  refine k_X2_readsPart_r1 hc0 lc0 m0  (by omega) (by omega) (by first | omega | assumption | rfl) (fun r2 σ1 mσ1 cσ1 plσ1 phσ1 => ?_)
  have fσ1 : FX (fun id => id = c0 + 1) (fun id k => (id = c0 ∧ k = 4) ∨ (id = c0 ∧ k = 11)) σ0 σ1 := FX_tr f0 cσ1 (fun x (h9 : x = c0 + 1) => (show x = c0 + 1 from h9)) (fun x k (h9 : (x = c0 ∧ k = 4) ∨ (x = c0 ∧ k = 11)) => (show (x = c0 + 1) ∨ ((x = c0 ∧ k = 4) ∨ (x = c0 ∧ k = 11)) from h9.elim (fun e9 => Or.inr (show (x = c0 ∧ k = 4) ∨ (x = c0 ∧ k = 11) from Or.inl (e9))) (fun h9 => Or.inr (show (x = c0 ∧ k = 4) ∨ (x = c0 ∧ k = 11) from Or.inr (h9)))))
  have k_31 : (gi σ1 c0 10).toInt = (gi σ0 c0 10).toInt := congrArg Int32.toInt (FX_i cσ1 (show ¬ (c0 = c0 + 1) from by first | omega | (have ugc0 := un gc0; omega)) (show ¬ ((c0 = c0 ∧ 10 = 4) ∨ (c0 = c0 ∧ 10 = 11)) from by first | omega | (have ugc0 := un gc0; omega)))
  have t_32 := XI_c1 mσ1 (id := c0) (k := 11) (lim_F0_11 hc0)
  have kr_33 : gr σ1 c0 9 = some 50 := (FX_r cσ1 (show ¬ (c0 = c0 + 1) from by first | omega | (have ugc0 := un gc0; omega)) (show ¬ ((c0 = c0 ∧ 9 = 4) ∨ (c0 = c0 ∧ 9 = 11)) from by first | omega | (have ugc0 := un gc0; omega))).trans pre0
  refine ⟨?_, ?_⟩
  · intro q_34
    have b_35 : ¬ r2.toInt = 0 := fun h9 => q_34 (Int32.toInt_inj.mp h9)
    have z_36 : (0 : Int32).toInt = 0 := rfl
    exact U12 a1 (0 : Int32) σ1 mσ1 fσ1 (by omega) (by omega) (by omega) (by omega) (by omega)
  · intro q_34
    have b_37 : r2.toInt = 0 := congrArg Int32.toInt q_34
    have z_38 : (0 : Int32).toInt = 0 := rfl
    exact h9ret (0 : Int32) σ1 mσ1 fσ1 (by omega) (by omega)
set_option maxRecDepth 100000 in
set_option maxHeartbeats 4000000 in
theorem k_X2_readsEither_r1 {l : Launch} {V : Vx} {c0 : Nat} {a1 : Int32} {σ0 : Sg} {Qk : Int32 → Sg → Prop} (hc0 : kd c0 = (12, 0)) (lc0 : c0 ∈ ids (V)) (m0 : XI V σ0) (l_a1 : 1 ≤ a1.toInt) (u_a1 : a1.toInt ≤ 1) (pre0 : gr σ0 c0 9 = some 50) (h9ret : ∀ (r : Int32) (σ' : Sg), XI V σ' → FX (fun id => id = c0 + 1) (fun id k => (id = c0 ∧ k = 4) ∨ (id = c0 ∧ k = 11)) σ0 σ' → (0 ≤ r.toInt) → (r.toInt ≤ 1) → Qk r σ') : K_X2_readsEither_r1 l V c0 a1 σ0 Qk := by
  refine e_X2_readsEither_r1 (fun M hl hV hN C => ?_)
  subst hl
  subst hV
  have gc0 : hid _ := kdF_ge hc0
  have T : ∀ n : Nat, (∀ (x1 : Int32) (x2 : Int32) (σ : Sg), XI (mV M) σ → FX (fun id => id = c0 + 1) (fun id k => (id = c0 ∧ k = 4) ∨ (id = c0 ∧ k = 11)) σ0 σ → (1 ≤ x1.toInt) → (x1.toInt ≤ 1) → (0 ≤ x2.toInt) → (x2.toInt ≤ 100) → (101 - x2.toInt).toNat < n → PS M 12 [(0, .ref c0), (1, .int x1), (2, .int x2)] [] σ (0, 0)) := by
    intro n
    induction n with
    | zero => exact fun _ _ _ _ _ _ _ _ _ h8 => absurd h8 (Nat.not_lt_zero _)
    | succ n ih =>
      have ih12 := ih
      · intro x1 x2 σ mσ fσ lx1 ux1 lx2 ux2 hmu
        have kr_c0_9 : gr σ c0 9 = some 50 := (FX_r fσ (show ¬ (c0 = c0 + 1) from by first | omega | (have ugc0 := un gc0; omega)) (show ¬ ((c0 = c0 ∧ 9 = 4) ∨ (c0 = c0 ∧ 9 = 11)) from by first | omega | (have ugc0 := un gc0; omega))).trans pre0
        have k_1 : (gi σ c0 10).toInt = (gi σ0 c0 10).toInt := congrArg Int32.toInt (FX_i fσ (show ¬ (c0 = c0 + 1) from by first | omega | (have ugc0 := un gc0; omega)) (show ¬ ((c0 = c0 ∧ 10 = 4) ∨ (c0 = c0 ∧ 10 = 11)) from by first | omega | (have ugc0 := un gc0; omega)))
        have t_2 := XI_c1 mσ (id := c0) (k := 10) (lim_F0_10 hc0)
        have t_3 := XI_c1 mσ (id := c0) (k := 11) (lim_F0_11 hc0)
        refine s_X2_readsEither_r1_12 C hN hc0 lc0 ?_
        refine ⟨?_, ?_⟩
        · intro q_4
          have b_5 : (100 : Int) ≤ x2.toInt := Int32.le_iff_toInt_le.mp q_4
          have z_6 : (1 : Int32).toInt = 1 := rfl
          exact h9ret (1 : Int32) σ mσ fσ (by omega) (by omega)
        · intro q_4
          have b_7 : ¬ (100 : Int) ≤ x2.toInt := fun h9 => q_4 (Int32.le_iff_toInt_le.mpr h9)
          have z_8 : (124 : Int32).toInt = 124 := rfl
          refine k_X2_takes hc0 lc0 mσ  (by omega) (by omega) (by first | omega | assumption | rfl) (fun r3 σ2 mσ2 cσ2 plσ2 phσ2 => ?_)
          have fσ2 : FX (fun id => id = c0 + 1) (fun id k => (id = c0 ∧ k = 4) ∨ (id = c0 ∧ k = 11)) σ0 σ2 := FX_tr fσ cσ2 (fun _ h9 => h9.elim) (fun x k (h9 : (x = c0 ∧ k = 11)) => (show (x = c0 + 1) ∨ ((x = c0 ∧ k = 4) ∨ (x = c0 ∧ k = 11)) from Or.inr (show (x = c0 ∧ k = 4) ∨ (x = c0 ∧ k = 11) from Or.inr (h9))))
          have k_9 : (gi σ2 c0 10).toInt = (gi σ c0 10).toInt := congrArg Int32.toInt (FX_i cσ2 id (show ¬ ((c0 = c0 ∧ 10 = 11)) from by first | omega | (have ugc0 := un gc0; omega)))
          have t_10 := XI_c1 mσ2 (id := c0) (k := 11) (lim_F0_11 hc0)
          have kr_11 : gr σ2 c0 9 = some 50 := (FX_r cσ2 id (show ¬ ((c0 = c0 ∧ 9 = 11)) from by first | omega | (have ugc0 := un gc0; omega))).trans kr_c0_9
          refine ⟨?_, ?_⟩
          · intro q_12
            have b_13 : r3.toInt = 0 := congrArg Int32.toInt q_12
            have z_14 : (1 : Int32).toInt = 1 := rfl
            exact h9ret (1 : Int32) σ2 mσ2 fσ2 (by omega) (by omega)
          · intro q_12
            have b_15 : ¬ r3.toInt = 0 := fun h9 => q_12 (Int32.toInt_inj.mp h9)
            refine k_X2_readsBoth_r1 hc0 lc0 mσ2  (by omega) (by omega) (by first | omega | assumption | rfl) (fun r6 σ5 mσ5 cσ5 plσ5 phσ5 => ?_)
            have fσ5 : FX (fun id => id = c0 + 1) (fun id k => (id = c0 ∧ k = 4) ∨ (id = c0 ∧ k = 11)) σ0 σ5 := FX_tr fσ2 cσ5 (fun x (h9 : x = c0 + 1) => (show x = c0 + 1 from h9)) (fun x k (h9 : (x = c0 ∧ k = 4) ∨ (x = c0 ∧ k = 11)) => (show (x = c0 + 1) ∨ ((x = c0 ∧ k = 4) ∨ (x = c0 ∧ k = 11)) from h9.elim (fun e9 => Or.inr (show (x = c0 ∧ k = 4) ∨ (x = c0 ∧ k = 11) from Or.inl (e9))) (fun h9 => Or.inr (show (x = c0 ∧ k = 4) ∨ (x = c0 ∧ k = 11) from Or.inr (h9)))))
            have k_16 : (gi σ5 c0 10).toInt = (gi σ2 c0 10).toInt := congrArg Int32.toInt (FX_i cσ5 (show ¬ (c0 = c0 + 1) from by first | omega | (have ugc0 := un gc0; omega)) (show ¬ ((c0 = c0 ∧ 10 = 4) ∨ (c0 = c0 ∧ 10 = 11)) from by first | omega | (have ugc0 := un gc0; omega)))
            have t_17 := XI_c1 mσ5 (id := c0) (k := 11) (lim_F0_11 hc0)
            have kr_18 : gr σ5 c0 9 = some 50 := (FX_r cσ5 (show ¬ (c0 = c0 + 1) from by first | omega | (have ugc0 := un gc0; omega)) (show ¬ ((c0 = c0 ∧ 9 = 4) ∨ (c0 = c0 ∧ 9 = 11)) from by first | omega | (have ugc0 := un gc0; omega))).trans kr_11
            refine ⟨?_, ?_⟩
            · intro q_19
              have b_20 : ¬ r6.toInt = 0 := fun h9 => q_19 (Int32.toInt_inj.mp h9)
              have z_21 : (-3 : Int32).toInt = -3 := rfl
              refine k_X2_writes hc0 lc0 mσ5  (by omega) (by omega) (fun σ8 mσ8 cσ8 => ?_)
              have fσ8 : FX (fun id => id = c0 + 1) (fun id k => (id = c0 ∧ k = 4) ∨ (id = c0 ∧ k = 11)) σ0 σ8 := FX_tr fσ5 cσ8 (fun x (h9 : x = c0 + 1) => (show x = c0 + 1 from h9)) (fun x k (h9 : (x = c0 ∧ k = 4)) => (show (x = c0 + 1) ∨ ((x = c0 ∧ k = 4) ∨ (x = c0 ∧ k = 11)) from Or.inr (show (x = c0 ∧ k = 4) ∨ (x = c0 ∧ k = 11) from Or.inl (h9))))
              have k_22 : (gi σ8 c0 10).toInt = (gi σ5 c0 10).toInt := congrArg Int32.toInt (FX_i cσ8 (show ¬ (c0 = c0 + 1) from by first | omega | (have ugc0 := un gc0; omega)) (show ¬ ((c0 = c0 ∧ 10 = 4)) from by first | omega | (have ugc0 := un gc0; omega)))
              have k_23 : (gi σ8 c0 11).toInt = (gi σ5 c0 11).toInt := congrArg Int32.toInt (FX_i cσ8 (show ¬ (c0 = c0 + 1) from by first | omega | (have ugc0 := un gc0; omega)) (show ¬ ((c0 = c0 ∧ 11 = 4)) from by first | omega | (have ugc0 := un gc0; omega)))
              have kr_24 : gr σ8 c0 9 = some 50 := (FX_r cσ8 (show ¬ (c0 = c0 + 1) from by first | omega | (have ugc0 := un gc0; omega)) (show ¬ ((c0 = c0 ∧ 9 = 4)) from by first | omega | (have ugc0 := un gc0; omega))).trans kr_18
              intro v9 ev9
              have t_25 : (x2 + (1 : Int32)).toInt = x2.toInt + 1 := i_add (x := x2) (y := (1 : Int32)) (by show (_ : Int) ≤ x2.toInt + 1; omega) (by show x2.toInt + 1 ≤ (_ : Int); omega)
              have t_26 : v9.toInt = (x2 + (1 : Int32)).toInt := congrArg Int32.toInt ev9
              exact ih12 x1 v9 σ8 mσ8 fσ8 (by omega) (by omega) (by omega) (by omega) (by omega)
            · intro q_19
              have b_27 : r6.toInt = 0 := congrArg Int32.toInt q_19
              have z_28 : (0 : Int32).toInt = 0 := rfl
              exact h9ret (0 : Int32) σ5 mσ5 fσ5 (by omega) (by omega)
  have U12 := T 200
  have f0 : FX (fun id => id = c0 + 1) (fun id k => (id = c0 ∧ k = 4) ∨ (id = c0 ∧ k = 11)) σ0 σ0 := FX_rf
  have t_29 := XI_c1 m0 (id := c0) (k := 10) (lim_F0_10 hc0)
  have t_30 := XI_c1 m0 (id := c0) (k := 11) (lim_F0_11 hc0)
  refine s_X2_readsEither_r1_0 C hN hc0 lc0 ?_
  refine k_X2_readsBoth_r1 hc0 lc0 m0  (by omega) (by omega) (by first | omega | assumption | rfl) (fun r2 σ1 mσ1 cσ1 plσ1 phσ1 => ?_)
  have fσ1 : FX (fun id => id = c0 + 1) (fun id k => (id = c0 ∧ k = 4) ∨ (id = c0 ∧ k = 11)) σ0 σ1 := FX_tr f0 cσ1 (fun x (h9 : x = c0 + 1) => (show x = c0 + 1 from h9)) (fun x k (h9 : (x = c0 ∧ k = 4) ∨ (x = c0 ∧ k = 11)) => (show (x = c0 + 1) ∨ ((x = c0 ∧ k = 4) ∨ (x = c0 ∧ k = 11)) from h9.elim (fun e9 => Or.inr (show (x = c0 ∧ k = 4) ∨ (x = c0 ∧ k = 11) from Or.inl (e9))) (fun h9 => Or.inr (show (x = c0 ∧ k = 4) ∨ (x = c0 ∧ k = 11) from Or.inr (h9)))))
  have k_31 : (gi σ1 c0 10).toInt = (gi σ0 c0 10).toInt := congrArg Int32.toInt (FX_i cσ1 (show ¬ (c0 = c0 + 1) from by first | omega | (have ugc0 := un gc0; omega)) (show ¬ ((c0 = c0 ∧ 10 = 4) ∨ (c0 = c0 ∧ 10 = 11)) from by first | omega | (have ugc0 := un gc0; omega)))
  have t_32 := XI_c1 mσ1 (id := c0) (k := 11) (lim_F0_11 hc0)
  have kr_33 : gr σ1 c0 9 = some 50 := (FX_r cσ1 (show ¬ (c0 = c0 + 1) from by first | omega | (have ugc0 := un gc0; omega)) (show ¬ ((c0 = c0 ∧ 9 = 4) ∨ (c0 = c0 ∧ 9 = 11)) from by first | omega | (have ugc0 := un gc0; omega))).trans pre0
  refine ⟨?_, ?_⟩
  · intro q_34
    have b_35 : ¬ r2.toInt = 0 := fun h9 => q_34 (Int32.toInt_inj.mp h9)
    have z_36 : (0 : Int32).toInt = 0 := rfl
    exact U12 a1 (0 : Int32) σ1 mσ1 fσ1 (by omega) (by omega) (by omega) (by omega) (by omega)
  · intro q_34
    have b_37 : r2.toInt = 0 := congrArg Int32.toInt q_34
    have z_38 : (0 : Int32).toInt = 0 := rfl
    exact h9ret (0 : Int32) σ1 mσ1 fσ1 (by omega) (by omega)
set_option maxRecDepth 100000 in
set_option maxHeartbeats 4000000 in
theorem k_X2_readsPart_r0 {l : Launch} {V : Vx} {c0 : Nat} {a1 : Int32} {σ0 : Sg} {Qk : Int32 → Sg → Prop} (hc0 : kd c0 = (12, 0)) (lc0 : c0 ∈ ids (V)) (m0 : XI V σ0) (l_a1 : 0 ≤ a1.toInt) (u_a1 : a1.toInt ≤ 0) (pre0 : gr σ0 c0 9 = some 50) (h9ret : ∀ (r : Int32) (σ' : Sg), XI V σ' → FX (fun id => id = c0 + 1) (fun id k => (id = c0 ∧ k = 4) ∨ (id = c0 ∧ k = 11)) σ0 σ' → (0 ≤ r.toInt) → (r.toInt ≤ 1) → Qk r σ') : K_X2_readsPart_r0 l V c0 a1 σ0 Qk := by
  refine e_X2_readsPart_r0 (fun M hl hV hN C => ?_)
  subst hl
  subst hV
  have gc0 : hid _ := kdF_ge hc0
  have T : ∀ n : Nat, (∀ (x1 : Int32) (σ : Sg), XI (mV M) σ → FX (fun id => id = c0 + 1) (fun id k => (id = c0 ∧ k = 4) ∨ (id = c0 ∧ k = 11)) σ0 σ → (0 ≤ x1.toInt) → (x1.toInt ≤ 0) → 1 < n → PS M 33 [(0, .ref c0), (1, .int x1)] [] σ (0, 0)) := by
    intro n
    induction n with
    | zero => exact fun _ _ _ _ _ _ h8 => absurd h8 (Nat.not_lt_zero _)
    | succ n ih =>
      have ih33 := ih
      · intro x1 σ mσ fσ lx1 ux1 hmu
        have kr_c0_9 : gr σ c0 9 = some 50 := (FX_r fσ (show ¬ (c0 = c0 + 1) from by first | omega | (have ugc0 := un gc0; omega)) (show ¬ ((c0 = c0 ∧ 9 = 4) ∨ (c0 = c0 ∧ 9 = 11)) from by first | omega | (have ugc0 := un gc0; omega))).trans pre0
        have k_1 : (gi σ c0 10).toInt = (gi σ0 c0 10).toInt := congrArg Int32.toInt (FX_i fσ (show ¬ (c0 = c0 + 1) from by first | omega | (have ugc0 := un gc0; omega)) (show ¬ ((c0 = c0 ∧ 10 = 4) ∨ (c0 = c0 ∧ 10 = 11)) from by first | omega | (have ugc0 := un gc0; omega)))
        have t_2 := XI_c1 mσ (id := c0) (k := 10) (lim_F0_10 hc0)
        have t_3 := XI_c1 mσ (id := c0) (k := 11) (lim_F0_11 hc0)
        refine s_X2_readsPart_r0_33 C hN hc0 lc0 ?_
        refine ⟨?_, ?_⟩
        · intro q_4
          have b_5 : (4 : Int) ≤ x1.toInt := Int32.le_iff_toInt_le.mp q_4
          refine k_X2_readsTest hc0 lc0 mσ  (by first | omega | assumption | rfl) (fun r3 σ2 mσ2 cσ2 plσ2 phσ2 => ?_)
          have fσ2 : FX (fun id => id = c0 + 1) (fun id k => (id = c0 ∧ k = 4) ∨ (id = c0 ∧ k = 11)) σ0 σ2 := FX_tr fσ cσ2 (fun x (h9 : x = c0 + 1) => (show x = c0 + 1 from h9)) (fun x k (h9 : (x = c0 ∧ k = 4) ∨ (x = c0 ∧ k = 11)) => (show (x = c0 + 1) ∨ ((x = c0 ∧ k = 4) ∨ (x = c0 ∧ k = 11)) from h9.elim (fun e9 => Or.inr (show (x = c0 ∧ k = 4) ∨ (x = c0 ∧ k = 11) from Or.inl (e9))) (fun h9 => Or.inr (show (x = c0 ∧ k = 4) ∨ (x = c0 ∧ k = 11) from Or.inr (h9)))))
          have k_6 : (gi σ2 c0 10).toInt = (gi σ c0 10).toInt := congrArg Int32.toInt (FX_i cσ2 (show ¬ (c0 = c0 + 1) from by first | omega | (have ugc0 := un gc0; omega)) (show ¬ ((c0 = c0 ∧ 10 = 4) ∨ (c0 = c0 ∧ 10 = 11)) from by first | omega | (have ugc0 := un gc0; omega)))
          have t_7 := XI_c1 mσ2 (id := c0) (k := 11) (lim_F0_11 hc0)
          have kr_8 : gr σ2 c0 9 = some 50 := (FX_r cσ2 (show ¬ (c0 = c0 + 1) from by first | omega | (have ugc0 := un gc0; omega)) (show ¬ ((c0 = c0 ∧ 9 = 4) ∨ (c0 = c0 ∧ 9 = 11)) from by first | omega | (have ugc0 := un gc0; omega))).trans kr_c0_9
          refine ⟨i_bool (by omega) (by omega), ?_⟩
          exact h9ret r3 σ2 mσ2 fσ2 (by omega) (by omega)
        · intro q_4
          have b_9 : ¬ (4 : Int) ≤ x1.toInt := fun h9 => q_4 (Int32.le_iff_toInt_le.mpr h9)
          have z_10 : (40 : Int32).toInt = 40 := rfl
          refine k_X2_takes hc0 lc0 mσ  (by omega) (by omega) (by first | omega | assumption | rfl) (fun r5 σ4 mσ4 cσ4 plσ4 phσ4 => ?_)
          have fσ4 : FX (fun id => id = c0 + 1) (fun id k => (id = c0 ∧ k = 4) ∨ (id = c0 ∧ k = 11)) σ0 σ4 := FX_tr fσ cσ4 (fun _ h9 => h9.elim) (fun x k (h9 : (x = c0 ∧ k = 11)) => (show (x = c0 + 1) ∨ ((x = c0 ∧ k = 4) ∨ (x = c0 ∧ k = 11)) from Or.inr (show (x = c0 ∧ k = 4) ∨ (x = c0 ∧ k = 11) from Or.inr (h9))))
          have k_11 : (gi σ4 c0 10).toInt = (gi σ c0 10).toInt := congrArg Int32.toInt (FX_i cσ4 id (show ¬ ((c0 = c0 ∧ 10 = 11)) from by first | omega | (have ugc0 := un gc0; omega)))
          have t_12 := XI_c1 mσ4 (id := c0) (k := 11) (lim_F0_11 hc0)
          have kr_13 : gr σ4 c0 9 = some 50 := (FX_r cσ4 id (show ¬ ((c0 = c0 ∧ 9 = 11)) from by first | omega | (have ugc0 := un gc0; omega))).trans kr_c0_9
          refine ⟨?_, ?_⟩
          · intro q_14
            have b_15 : r5.toInt = 0 := congrArg Int32.toInt q_14
            refine k_X2_readsTest hc0 lc0 mσ4  (by first | omega | assumption | rfl) (fun r8 σ7 mσ7 cσ7 plσ7 phσ7 => ?_)
            have fσ7 : FX (fun id => id = c0 + 1) (fun id k => (id = c0 ∧ k = 4) ∨ (id = c0 ∧ k = 11)) σ0 σ7 := FX_tr fσ4 cσ7 (fun x (h9 : x = c0 + 1) => (show x = c0 + 1 from h9)) (fun x k (h9 : (x = c0 ∧ k = 4) ∨ (x = c0 ∧ k = 11)) => (show (x = c0 + 1) ∨ ((x = c0 ∧ k = 4) ∨ (x = c0 ∧ k = 11)) from h9.elim (fun e9 => Or.inr (show (x = c0 ∧ k = 4) ∨ (x = c0 ∧ k = 11) from Or.inl (e9))) (fun h9 => Or.inr (show (x = c0 ∧ k = 4) ∨ (x = c0 ∧ k = 11) from Or.inr (h9)))))
            have k_16 : (gi σ7 c0 10).toInt = (gi σ4 c0 10).toInt := congrArg Int32.toInt (FX_i cσ7 (show ¬ (c0 = c0 + 1) from by first | omega | (have ugc0 := un gc0; omega)) (show ¬ ((c0 = c0 ∧ 10 = 4) ∨ (c0 = c0 ∧ 10 = 11)) from by first | omega | (have ugc0 := un gc0; omega)))
            have t_17 := XI_c1 mσ7 (id := c0) (k := 11) (lim_F0_11 hc0)
            have kr_18 : gr σ7 c0 9 = some 50 := (FX_r cσ7 (show ¬ (c0 = c0 + 1) from by first | omega | (have ugc0 := un gc0; omega)) (show ¬ ((c0 = c0 ∧ 9 = 4) ∨ (c0 = c0 ∧ 9 = 11)) from by first | omega | (have ugc0 := un gc0; omega))).trans kr_13
            refine ⟨i_bool (by omega) (by omega), ?_⟩
            exact h9ret r8 σ7 mσ7 fσ7 (by omega) (by omega)
          · intro q_14
            have b_19 : ¬ r5.toInt = 0 := fun h9 => q_14 (Int32.toInt_inj.mp h9)
            have t_20 : (x1 + (1 : Int32)).toInt = x1.toInt + 1 := i_add (x := x1) (y := (1 : Int32)) (by show (_ : Int) ≤ x1.toInt + 1; omega) (by show x1.toInt + 1 ≤ (_ : Int); omega)
            refine k_X2_readsEither_r1 hc0 lc0 mσ4  (by omega) (by omega) (by first | omega | assumption | rfl) (fun r10 σ9 mσ9 cσ9 plσ9 phσ9 => ?_)
            have fσ9 : FX (fun id => id = c0 + 1) (fun id k => (id = c0 ∧ k = 4) ∨ (id = c0 ∧ k = 11)) σ0 σ9 := FX_tr fσ4 cσ9 (fun x (h9 : x = c0 + 1) => (show x = c0 + 1 from h9)) (fun x k (h9 : (x = c0 ∧ k = 4) ∨ (x = c0 ∧ k = 11)) => (show (x = c0 + 1) ∨ ((x = c0 ∧ k = 4) ∨ (x = c0 ∧ k = 11)) from h9.elim (fun e9 => Or.inr (show (x = c0 ∧ k = 4) ∨ (x = c0 ∧ k = 11) from Or.inl (e9))) (fun h9 => Or.inr (show (x = c0 ∧ k = 4) ∨ (x = c0 ∧ k = 11) from Or.inr (h9)))))
            have k_21 : (gi σ9 c0 10).toInt = (gi σ4 c0 10).toInt := congrArg Int32.toInt (FX_i cσ9 (show ¬ (c0 = c0 + 1) from by first | omega | (have ugc0 := un gc0; omega)) (show ¬ ((c0 = c0 ∧ 10 = 4) ∨ (c0 = c0 ∧ 10 = 11)) from by first | omega | (have ugc0 := un gc0; omega)))
            have t_22 := XI_c1 mσ9 (id := c0) (k := 11) (lim_F0_11 hc0)
            have kr_23 : gr σ9 c0 9 = some 50 := (FX_r cσ9 (show ¬ (c0 = c0 + 1) from by first | omega | (have ugc0 := un gc0; omega)) (show ¬ ((c0 = c0 ∧ 9 = 4) ∨ (c0 = c0 ∧ 9 = 11)) from by first | omega | (have ugc0 := un gc0; omega))).trans kr_13
            refine ⟨?_, ?_⟩
            · intro q_24
              have b_25 : r10.toInt = 0 := congrArg Int32.toInt q_24
              have z_26 : (0 : Int32).toInt = 0 := rfl
              exact h9ret (0 : Int32) σ9 mσ9 fσ9 (by omega) (by omega)
            · intro q_24
              have b_27 : ¬ r10.toInt = 0 := fun h9 => q_24 (Int32.toInt_inj.mp h9)
              have z_28 : (41 : Int32).toInt = 41 := rfl
              refine k_X2_takes hc0 lc0 mσ9  (by omega) (by omega) (by first | omega | assumption | rfl) (fun r13 σ12 mσ12 cσ12 plσ12 phσ12 => ?_)
              have fσ12 : FX (fun id => id = c0 + 1) (fun id k => (id = c0 ∧ k = 4) ∨ (id = c0 ∧ k = 11)) σ0 σ12 := FX_tr fσ9 cσ12 (fun _ h9 => h9.elim) (fun x k (h9 : (x = c0 ∧ k = 11)) => (show (x = c0 + 1) ∨ ((x = c0 ∧ k = 4) ∨ (x = c0 ∧ k = 11)) from Or.inr (show (x = c0 ∧ k = 4) ∨ (x = c0 ∧ k = 11) from Or.inr (h9))))
              have k_29 : (gi σ12 c0 10).toInt = (gi σ9 c0 10).toInt := congrArg Int32.toInt (FX_i cσ12 id (show ¬ ((c0 = c0 ∧ 10 = 11)) from by first | omega | (have ugc0 := un gc0; omega)))
              have t_30 := XI_c1 mσ12 (id := c0) (k := 11) (lim_F0_11 hc0)
              have kr_31 : gr σ12 c0 9 = some 50 := (FX_r cσ12 id (show ¬ ((c0 = c0 ∧ 9 = 11)) from by first | omega | (have ugc0 := un gc0; omega))).trans kr_23
              refine ⟨?_, ?_⟩
              · intro q_32
                have b_33 : r13.toInt = 0 := congrArg Int32.toInt q_32
                have z_34 : (0 : Int32).toInt = 0 := rfl
                exact h9ret (0 : Int32) σ12 mσ12 fσ12 (by omega) (by omega)
              · intro q_32
                have b_35 : ¬ r13.toInt = 0 := fun h9 => q_32 (Int32.toInt_inj.mp h9)
                have z_36 : (1 : Int32).toInt = 1 := rfl
                exact h9ret (1 : Int32) σ12 mσ12 fσ12 (by omega) (by omega)
  have U33 := T 9
  have f0 : FX (fun id => id = c0 + 1) (fun id k => (id = c0 ∧ k = 4) ∨ (id = c0 ∧ k = 11)) σ0 σ0 := FX_rf
  have t_37 := XI_c1 m0 (id := c0) (k := 10) (lim_F0_10 hc0)
  have t_38 := XI_c1 m0 (id := c0) (k := 11) (lim_F0_11 hc0)
  refine s_X2_readsPart_r0_0 C hN hc0 lc0 ?_
  refine ⟨?_, ?_⟩
  · intro q_39
    have b_40 : (4 : Int) ≤ a1.toInt := Int32.le_iff_toInt_le.mp q_39
    exact U33 a1 σ0 m0 f0 (by omega) (by omega) (by omega)
  · intro q_39
    have b_41 : ¬ (4 : Int) ≤ a1.toInt := fun h9 => q_39 (Int32.le_iff_toInt_le.mpr h9)
    have z_42 : (33 : Int32).toInt = 33 := rfl
    refine k_X2_takes hc0 lc0 m0  (by omega) (by omega) (by first | omega | assumption | rfl) (fun r3 σ2 mσ2 cσ2 plσ2 phσ2 => ?_)
    have fσ2 : FX (fun id => id = c0 + 1) (fun id k => (id = c0 ∧ k = 4) ∨ (id = c0 ∧ k = 11)) σ0 σ2 := FX_tr f0 cσ2 (fun _ h9 => h9.elim) (fun x k (h9 : (x = c0 ∧ k = 11)) => (show (x = c0 + 1) ∨ ((x = c0 ∧ k = 4) ∨ (x = c0 ∧ k = 11)) from Or.inr (show (x = c0 ∧ k = 4) ∨ (x = c0 ∧ k = 11) from Or.inr (h9))))
    have k_43 : (gi σ2 c0 10).toInt = (gi σ0 c0 10).toInt := congrArg Int32.toInt (FX_i cσ2 id (show ¬ ((c0 = c0 ∧ 10 = 11)) from by first | omega | (have ugc0 := un gc0; omega)))
    have t_44 := XI_c1 mσ2 (id := c0) (k := 11) (lim_F0_11 hc0)
    have kr_45 : gr σ2 c0 9 = some 50 := (FX_r cσ2 id (show ¬ ((c0 = c0 ∧ 9 = 11)) from by first | omega | (have ugc0 := un gc0; omega))).trans pre0
    refine ⟨?_, ?_⟩
    · intro q_46
      have b_47 : r3.toInt = 0 := congrArg Int32.toInt q_46
      exact U33 a1 σ2 mσ2 fσ2 (by omega) (by omega) (by omega)
    · intro q_46
      have b_48 : ¬ r3.toInt = 0 := fun h9 => q_46 (Int32.toInt_inj.mp h9)
      have t_49 : (a1 + (1 : Int32)).toInt = a1.toInt + 1 := i_add (x := a1) (y := (1 : Int32)) (by show (_ : Int) ≤ a1.toInt + 1; omega) (by show a1.toInt + 1 ≤ (_ : Int); omega)
      refine k_X2_readsPart_r1 hc0 lc0 mσ2  (by omega) (by omega) (by first | omega | assumption | rfl) (fun r6 σ5 mσ5 cσ5 plσ5 phσ5 => ?_)
      have fσ5 : FX (fun id => id = c0 + 1) (fun id k => (id = c0 ∧ k = 4) ∨ (id = c0 ∧ k = 11)) σ0 σ5 := FX_tr fσ2 cσ5 (fun x (h9 : x = c0 + 1) => (show x = c0 + 1 from h9)) (fun x k (h9 : (x = c0 ∧ k = 4) ∨ (x = c0 ∧ k = 11)) => (show (x = c0 + 1) ∨ ((x = c0 ∧ k = 4) ∨ (x = c0 ∧ k = 11)) from h9.elim (fun e9 => Or.inr (show (x = c0 ∧ k = 4) ∨ (x = c0 ∧ k = 11) from Or.inl (e9))) (fun h9 => Or.inr (show (x = c0 ∧ k = 4) ∨ (x = c0 ∧ k = 11) from Or.inr (h9)))))
      have k_50 : (gi σ5 c0 10).toInt = (gi σ2 c0 10).toInt := congrArg Int32.toInt (FX_i cσ5 (show ¬ (c0 = c0 + 1) from by first | omega | (have ugc0 := un gc0; omega)) (show ¬ ((c0 = c0 ∧ 10 = 4) ∨ (c0 = c0 ∧ 10 = 11)) from by first | omega | (have ugc0 := un gc0; omega)))
      have t_51 := XI_c1 mσ5 (id := c0) (k := 11) (lim_F0_11 hc0)
      have kr_52 : gr σ5 c0 9 = some 50 := (FX_r cσ5 (show ¬ (c0 = c0 + 1) from by first | omega | (have ugc0 := un gc0; omega)) (show ¬ ((c0 = c0 ∧ 9 = 4) ∨ (c0 = c0 ∧ 9 = 11)) from by first | omega | (have ugc0 := un gc0; omega))).trans kr_45
      refine ⟨?_, ?_⟩
      · intro q_53
        have b_54 : ¬ r6.toInt = 0 := fun h9 => q_53 (Int32.toInt_inj.mp h9)
        have z_55 : (-1 : Int32).toInt = -1 := rfl
        refine k_X2_writes hc0 lc0 mσ5  (by omega) (by omega) (fun σ8 mσ8 cσ8 => ?_)
        have fσ8 : FX (fun id => id = c0 + 1) (fun id k => (id = c0 ∧ k = 4) ∨ (id = c0 ∧ k = 11)) σ0 σ8 := FX_tr fσ5 cσ8 (fun x (h9 : x = c0 + 1) => (show x = c0 + 1 from h9)) (fun x k (h9 : (x = c0 ∧ k = 4)) => (show (x = c0 + 1) ∨ ((x = c0 ∧ k = 4) ∨ (x = c0 ∧ k = 11)) from Or.inr (show (x = c0 ∧ k = 4) ∨ (x = c0 ∧ k = 11) from Or.inl (h9))))
        have k_56 : (gi σ8 c0 10).toInt = (gi σ5 c0 10).toInt := congrArg Int32.toInt (FX_i cσ8 (show ¬ (c0 = c0 + 1) from by first | omega | (have ugc0 := un gc0; omega)) (show ¬ ((c0 = c0 ∧ 10 = 4)) from by first | omega | (have ugc0 := un gc0; omega)))
        have k_57 : (gi σ8 c0 11).toInt = (gi σ5 c0 11).toInt := congrArg Int32.toInt (FX_i cσ8 (show ¬ (c0 = c0 + 1) from by first | omega | (have ugc0 := un gc0; omega)) (show ¬ ((c0 = c0 ∧ 11 = 4)) from by first | omega | (have ugc0 := un gc0; omega)))
        have kr_58 : gr σ8 c0 9 = some 50 := (FX_r cσ8 (show ¬ (c0 = c0 + 1) from by first | omega | (have ugc0 := un gc0; omega)) (show ¬ ((c0 = c0 ∧ 9 = 4)) from by first | omega | (have ugc0 := un gc0; omega))).trans kr_52
        have z_59 : (1 : Int32).toInt = 1 := rfl
        exact h9ret (1 : Int32) σ8 mσ8 fσ8 (by omega) (by omega)
      · intro q_53
        have b_60 : r6.toInt = 0 := congrArg Int32.toInt q_53
        have z_61 : (0 : Int32).toInt = 0 := rfl
        exact h9ret (0 : Int32) σ5 mσ5 fσ5 (by omega) (by omega)
set_option maxRecDepth 100000 in
set_option maxHeartbeats 4000000 in
theorem k_X2_readsBoth_r0 {l : Launch} {V : Vx} {c0 : Nat} {a1 : Int32} {σ0 : Sg} {Qk : Int32 → Sg → Prop} (hc0 : kd c0 = (12, 0)) (lc0 : c0 ∈ ids (V)) (m0 : XI V σ0) (l_a1 : 0 ≤ a1.toInt) (u_a1 : a1.toInt ≤ 0) (pre0 : gr σ0 c0 9 = some 50) (h9ret : ∀ (r : Int32) (σ' : Sg), XI V σ' → FX (fun id => id = c0 + 1) (fun id k => (id = c0 ∧ k = 4) ∨ (id = c0 ∧ k = 11)) σ0 σ' → (0 ≤ r.toInt) → (r.toInt ≤ 1) → Qk r σ') : K_X2_readsBoth_r0 l V c0 a1 σ0 Qk := by
  refine e_X2_readsBoth_r0 (fun M hl hV hN C => ?_)
  subst hl
  subst hV
  have gc0 : hid _ := kdF_ge hc0
  have T : ∀ n : Nat, (∀ (x1 : Int32) (x2 : Int32) (σ : Sg), XI (mV M) σ → FX (fun id => id = c0 + 1) (fun id k => (id = c0 ∧ k = 4) ∨ (id = c0 ∧ k = 11)) σ0 σ → (0 ≤ x1.toInt) → (x1.toInt ≤ 0) → (0 ≤ x2.toInt) → (x2.toInt ≤ 100) → (101 - x2.toInt).toNat < n → PS M 12 [(0, .ref c0), (1, .int x1), (2, .int x2)] [] σ (0, 0)) := by
    intro n
    induction n with
    | zero => exact fun _ _ _ _ _ _ _ _ _ h8 => absurd h8 (Nat.not_lt_zero _)
    | succ n ih =>
      have ih12 := ih
      · intro x1 x2 σ mσ fσ lx1 ux1 lx2 ux2 hmu
        have kr_c0_9 : gr σ c0 9 = some 50 := (FX_r fσ (show ¬ (c0 = c0 + 1) from by first | omega | (have ugc0 := un gc0; omega)) (show ¬ ((c0 = c0 ∧ 9 = 4) ∨ (c0 = c0 ∧ 9 = 11)) from by first | omega | (have ugc0 := un gc0; omega))).trans pre0
        have k_1 : (gi σ c0 10).toInt = (gi σ0 c0 10).toInt := congrArg Int32.toInt (FX_i fσ (show ¬ (c0 = c0 + 1) from by first | omega | (have ugc0 := un gc0; omega)) (show ¬ ((c0 = c0 ∧ 10 = 4) ∨ (c0 = c0 ∧ 10 = 11)) from by first | omega | (have ugc0 := un gc0; omega)))
        have t_2 := XI_c1 mσ (id := c0) (k := 10) (lim_F0_10 hc0)
        have t_3 := XI_c1 mσ (id := c0) (k := 11) (lim_F0_11 hc0)
        refine s_X2_readsBoth_r0_12 C hN hc0 lc0 ?_
        refine ⟨?_, ?_⟩
        · intro q_4
          have b_5 : (100 : Int) ≤ x2.toInt := Int32.le_iff_toInt_le.mp q_4
          have z_6 : (1 : Int32).toInt = 1 := rfl
          exact h9ret (1 : Int32) σ mσ fσ (by omega) (by omega)
        · intro q_4
          have b_7 : ¬ (100 : Int) ≤ x2.toInt := fun h9 => q_4 (Int32.le_iff_toInt_le.mpr h9)
          have z_8 : (38 : Int32).toInt = 38 := rfl
          refine k_X2_takes hc0 lc0 mσ  (by omega) (by omega) (by first | omega | assumption | rfl) (fun r3 σ2 mσ2 cσ2 plσ2 phσ2 => ?_)
          have fσ2 : FX (fun id => id = c0 + 1) (fun id k => (id = c0 ∧ k = 4) ∨ (id = c0 ∧ k = 11)) σ0 σ2 := FX_tr fσ cσ2 (fun _ h9 => h9.elim) (fun x k (h9 : (x = c0 ∧ k = 11)) => (show (x = c0 + 1) ∨ ((x = c0 ∧ k = 4) ∨ (x = c0 ∧ k = 11)) from Or.inr (show (x = c0 ∧ k = 4) ∨ (x = c0 ∧ k = 11) from Or.inr (h9))))
          have k_9 : (gi σ2 c0 10).toInt = (gi σ c0 10).toInt := congrArg Int32.toInt (FX_i cσ2 id (show ¬ ((c0 = c0 ∧ 10 = 11)) from by first | omega | (have ugc0 := un gc0; omega)))
          have t_10 := XI_c1 mσ2 (id := c0) (k := 11) (lim_F0_11 hc0)
          have kr_11 : gr σ2 c0 9 = some 50 := (FX_r cσ2 id (show ¬ ((c0 = c0 ∧ 9 = 11)) from by first | omega | (have ugc0 := un gc0; omega))).trans kr_c0_9
          refine ⟨?_, ?_⟩
          · intro q_12
            have b_13 : r3.toInt = 0 := congrArg Int32.toInt q_12
            have z_14 : (1 : Int32).toInt = 1 := rfl
            exact h9ret (1 : Int32) σ2 mσ2 fσ2 (by omega) (by omega)
          · intro q_12
            have b_15 : ¬ r3.toInt = 0 := fun h9 => q_12 (Int32.toInt_inj.mp h9)
            refine k_X2_readsPart_r0 hc0 lc0 mσ2  (by omega) (by omega) (by first | omega | assumption | rfl) (fun r6 σ5 mσ5 cσ5 plσ5 phσ5 => ?_)
            have fσ5 : FX (fun id => id = c0 + 1) (fun id k => (id = c0 ∧ k = 4) ∨ (id = c0 ∧ k = 11)) σ0 σ5 := FX_tr fσ2 cσ5 (fun x (h9 : x = c0 + 1) => (show x = c0 + 1 from h9)) (fun x k (h9 : (x = c0 ∧ k = 4) ∨ (x = c0 ∧ k = 11)) => (show (x = c0 + 1) ∨ ((x = c0 ∧ k = 4) ∨ (x = c0 ∧ k = 11)) from h9.elim (fun e9 => Or.inr (show (x = c0 ∧ k = 4) ∨ (x = c0 ∧ k = 11) from Or.inl (e9))) (fun h9 => Or.inr (show (x = c0 ∧ k = 4) ∨ (x = c0 ∧ k = 11) from Or.inr (h9)))))
            have k_16 : (gi σ5 c0 10).toInt = (gi σ2 c0 10).toInt := congrArg Int32.toInt (FX_i cσ5 (show ¬ (c0 = c0 + 1) from by first | omega | (have ugc0 := un gc0; omega)) (show ¬ ((c0 = c0 ∧ 10 = 4) ∨ (c0 = c0 ∧ 10 = 11)) from by first | omega | (have ugc0 := un gc0; omega)))
            have t_17 := XI_c1 mσ5 (id := c0) (k := 11) (lim_F0_11 hc0)
            have kr_18 : gr σ5 c0 9 = some 50 := (FX_r cσ5 (show ¬ (c0 = c0 + 1) from by first | omega | (have ugc0 := un gc0; omega)) (show ¬ ((c0 = c0 ∧ 9 = 4) ∨ (c0 = c0 ∧ 9 = 11)) from by first | omega | (have ugc0 := un gc0; omega))).trans kr_11
            refine ⟨?_, ?_⟩
            · intro q_19
              have b_20 : ¬ r6.toInt = 0 := fun h9 => q_19 (Int32.toInt_inj.mp h9)
              have z_21 : (-2 : Int32).toInt = -2 := rfl
              refine k_X2_writes hc0 lc0 mσ5  (by omega) (by omega) (fun σ8 mσ8 cσ8 => ?_)
              have fσ8 : FX (fun id => id = c0 + 1) (fun id k => (id = c0 ∧ k = 4) ∨ (id = c0 ∧ k = 11)) σ0 σ8 := FX_tr fσ5 cσ8 (fun x (h9 : x = c0 + 1) => (show x = c0 + 1 from h9)) (fun x k (h9 : (x = c0 ∧ k = 4)) => (show (x = c0 + 1) ∨ ((x = c0 ∧ k = 4) ∨ (x = c0 ∧ k = 11)) from Or.inr (show (x = c0 ∧ k = 4) ∨ (x = c0 ∧ k = 11) from Or.inl (h9))))
              have k_22 : (gi σ8 c0 10).toInt = (gi σ5 c0 10).toInt := congrArg Int32.toInt (FX_i cσ8 (show ¬ (c0 = c0 + 1) from by first | omega | (have ugc0 := un gc0; omega)) (show ¬ ((c0 = c0 ∧ 10 = 4)) from by first | omega | (have ugc0 := un gc0; omega)))
              have k_23 : (gi σ8 c0 11).toInt = (gi σ5 c0 11).toInt := congrArg Int32.toInt (FX_i cσ8 (show ¬ (c0 = c0 + 1) from by first | omega | (have ugc0 := un gc0; omega)) (show ¬ ((c0 = c0 ∧ 11 = 4)) from by first | omega | (have ugc0 := un gc0; omega)))
              have kr_24 : gr σ8 c0 9 = some 50 := (FX_r cσ8 (show ¬ (c0 = c0 + 1) from by first | omega | (have ugc0 := un gc0; omega)) (show ¬ ((c0 = c0 ∧ 9 = 4)) from by first | omega | (have ugc0 := un gc0; omega))).trans kr_18
              intro v9 ev9
              have t_25 : (x2 + (1 : Int32)).toInt = x2.toInt + 1 := i_add (x := x2) (y := (1 : Int32)) (by show (_ : Int) ≤ x2.toInt + 1; omega) (by show x2.toInt + 1 ≤ (_ : Int); omega)
              have t_26 : v9.toInt = (x2 + (1 : Int32)).toInt := congrArg Int32.toInt ev9
              exact ih12 x1 v9 σ8 mσ8 fσ8 (by omega) (by omega) (by omega) (by omega) (by omega)
            · intro q_19
              have b_27 : r6.toInt = 0 := congrArg Int32.toInt q_19
              have z_28 : (0 : Int32).toInt = 0 := rfl
              exact h9ret (0 : Int32) σ5 mσ5 fσ5 (by omega) (by omega)
  have U12 := T 200
  have f0 : FX (fun id => id = c0 + 1) (fun id k => (id = c0 ∧ k = 4) ∨ (id = c0 ∧ k = 11)) σ0 σ0 := FX_rf
  have t_29 := XI_c1 m0 (id := c0) (k := 10) (lim_F0_10 hc0)
  have t_30 := XI_c1 m0 (id := c0) (k := 11) (lim_F0_11 hc0)
  refine s_X2_readsBoth_r0_0 C hN hc0 lc0 ?_
  refine k_X2_readsPart_r0 hc0 lc0 m0  (by omega) (by omega) (by first | omega | assumption | rfl) (fun r2 σ1 mσ1 cσ1 plσ1 phσ1 => ?_)
  have fσ1 : FX (fun id => id = c0 + 1) (fun id k => (id = c0 ∧ k = 4) ∨ (id = c0 ∧ k = 11)) σ0 σ1 := FX_tr f0 cσ1 (fun x (h9 : x = c0 + 1) => (show x = c0 + 1 from h9)) (fun x k (h9 : (x = c0 ∧ k = 4) ∨ (x = c0 ∧ k = 11)) => (show (x = c0 + 1) ∨ ((x = c0 ∧ k = 4) ∨ (x = c0 ∧ k = 11)) from h9.elim (fun e9 => Or.inr (show (x = c0 ∧ k = 4) ∨ (x = c0 ∧ k = 11) from Or.inl (e9))) (fun h9 => Or.inr (show (x = c0 ∧ k = 4) ∨ (x = c0 ∧ k = 11) from Or.inr (h9)))))
  have k_31 : (gi σ1 c0 10).toInt = (gi σ0 c0 10).toInt := congrArg Int32.toInt (FX_i cσ1 (show ¬ (c0 = c0 + 1) from by first | omega | (have ugc0 := un gc0; omega)) (show ¬ ((c0 = c0 ∧ 10 = 4) ∨ (c0 = c0 ∧ 10 = 11)) from by first | omega | (have ugc0 := un gc0; omega)))
  have t_32 := XI_c1 mσ1 (id := c0) (k := 11) (lim_F0_11 hc0)
  have kr_33 : gr σ1 c0 9 = some 50 := (FX_r cσ1 (show ¬ (c0 = c0 + 1) from by first | omega | (have ugc0 := un gc0; omega)) (show ¬ ((c0 = c0 ∧ 9 = 4) ∨ (c0 = c0 ∧ 9 = 11)) from by first | omega | (have ugc0 := un gc0; omega))).trans pre0
  refine ⟨?_, ?_⟩
  · intro q_34
    have b_35 : ¬ r2.toInt = 0 := fun h9 => q_34 (Int32.toInt_inj.mp h9)
    have z_36 : (0 : Int32).toInt = 0 := rfl
    exact U12 a1 (0 : Int32) σ1 mσ1 fσ1 (by omega) (by omega) (by omega) (by omega) (by omega)
  · intro q_34
    have b_37 : r2.toInt = 0 := congrArg Int32.toInt q_34
    have z_38 : (0 : Int32).toInt = 0 := rfl
    exact h9ret (0 : Int32) σ1 mσ1 fσ1 (by omega) (by omega)
set_option maxRecDepth 100000 in
set_option maxHeartbeats 4000000 in
theorem k_X2_readsEither_r0 {l : Launch} {V : Vx} {c0 : Nat} {a1 : Int32} {σ0 : Sg} {Qk : Int32 → Sg → Prop} (hc0 : kd c0 = (12, 0)) (lc0 : c0 ∈ ids (V)) (m0 : XI V σ0) (l_a1 : 0 ≤ a1.toInt) (u_a1 : a1.toInt ≤ 0) (pre0 : gr σ0 c0 9 = some 50) (h9ret : ∀ (r : Int32) (σ' : Sg), XI V σ' → FX (fun id => id = c0 + 1) (fun id k => (id = c0 ∧ k = 4) ∨ (id = c0 ∧ k = 11)) σ0 σ' → (0 ≤ r.toInt) → (r.toInt ≤ 1) → Qk r σ') : K_X2_readsEither_r0 l V c0 a1 σ0 Qk := by
  refine e_X2_readsEither_r0 (fun M hl hV hN C => ?_)
  subst hl
  subst hV
  have gc0 : hid _ := kdF_ge hc0
  have T : ∀ n : Nat, (∀ (x1 : Int32) (x2 : Int32) (σ : Sg), XI (mV M) σ → FX (fun id => id = c0 + 1) (fun id k => (id = c0 ∧ k = 4) ∨ (id = c0 ∧ k = 11)) σ0 σ → (0 ≤ x1.toInt) → (x1.toInt ≤ 0) → (0 ≤ x2.toInt) → (x2.toInt ≤ 100) → (101 - x2.toInt).toNat < n → PS M 12 [(0, .ref c0), (1, .int x1), (2, .int x2)] [] σ (0, 0)) := by
    intro n
    induction n with
    | zero => exact fun _ _ _ _ _ _ _ _ _ h8 => absurd h8 (Nat.not_lt_zero _)
    | succ n ih =>
      have ih12 := ih
      · intro x1 x2 σ mσ fσ lx1 ux1 lx2 ux2 hmu
        have kr_c0_9 : gr σ c0 9 = some 50 := (FX_r fσ (show ¬ (c0 = c0 + 1) from by first | omega | (have ugc0 := un gc0; omega)) (show ¬ ((c0 = c0 ∧ 9 = 4) ∨ (c0 = c0 ∧ 9 = 11)) from by first | omega | (have ugc0 := un gc0; omega))).trans pre0
        have k_1 : (gi σ c0 10).toInt = (gi σ0 c0 10).toInt := congrArg Int32.toInt (FX_i fσ (show ¬ (c0 = c0 + 1) from by first | omega | (have ugc0 := un gc0; omega)) (show ¬ ((c0 = c0 ∧ 10 = 4) ∨ (c0 = c0 ∧ 10 = 11)) from by first | omega | (have ugc0 := un gc0; omega)))
        have t_2 := XI_c1 mσ (id := c0) (k := 10) (lim_F0_10 hc0)
        have t_3 := XI_c1 mσ (id := c0) (k := 11) (lim_F0_11 hc0)
        refine s_X2_readsEither_r0_12 C hN hc0 lc0 ?_
        refine ⟨?_, ?_⟩
        · intro q_4
          have b_5 : (100 : Int) ≤ x2.toInt := Int32.le_iff_toInt_le.mp q_4
          have z_6 : (1 : Int32).toInt = 1 := rfl
          exact h9ret (1 : Int32) σ mσ fσ (by omega) (by omega)
        · intro q_4
          have b_7 : ¬ (100 : Int) ≤ x2.toInt := fun h9 => q_4 (Int32.le_iff_toInt_le.mpr h9)
          have z_8 : (124 : Int32).toInt = 124 := rfl
          refine k_X2_takes hc0 lc0 mσ  (by omega) (by omega) (by first | omega | assumption | rfl) (fun r3 σ2 mσ2 cσ2 plσ2 phσ2 => ?_)
          have fσ2 : FX (fun id => id = c0 + 1) (fun id k => (id = c0 ∧ k = 4) ∨ (id = c0 ∧ k = 11)) σ0 σ2 := FX_tr fσ cσ2 (fun _ h9 => h9.elim) (fun x k (h9 : (x = c0 ∧ k = 11)) => (show (x = c0 + 1) ∨ ((x = c0 ∧ k = 4) ∨ (x = c0 ∧ k = 11)) from Or.inr (show (x = c0 ∧ k = 4) ∨ (x = c0 ∧ k = 11) from Or.inr (h9))))
          have k_9 : (gi σ2 c0 10).toInt = (gi σ c0 10).toInt := congrArg Int32.toInt (FX_i cσ2 id (show ¬ ((c0 = c0 ∧ 10 = 11)) from by first | omega | (have ugc0 := un gc0; omega)))
          have t_10 := XI_c1 mσ2 (id := c0) (k := 11) (lim_F0_11 hc0)
          have kr_11 : gr σ2 c0 9 = some 50 := (FX_r cσ2 id (show ¬ ((c0 = c0 ∧ 9 = 11)) from by first | omega | (have ugc0 := un gc0; omega))).trans kr_c0_9
          refine ⟨?_, ?_⟩
          · intro q_12
            have b_13 : r3.toInt = 0 := congrArg Int32.toInt q_12
            have z_14 : (1 : Int32).toInt = 1 := rfl
            exact h9ret (1 : Int32) σ2 mσ2 fσ2 (by omega) (by omega)
          · intro q_12
            have b_15 : ¬ r3.toInt = 0 := fun h9 => q_12 (Int32.toInt_inj.mp h9)
            refine k_X2_readsBoth_r0 hc0 lc0 mσ2  (by omega) (by omega) (by first | omega | assumption | rfl) (fun r6 σ5 mσ5 cσ5 plσ5 phσ5 => ?_)
            have fσ5 : FX (fun id => id = c0 + 1) (fun id k => (id = c0 ∧ k = 4) ∨ (id = c0 ∧ k = 11)) σ0 σ5 := FX_tr fσ2 cσ5 (fun x (h9 : x = c0 + 1) => (show x = c0 + 1 from h9)) (fun x k (h9 : (x = c0 ∧ k = 4) ∨ (x = c0 ∧ k = 11)) => (show (x = c0 + 1) ∨ ((x = c0 ∧ k = 4) ∨ (x = c0 ∧ k = 11)) from h9.elim (fun e9 => Or.inr (show (x = c0 ∧ k = 4) ∨ (x = c0 ∧ k = 11) from Or.inl (e9))) (fun h9 => Or.inr (show (x = c0 ∧ k = 4) ∨ (x = c0 ∧ k = 11) from Or.inr (h9)))))
            have k_16 : (gi σ5 c0 10).toInt = (gi σ2 c0 10).toInt := congrArg Int32.toInt (FX_i cσ5 (show ¬ (c0 = c0 + 1) from by first | omega | (have ugc0 := un gc0; omega)) (show ¬ ((c0 = c0 ∧ 10 = 4) ∨ (c0 = c0 ∧ 10 = 11)) from by first | omega | (have ugc0 := un gc0; omega)))
            have t_17 := XI_c1 mσ5 (id := c0) (k := 11) (lim_F0_11 hc0)
            have kr_18 : gr σ5 c0 9 = some 50 := (FX_r cσ5 (show ¬ (c0 = c0 + 1) from by first | omega | (have ugc0 := un gc0; omega)) (show ¬ ((c0 = c0 ∧ 9 = 4) ∨ (c0 = c0 ∧ 9 = 11)) from by first | omega | (have ugc0 := un gc0; omega))).trans kr_11
            refine ⟨?_, ?_⟩
            · intro q_19
              have b_20 : ¬ r6.toInt = 0 := fun h9 => q_19 (Int32.toInt_inj.mp h9)
              have z_21 : (-3 : Int32).toInt = -3 := rfl
              refine k_X2_writes hc0 lc0 mσ5  (by omega) (by omega) (fun σ8 mσ8 cσ8 => ?_)
              have fσ8 : FX (fun id => id = c0 + 1) (fun id k => (id = c0 ∧ k = 4) ∨ (id = c0 ∧ k = 11)) σ0 σ8 := FX_tr fσ5 cσ8 (fun x (h9 : x = c0 + 1) => (show x = c0 + 1 from h9)) (fun x k (h9 : (x = c0 ∧ k = 4)) => (show (x = c0 + 1) ∨ ((x = c0 ∧ k = 4) ∨ (x = c0 ∧ k = 11)) from Or.inr (show (x = c0 ∧ k = 4) ∨ (x = c0 ∧ k = 11) from Or.inl (h9))))
              have k_22 : (gi σ8 c0 10).toInt = (gi σ5 c0 10).toInt := congrArg Int32.toInt (FX_i cσ8 (show ¬ (c0 = c0 + 1) from by first | omega | (have ugc0 := un gc0; omega)) (show ¬ ((c0 = c0 ∧ 10 = 4)) from by first | omega | (have ugc0 := un gc0; omega)))
              have k_23 : (gi σ8 c0 11).toInt = (gi σ5 c0 11).toInt := congrArg Int32.toInt (FX_i cσ8 (show ¬ (c0 = c0 + 1) from by first | omega | (have ugc0 := un gc0; omega)) (show ¬ ((c0 = c0 ∧ 11 = 4)) from by first | omega | (have ugc0 := un gc0; omega)))
              have kr_24 : gr σ8 c0 9 = some 50 := (FX_r cσ8 (show ¬ (c0 = c0 + 1) from by first | omega | (have ugc0 := un gc0; omega)) (show ¬ ((c0 = c0 ∧ 9 = 4)) from by first | omega | (have ugc0 := un gc0; omega))).trans kr_18
              intro v9 ev9
              have t_25 : (x2 + (1 : Int32)).toInt = x2.toInt + 1 := i_add (x := x2) (y := (1 : Int32)) (by show (_ : Int) ≤ x2.toInt + 1; omega) (by show x2.toInt + 1 ≤ (_ : Int); omega)
              have t_26 : v9.toInt = (x2 + (1 : Int32)).toInt := congrArg Int32.toInt ev9
              exact ih12 x1 v9 σ8 mσ8 fσ8 (by omega) (by omega) (by omega) (by omega) (by omega)
            · intro q_19
              have b_27 : r6.toInt = 0 := congrArg Int32.toInt q_19
              have z_28 : (0 : Int32).toInt = 0 := rfl
              exact h9ret (0 : Int32) σ5 mσ5 fσ5 (by omega) (by omega)
  have U12 := T 200
  have f0 : FX (fun id => id = c0 + 1) (fun id k => (id = c0 ∧ k = 4) ∨ (id = c0 ∧ k = 11)) σ0 σ0 := FX_rf
  have t_29 := XI_c1 m0 (id := c0) (k := 10) (lim_F0_10 hc0)
  have t_30 := XI_c1 m0 (id := c0) (k := 11) (lim_F0_11 hc0)
  refine s_X2_readsEither_r0_0 C hN hc0 lc0 ?_
  refine k_X2_readsBoth_r0 hc0 lc0 m0  (by omega) (by omega) (by first | omega | assumption | rfl) (fun r2 σ1 mσ1 cσ1 plσ1 phσ1 => ?_)
  have fσ1 : FX (fun id => id = c0 + 1) (fun id k => (id = c0 ∧ k = 4) ∨ (id = c0 ∧ k = 11)) σ0 σ1 := FX_tr f0 cσ1 (fun x (h9 : x = c0 + 1) => (show x = c0 + 1 from h9)) (fun x k (h9 : (x = c0 ∧ k = 4) ∨ (x = c0 ∧ k = 11)) => (show (x = c0 + 1) ∨ ((x = c0 ∧ k = 4) ∨ (x = c0 ∧ k = 11)) from h9.elim (fun e9 => Or.inr (show (x = c0 ∧ k = 4) ∨ (x = c0 ∧ k = 11) from Or.inl (e9))) (fun h9 => Or.inr (show (x = c0 ∧ k = 4) ∨ (x = c0 ∧ k = 11) from Or.inr (h9)))))
  have k_31 : (gi σ1 c0 10).toInt = (gi σ0 c0 10).toInt := congrArg Int32.toInt (FX_i cσ1 (show ¬ (c0 = c0 + 1) from by first | omega | (have ugc0 := un gc0; omega)) (show ¬ ((c0 = c0 ∧ 10 = 4) ∨ (c0 = c0 ∧ 10 = 11)) from by first | omega | (have ugc0 := un gc0; omega)))
  have t_32 := XI_c1 mσ1 (id := c0) (k := 11) (lim_F0_11 hc0)
  have kr_33 : gr σ1 c0 9 = some 50 := (FX_r cσ1 (show ¬ (c0 = c0 + 1) from by first | omega | (have ugc0 := un gc0; omega)) (show ¬ ((c0 = c0 ∧ 9 = 4) ∨ (c0 = c0 ∧ 9 = 11)) from by first | omega | (have ugc0 := un gc0; omega))).trans pre0
  refine ⟨?_, ?_⟩
  · intro q_34
    have b_35 : ¬ r2.toInt = 0 := fun h9 => q_34 (Int32.toInt_inj.mp h9)
    have z_36 : (0 : Int32).toInt = 0 := rfl
    exact U12 a1 (0 : Int32) σ1 mσ1 fσ1 (by omega) (by omega) (by omega) (by omega) (by omega)
  · intro q_34
    have b_37 : r2.toInt = 0 := congrArg Int32.toInt q_34
    have z_38 : (0 : Int32).toInt = 0 := rfl
    exact h9ret (0 : Int32) σ1 mσ1 fσ1 (by omega) (by omega)
