set_option maxRecDepth 100000 in
set_option maxHeartbeats 4000000 in
theorem k_X11_isMower {l : Launch} {V : Vx} {a1 : Int32} {σ0 : Sg} {Qk : Int32 → Sg → Prop} (m0 : XI V σ0) (h9ret : ∀ (r : Int32) (σ' : Sg), XI V σ' → FX (fun id => False) (fun _ _ => False) σ0 σ' → (0 ≤ r.toInt) → (r.toInt ≤ 1) → ((r.toInt = 1 ∧ 0 ≤ a1.toInt ∧ a1.toInt < (gi σ0 1 1).toInt) ∨ (r.toInt = 0 ∧ (a1.toInt < 0 ∨ (gi σ0 1 1).toInt ≤ a1.toInt))) → Qk r σ') : K_X11_isMower l V a1 σ0 Qk := by
  refine e_X11_isMower (fun M hl hV hN C => ?_)
  subst hl
  subst hV
  have f0 : FX (fun id => False) (fun _ _ => False) σ0 σ0 := FX_rf
  have t_1 := XI_c1 m0 (id := 1) (k := 1) (lim_C0_1 (Or.inl rfl))
  refine s_X11_isMower_0 C hN  ?_
  refine ⟨?_, ?_⟩
  · intro q_2
    have w_3 := Int32.toInt_lt a1
    have w_4 := Int32.le_toInt a1
    have b_5 : a1.toInt < 0 := Int32.lt_iff_toInt_lt.mp q_2
    have z_6 : (0 : Int32).toInt = 0 := rfl
    exact h9ret (0 : Int32) σ0 m0 f0 (by omega) (by omega) (by first | omega | assumption | rfl)
  · intro q_2
    have w_7 := Int32.toInt_lt a1
    have w_8 := Int32.le_toInt a1
    have b_9 : ¬ a1.toInt < 0 := fun h9 => q_2 (Int32.lt_iff_toInt_lt.mpr h9)
    refine ⟨?_, ?_⟩
    · intro q_10
      have b_11 : (gi σ0 1 1).toInt ≤ a1.toInt := Int32.le_iff_toInt_le.mp q_10
      have z_12 : (0 : Int32).toInt = 0 := rfl
      exact h9ret (0 : Int32) σ0 m0 f0 (by omega) (by omega) (by first | omega | assumption | rfl)
    · intro q_10
      have b_13 : ¬ (gi σ0 1 1).toInt ≤ a1.toInt := fun h9 => q_10 (Int32.le_iff_toInt_le.mpr h9)
      have z_14 : (1 : Int32).toInt = 1 := rfl
      exact h9ret (1 : Int32) σ0 m0 f0 (by omega) (by omega) (by first | omega | assumption | rfl)
set_option maxRecDepth 100000 in
set_option maxHeartbeats 4000000 in
theorem k_X11_hits {l : Launch} {V : Vx} {a1 : Int32} {σ0 : Sg} {Qk : Int32 → Sg → Prop} (m0 : XI V σ0) (h9ret : ∀ (r : Int32) (σ' : Sg), XI V σ' → FX (fun id => False) (fun _ _ => False) σ0 σ' → Qk r σ') : K_X11_hits l V a1 σ0 Qk := by
  refine e_X11_hits (fun M hl hV hN C => ?_)
  subst hl
  subst hV
  have T : ∀ n : Nat, (∀ (x1 : Int32) (x2 : Int32) (x3 : Int32) (σ : Sg), XI (mV M) σ → FX (fun id => False) (fun _ _ => False) σ0 σ → (0 ≤ x3.toInt) → (x3.toInt ≤ 6) → (7 - x3.toInt).toNat < n → PS M 4 [(0, .ref 0), (1, .int x1), (2, .int x2), (3, .int x3)] [] σ (0, 0)) := by
    intro n
    induction n with
    | zero => exact fun _ _ _ _ _ _ _ _ h8 => absurd h8 (Nat.not_lt_zero _)
    | succ n ih =>
      have ih4 := ih
      · intro x1 x2 x3 σ mσ fσ lx3 ux3 hmu
        have k_1 : (gi σ 33 1).toInt = (gi σ0 33 1).toInt := congrArg Int32.toInt (FX_i fσ id id)
        have t_2 := XI_c1 mσ (id := 33) (k := 1) (lim_C0_1 (Or.inr (Or.inr rfl)))
        refine s_X11_hits_4 C hN  ?_
        refine ⟨?_, ?_⟩
        · intro q_3
          have b_4 : (gi σ 33 1).toInt ≤ x3.toInt := Int32.le_iff_toInt_le.mp q_3
          exact h9ret x2 σ mσ fσ
        · intro q_3
          have b_5 : ¬ (gi σ 33 1).toInt ≤ x3.toInt := fun h9 => q_3 (Int32.le_iff_toInt_le.mpr h9)
          refine ⟨?_, ?_⟩
          · intro q_6
            have w_7 := Int32.toInt_lt x1
            have w_8 := Int32.le_toInt x1
            have b_9 : x3.toInt = x1.toInt := congrArg Int32.toInt q_6
            intro v3 ev3
            have t_10 : (x3 + (1 : Int32)).toInt = x3.toInt + 1 := i_add (x := x3) (y := (1 : Int32)) (by show (_ : Int) ≤ x3.toInt + 1; omega) (by show x3.toInt + 1 ≤ (_ : Int); omega)
            have t_11 : v3.toInt = (x3 + (1 : Int32)).toInt := congrArg Int32.toInt ev3
            have w_12 := Int32.toInt_lt x2
            have w_13 := Int32.le_toInt x2
            exact ih4 x1 x2 v3 σ mσ fσ (by omega) (by omega) (by omega)
          · intro q_6
            have w_14 := Int32.toInt_lt x1
            have w_15 := Int32.le_toInt x1
            have b_16 : ¬ x3.toInt = x1.toInt := fun h9 => q_6 (Int32.toInt_inj.mp h9)
            have hv_17 : vp_in x3 6 := vp_in_iff.mpr ⟨by omega, by omega⟩
            refine ⟨hv_17, ?_⟩
            refine ⟨hv_17, ?_⟩
            refine ⟨?_, ?_⟩
            · intro q_18
              have w_19 := Int32.toInt_lt (gi σ 68 x3.toNatClampNeg)
              have w_20 := Int32.le_toInt (gi σ 68 x3.toNatClampNeg)
              have w_21 := Int32.toInt_lt (gi σ 36 x3.toNatClampNeg)
              have w_22 := Int32.le_toInt (gi σ 36 x3.toNatClampNeg)
              have b_23 : (gi σ 68 x3.toNatClampNeg).toInt ≤ (gi σ 36 x3.toNatClampNeg).toInt := Int32.le_iff_toInt_le.mp q_18
              intro v7 ev7
              have t_24 : (x3 + (1 : Int32)).toInt = x3.toInt + 1 := i_add (x := x3) (y := (1 : Int32)) (by show (_ : Int) ≤ x3.toInt + 1; omega) (by show x3.toInt + 1 ≤ (_ : Int); omega)
              have t_25 : v7.toInt = (x3 + (1 : Int32)).toInt := congrArg Int32.toInt ev7
              have w_26 := Int32.toInt_lt x2
              have w_27 := Int32.le_toInt x2
              exact ih4 x1 x2 v7 σ mσ fσ (by omega) (by omega) (by omega)
            · intro q_18
              have w_28 := Int32.toInt_lt (gi σ 68 x3.toNatClampNeg)
              have w_29 := Int32.le_toInt (gi σ 68 x3.toNatClampNeg)
              have w_30 := Int32.toInt_lt (gi σ 36 x3.toNatClampNeg)
              have w_31 := Int32.le_toInt (gi σ 36 x3.toNatClampNeg)
              have b_32 : ¬ (gi σ 68 x3.toNatClampNeg).toInt ≤ (gi σ 36 x3.toNatClampNeg).toInt := fun h9 => q_18 (Int32.le_iff_toInt_le.mpr h9)
              intro v8 ev8
              intro v9 ev9
              have t_33 : (x3 + (1 : Int32)).toInt = x3.toInt + 1 := i_add (x := x3) (y := (1 : Int32)) (by show (_ : Int) ≤ x3.toInt + 1; omega) (by show x3.toInt + 1 ≤ (_ : Int); omega)
              have t_34 : v9.toInt = (x3 + (1 : Int32)).toInt := congrArg Int32.toInt ev9
              have w_35 := Int32.toInt_lt v8
              have w_36 := Int32.le_toInt v8
              exact ih4 x1 v8 v9 σ mσ fσ (by omega) (by omega) (by omega)
  have U4 := T 9
  have f0 : FX (fun id => False) (fun _ _ => False) σ0 σ0 := FX_rf
  have t_37 := XI_c1 m0 (id := 33) (k := 1) (lim_C0_1 (Or.inr (Or.inr rfl)))
  refine s_X11_hits_0 C hN  ?_
  have w_38 := Int32.toInt_lt a1
  have w_39 := Int32.le_toInt a1
  have z_40 : (0 : Int32).toInt = 0 := rfl
  exact U4 a1 (0 : Int32) (0 : Int32) σ0 m0 f0 (by omega) (by omega) (by omega)
set_option maxRecDepth 100000 in
set_option maxHeartbeats 4000000 in
theorem k_X11_feed {l : Launch} {V : Vx} {a1 : Int32} {σ0 : Sg} {Qk : Int32 → Sg → Prop} (m0 : XI V σ0) (h9ret : ∀ (r : Int32) (σ' : Sg), XI V σ' → FX (fun id => id = 50) (fun id k => (id = 0 ∧ k = 7)) σ0 σ' → Qk r σ') : K_X11_feed l V a1 σ0 Qk := by
  refine e_X11_feed (fun M hl hV hN C => ?_)
  subst hl
  subst hV
  have f0 : FX (fun id => id = 50) (fun id k => (id = 0 ∧ k = 7)) σ0 σ0 := FX_rf
  have t_1 := XI_c1 m0 (id := 0) (k := 7) (rfl)
  have t_2 := XI_c1 m0 (id := 1) (k := 1) (lim_C0_1 (Or.inl rfl))
  refine s_X11_feed_0 C hN  ?_
  refine ⟨?_, ?_⟩
  · intro q_3
    have w_4 := Int32.toInt_lt a1
    have w_5 := Int32.le_toInt a1
    have b_6 : a1.toInt < 0 := Int32.lt_iff_toInt_lt.mp q_3
    have z_7 : (-2 : Int32).toInt = -2 := rfl
    exact h9ret (-2 : Int32) σ0 m0 f0
  · intro q_3
    have w_8 := Int32.toInt_lt a1
    have w_9 := Int32.le_toInt a1
    have b_10 : ¬ a1.toInt < 0 := fun h9 => q_3 (Int32.lt_iff_toInt_lt.mpr h9)
    refine ⟨?_, ?_⟩
    · intro q_11
      have b_12 : a1.toInt ≤ 127 := Int32.le_iff_toInt_le.mp q_11
      refine ⟨?_, ?_⟩
      · intro q_13
        have b_14 : (gi σ0 0 7).toInt < 100 := Int32.lt_iff_toInt_lt.mp q_13
        have hv_15 : vp_in (gi σ0 0 7) 100 := vp_in_iff.mpr ⟨by omega, by omega⟩
        refine ⟨hv_15, ?_⟩
        intro σ5 eσ5
        have mσ5 : XI (mV M) σ5 := by rw [eσ5]; exact XIs_n m0 (rfl)
        have fσ5 : FX (fun id => id = 50) (fun id k => (id = 0 ∧ k = 7)) σ0 σ5 := by rw [eσ5]; exact FX_si f0 (Or.inl (show 50 = 50 from rfl))
        have k_16 : (gi σ5 0 7).toInt = (gi σ0 0 7).toInt := by rw [eσ5]; exact congrArg Int32.toInt (gi_si_ne (Or.inl (by omega)))
        have k_17 : (gi σ5 1 1).toInt = (gi σ0 1 1).toInt := by rw [eσ5]; exact congrArg Int32.toInt (gi_si_ne (Or.inl (by omega)))
        intro σ6 eσ6
        have t_18 := XI_c1 mσ5 (id := 0) (k := 7) (rfl)
        have t_19 : ((gi σ5 0 7) + (1 : Int32)).toInt = (gi σ5 0 7).toInt + 1 := i_add (x := (gi σ5 0 7)) (y := (1 : Int32)) (by show (_ : Int) ≤ (gi σ5 0 7).toInt + 1; omega) (by show (gi σ5 0 7).toInt + 1 ≤ (_ : Int); omega)
        have mσ6 : XI (mV M) σ6 := by rw [eσ6]; exact XIs_b mσ5 (rfl) (by omega) (by omega)
        have fσ6 : FX (fun id => id = 50) (fun id k => (id = 0 ∧ k = 7)) σ0 σ6 := by rw [eσ6]; exact FX_si fσ5 (Or.inr (show (0 = 0 ∧ 7 = 7) from ⟨rfl, rfl⟩))
        have k_20 : (gi σ6 0 7).toInt = ((gi σ5 0 7) + (1 : Int32)).toInt := by rw [eσ6]; exact congrArg Int32.toInt gi_si_eq
        have k_21 : (gi σ6 1 1).toInt = (gi σ5 1 1).toInt := by rw [eσ6]; exact congrArg Int32.toInt (gi_si_ne (Or.inl (by omega)))
        exact h9ret (gi σ6 0 7) σ6 mσ6 fσ6
      · intro q_13
        have b_22 : ¬ (gi σ0 0 7).toInt < 100 := fun h9 => q_13 (Int32.lt_iff_toInt_lt.mpr h9)
        have z_23 : (-4 : Int32).toInt = -4 := rfl
        exact h9ret (-4 : Int32) σ0 m0 f0
    · intro q_11
      have b_24 : ¬ a1.toInt ≤ 127 := fun h9 => q_11 (Int32.le_iff_toInt_le.mpr h9)
      have z_25 : (-2 : Int32).toInt = -2 := rfl
      exact h9ret (-2 : Int32) σ0 m0 f0
set_option maxRecDepth 100000 in
set_option maxHeartbeats 4000000 in
theorem k_X11_whetsIn {l : Launch} {V : Vx} {a1 : Int32} {a2 : Int32} {σ0 : Sg} {Qk : Int32 → Sg → Prop} (m0 : XI V σ0) (l_a1 : 1 ≤ a1.toInt) (u_a1 : a1.toInt ≤ 61) (h9ret : ∀ (r : Int32) (σ' : Sg), XI V σ' → FX (fun id => False) (fun _ _ => False) σ0 σ' → (0 ≤ r.toInt) → (r.toInt ≤ 1) → Qk r σ') : K_X11_whetsIn l V a1 a2 σ0 Qk := by
  refine e_X11_whetsIn (fun M hl hV hN C => ?_)
  subst hl
  subst hV
  have f0 : FX (fun id => False) (fun _ _ => False) σ0 σ0 := FX_rf
  refine s_X11_whetsIn_0 C hN  ?_
  refine ⟨?_, ?_⟩
  · intro q_1
    have w_2 := Int32.toInt_lt a2
    have w_3 := Int32.le_toInt a2
    have b_4 : a2.toInt < 1 := Int32.lt_iff_toInt_lt.mp q_1
    have z_5 : (0 : Int32).toInt = 0 := rfl
    exact h9ret (0 : Int32) σ0 m0 f0 (by omega) (by omega)
  · intro q_1
    have w_6 := Int32.toInt_lt a2
    have w_7 := Int32.le_toInt a2
    have b_8 : ¬ a2.toInt < 1 := fun h9 => q_1 (Int32.lt_iff_toInt_lt.mpr h9)
    refine ⟨?_, ?_⟩
    · intro q_9
      have b_10 : (16 : Int) ≤ a2.toInt := Int32.le_iff_toInt_le.mp q_9
      have z_11 : (0 : Int32).toInt = 0 := rfl
      exact h9ret (0 : Int32) σ0 m0 f0 (by omega) (by omega)
    · intro q_9
      have b_12 : ¬ (16 : Int) ≤ a2.toInt := fun h9 => q_9 (Int32.le_iff_toInt_le.mpr h9)
      refine ⟨fun h9 => ?_, ?_⟩
      · have h9 : a2.toInt = 0 := congrArg Int32.toInt h9
        omega
      refine ⟨?_, ?_⟩
      · intro q_13
        try have t_14 : (a1 - ((a1 / a2) * a2)).toInt = a1.toInt - ((a1 / a2) * a2).toInt := i_sub (x := a1) (y := ((a1 / a2) * a2)) (by show (_ : Int) ≤ a1.toInt - ((a1 / a2) * a2).toInt; omega) (by show a1.toInt - ((a1 / a2) * a2).toInt ≤ (_ : Int); omega)
        have b_15 : ¬ (a1 - ((a1 / a2) * a2)).toInt = 0 := fun h9 => q_13 (Int32.toInt_inj.mp h9)
        have z_16 : (0 : Int32).toInt = 0 := rfl
        exact h9ret (0 : Int32) σ0 m0 f0 (by omega) (by omega)
      · intro q_13
        try have t_17 : (a1 - ((a1 / a2) * a2)).toInt = a1.toInt - ((a1 / a2) * a2).toInt := i_sub (x := a1) (y := ((a1 / a2) * a2)) (by show (_ : Int) ≤ a1.toInt - ((a1 / a2) * a2).toInt; omega) (by show a1.toInt - ((a1 / a2) * a2).toInt ≤ (_ : Int); omega)
        have b_18 : (a1 - ((a1 / a2) * a2)).toInt = 0 := congrArg Int32.toInt q_13
        have z_19 : (1 : Int32).toInt = 1 := rfl
        exact h9ret (1 : Int32) σ0 m0 f0 (by omega) (by omega)
set_option maxRecDepth 100000 in
set_option maxHeartbeats 4000000 in
theorem k_X11_trace {l : Launch} {V : Vx} {a1 : Int32} {σ0 : Sg} {Qk : Int32 → Sg → Prop} (m0 : XI V σ0) (h9ret : ∀ (r : Int32) (σ' : Sg), XI V σ' → FX (fun id => False) (fun _ _ => False) σ0 σ' → Qk r σ') : K_X11_trace l V a1 σ0 Qk := by
  refine e_X11_trace (fun M hl hV hN C => ?_)
  subst hl
  subst hV
  have n9 : (nl 64 : Int) = 20 := by decide +kernel
  have f0 : FX (fun id => False) (fun _ _ => False) σ0 σ0 := FX_rf
  refine s_X11_trace_0 C hN  ?_
  refine k_X5_has (Or.inr (Or.inr (Or.inr (Or.inr (Or.inr (Or.inr (Or.inr (Or.inr (Or.inr (rfl)))))))))) m0   (fun r2 σ1 mσ1 cσ1 plσ1 phσ1 (pσ1_0 : (r2.toInt = 1 ∧ 0 ≤ a1.toInt ∧ a1.toInt < (gi σ0 64 1).toInt ∧ a1.toInt < (nl 64 : Int)) ∨ r2.toInt = 0) => ?_)
  obtain rfl := FX_nil cσ1
  refine ⟨?_, ?_⟩
  · intro q_1
    have b_2 : r2.toInt = 0 := congrArg Int32.toInt q_1
    have z_3 : (-1 : Int32).toInt = -1 := rfl
    exact h9ret (-1 : Int32) σ0 m0 f0
  · intro q_1
    have b_4 : ¬ r2.toInt = 0 := fun h9 => q_1 (Int32.toInt_inj.mp h9)
    have w_5 := Int32.toInt_lt a1
    have w_6 := Int32.le_toInt a1
    have hv_7 : vp_in a1 20 := vp_in_iff.mpr ⟨by omega, by omega⟩
    refine ⟨hv_7, ?_⟩
    exact h9ret (gi σ0 65 a1.toNatClampNeg) σ0 m0 f0
set_option maxRecDepth 100000 in
set_option maxHeartbeats 4000000 in
theorem k_X11_count {l : Launch} {V : Vx} {a1 : Int32} {σ0 : Sg} {Qk : Int32 → Sg → Prop} (m0 : XI V σ0) (h9ret : ∀ (r : Int32) (σ' : Sg), XI V σ' → FX (fun id => False) (fun _ _ => False) σ0 σ' → Qk r σ') : K_X11_count l V a1 σ0 Qk := by
  refine e_X11_count (fun M hl hV hN C => ?_)
  subst hl
  subst hV
  have f0 : FX (fun id => False) (fun _ _ => False) σ0 σ0 := FX_rf
  have t_1 := XI_c1 m0 (id := 0) (k := 5) (rfl)
  have t_2 := XI_c1 m0 (id := 0) (k := 7) (rfl)
  have t_3 := XI_c1 m0 (id := 1) (k := 1) (lim_C0_1 (Or.inl rfl))
  have t_4 := XI_c1 m0 (id := 11) (k := 1) (lim_C10_1 (Or.inl rfl))
  have t_5 := XI_c1 m0 (id := 13) (k := 1) (lim_C12_1 (Or.inl rfl))
  have t_6 := XI_c1 m0 (lim_N (Or.inr (Or.inr (Or.inr (Or.inr (Or.inr (Or.inr (Or.inr (Or.inr (Or.inr (rfl)))))))))))
  have t_7 := nl_le (Or.inr (Or.inr (Or.inr (Or.inr (Or.inr (Or.inr (Or.inr (Or.inr (Or.inr (rfl))))))))))
  have t_8 := XI_c1 m0 (id := 9) (k := 1) (lim_C8_1 (Or.inl rfl))
  refine s_X11_count_0 C hN  ?_
  refine ⟨?_, ?_, ?_, ?_, ?_, ?_, ?_, ?_⟩
  · intro q_9
    have z_10 : (-2 : Int32).toInt = -2 := rfl
    exact h9ret (-2 : Int32) σ0 m0 f0
  · intro q_9
    exact h9ret (gi σ0 1 1) σ0 m0 f0
  · intro q_9
    exact h9ret (gi σ0 0 5) σ0 m0 f0
  · intro q_9
    exact h9ret ((gi σ0 9 1) / (3 : Int32)) σ0 m0 f0
  · intro q_9
    exact h9ret (gi σ0 11 1) σ0 m0 f0
  · intro q_9
    exact h9ret (gi σ0 13 1) σ0 m0 f0
  · intro q_9
    exact h9ret (gi σ0 0 7) σ0 m0 f0
  · intro q_9
    exact h9ret (gi σ0 64 1) σ0 m0 f0
set_option maxRecDepth 100000 in
set_option maxHeartbeats 4000000 in
theorem k_X11_isTape {l : Launch} {V : Vx} {a1 : Int32} {σ0 : Sg} {Qk : Int32 → Sg → Prop} (m0 : XI V σ0) (h9ret : ∀ (r : Int32) (σ' : Sg), XI V σ' → FX (fun id => False) (fun _ _ => False) σ0 σ' → (0 ≤ r.toInt) → (r.toInt ≤ 1) → ((r.toInt = 1 ∧ 0 ≤ a1.toInt ∧ a1.toInt ≤ 5) ∨ (r.toInt = 0 ∧ (a1.toInt < 0 ∨ 5 < a1.toInt))) → Qk r σ') : K_X11_isTape l V a1 σ0 Qk := by
  refine e_X11_isTape (fun M hl hV hN C => ?_)
  subst hl
  subst hV
  have f0 : FX (fun id => False) (fun _ _ => False) σ0 σ0 := FX_rf
  refine s_X11_isTape_0 C hN  ?_
  refine ⟨?_, ?_⟩
  · intro q_1
    have w_2 := Int32.toInt_lt a1
    have w_3 := Int32.le_toInt a1
    have b_4 : a1.toInt < 0 := Int32.lt_iff_toInt_lt.mp q_1
    have z_5 : (0 : Int32).toInt = 0 := rfl
    exact h9ret (0 : Int32) σ0 m0 f0 (by omega) (by omega) (by first | omega | assumption | rfl)
  · intro q_1
    have w_6 := Int32.toInt_lt a1
    have w_7 := Int32.le_toInt a1
    have b_8 : ¬ a1.toInt < 0 := fun h9 => q_1 (Int32.lt_iff_toInt_lt.mpr h9)
    refine ⟨?_, ?_⟩
    · intro q_9
      have b_10 : (6 : Int) ≤ a1.toInt := Int32.le_iff_toInt_le.mp q_9
      have z_11 : (0 : Int32).toInt = 0 := rfl
      exact h9ret (0 : Int32) σ0 m0 f0 (by omega) (by omega) (by first | omega | assumption | rfl)
    · intro q_9
      have b_12 : ¬ (6 : Int) ≤ a1.toInt := fun h9 => q_9 (Int32.le_iff_toInt_le.mpr h9)
      have z_13 : (1 : Int32).toInt = 1 := rfl
      exact h9ret (1 : Int32) σ0 m0 f0 (by omega) (by omega) (by first | omega | assumption | rfl)
set_option maxRecDepth 100000 in
set_option maxHeartbeats 4000000 in
theorem k_X11_told {l : Launch} {V : Vx} {a1 : Int32} {σ0 : Sg} {Qk : Int32 → Sg → Prop} (m0 : XI V σ0) (h9ret : ∀ (r : Int32) (σ' : Sg), XI V σ' → FX (fun id => False) (fun _ _ => False) σ0 σ' → Qk r σ') : K_X11_told l V a1 σ0 Qk := by
  refine e_X11_told (fun M hl hV hN C => ?_)
  subst hl
  subst hV
  have f0 : FX (fun id => False) (fun _ _ => False) σ0 σ0 := FX_rf
  have t_1 := XI_c1 m0 (id := 1) (k := 1) (lim_C0_1 (Or.inl rfl))
  have t_2 := XI_c1 m0 (id := 1) (k := 9) (lim_C0_9 (Or.inl rfl))
  refine s_X11_told_0 C hN  ?_
  refine ⟨?_, ?_, ?_, ?_, ?_⟩
  · intro q_3
    refine ⟨?_, ?_⟩
    · intro q_4
      have w_5 := Int32.toInt_lt a1
      have w_6 := Int32.le_toInt a1
      have b_7 : a1.toInt < 10 := Int32.lt_iff_toInt_lt.mp q_4
      have z_8 : (-1 : Int32).toInt = -1 := rfl
      exact h9ret (-1 : Int32) σ0 m0 f0
    · intro q_4
      have w_9 := Int32.toInt_lt a1
      have w_10 := Int32.le_toInt a1
      have b_11 : ¬ a1.toInt < 10 := fun h9 => q_4 (Int32.lt_iff_toInt_lt.mpr h9)
      refine ⟨?_, ?_⟩
      · intro q_12
        try have t_13 : (a1 - (10 : Int32)).toInt = a1.toInt - 10 := i_sub (x := a1) (y := (10 : Int32)) (by show (_ : Int) ≤ a1.toInt - 10; omega) (by show a1.toInt - 10 ≤ (_ : Int); omega)
        have b_14 : (gi σ0 1 1).toInt ≤ (a1 - (10 : Int32)).toInt := Int32.le_iff_toInt_le.mp q_12
        have z_15 : (-1 : Int32).toInt = -1 := rfl
        exact h9ret (-1 : Int32) σ0 m0 f0
      · intro q_12
        try have t_16 : (a1 - (10 : Int32)).toInt = a1.toInt - 10 := i_sub (x := a1) (y := (10 : Int32)) (by show (_ : Int) ≤ a1.toInt - 10; omega) (by show a1.toInt - 10 ≤ (_ : Int); omega)
        have b_17 : ¬ (gi σ0 1 1).toInt ≤ (a1 - (10 : Int32)).toInt := fun h9 => q_12 (Int32.le_iff_toInt_le.mpr h9)
        have hv_18 : vp_in (a1 - (10 : Int32)) 6 := vp_in_iff.mpr ⟨by omega, by omega⟩
        refine ⟨hv_18, ?_⟩
        exact h9ret (gi σ0 3 (a1 - (10 : Int32)).toNatClampNeg) σ0 m0 f0
  · intro q_3
    exact h9ret (gi σ0 1 9) σ0 m0 f0
  · intro q_3
    obtain ⟨f5, ef5, hf5, lf5⟩ := (m0.2.1 _ (Or.inl rfl)).1
    have gf5 : hid _ := kdF_ge hf5
    refine ⟨f5, ef5, hf5, lf5, ?_⟩
    exact h9ret (gi σ0 f5 0) σ0 m0 f0
  · intro q_3
    obtain ⟨f6, ef6, hf6, lf6⟩ := (m0.2.1 _ (Or.inl rfl)).1
    have gf6 : hid _ := kdF_ge hf6
    refine ⟨f6, ef6, hf6, lf6, ?_⟩
    exact h9ret (gi σ0 f6 1) σ0 m0 f0
  · intro q_3
    obtain ⟨f7, ef7, hf7, lf7⟩ := (m0.2.1 _ (Or.inl rfl)).1
    have gf7 : hid _ := kdF_ge hf7
    refine ⟨f7, ef7, hf7, lf7, ?_⟩
    exact h9ret (gi σ0 f7 2) σ0 m0 f0
set_option maxRecDepth 100000 in
set_option maxHeartbeats 4000000 in
theorem k_X11_of {l : Launch} {V : Vx} {a1 : Int32} {a2 : Int32} {σ0 : Sg} {Qk : Int32 → Sg → Prop} (m0 : XI V σ0) (nn_1 : NN σ0 1) (pre0 : (gi σ0 1 3).toInt = (gi σ0 1 1).toInt) (h9ret : ∀ (r : Int32) (σ' : Sg), XI V σ' → FX (fun id => id = 16) (fun _ _ => False) σ0 σ' → (NN σ' 1) → Qk r σ') : K_X11_of l V a1 a2 σ0 Qk := by
  refine e_X11_of (fun M hl hV hN C => ?_)
  subst hl
  subst hV
  have f0 : FX (fun id => id = 16) (fun _ _ => False) σ0 σ0 := FX_rf
  have t_1 := XI_c1 m0 (id := 1) (k := 1) (lim_C0_1 (Or.inl rfl))
  have t_2 := XI_c1 m0 (id := 1) (k := 3) (lim_C0_3 (Or.inl rfl))
  refine s_X11_of_0 C hN  ?_
  refine k_X11_isMower  m0   (fun r2 σ1 mσ1 cσ1 plσ1 phσ1 (pσ1_0 : (r2.toInt = 1 ∧ 0 ≤ a1.toInt ∧ a1.toInt < (gi σ0 1 1).toInt) ∨ (r2.toInt = 0 ∧ (a1.toInt < 0 ∨ (gi σ0 1 1).toInt ≤ a1.toInt))) => ?_)
  obtain rfl := FX_nil cσ1
  refine ⟨?_, ?_⟩
  · intro q_3
    have b_4 : ¬ r2.toInt = 0 := fun h9 => q_3 (Int32.toInt_inj.mp h9)
    refine ⟨?_, ?_, ?_, ?_, ?_, ?_, ?_, ?_, ?_, ?_⟩
    · intro q_5
      have z_6 : (-1 : Int32).toInt = -1 := rfl
      exact h9ret (-1 : Int32) σ0 m0 f0 nn_1
    · intro q_5
      have w_7 := Int32.toInt_lt a1
      have w_8 := Int32.le_toInt a1
      have hv_9 : vp_in a1 6 := vp_in_iff.mpr ⟨by omega, by omega⟩
      have ec_10 := cl_eq (x := a1) (by omega)
      obtain ⟨μ6, ci6, eμ6, sμ6, hμ6, lμ6⟩ := XI_mow m0 (Or.inl rfl) (nn_1.2 a1.toNatClampNeg (by omega))
      have gμ6 := kdM_ge sμ6 hμ6
      refine ⟨hv_9, μ6, ci6, eμ6, sμ6, hμ6, lμ6, ?_⟩
      exact h9ret (gi σ0 μ6 0) σ0 m0 f0 nn_1
    · intro q_5
      have w_11 := Int32.toInt_lt a1
      have w_12 := Int32.le_toInt a1
      have hv_13 : vp_in a1 6 := vp_in_iff.mpr ⟨by omega, by omega⟩
      have ec_14 := cl_eq (x := a1) (by omega)
      obtain ⟨μ8, ci8, eμ8, sμ8, hμ8, lμ8⟩ := XI_mow m0 (Or.inl rfl) (nn_1.2 a1.toNatClampNeg (by omega))
      have gμ8 := kdM_ge sμ8 hμ8
      refine ⟨hv_13, μ8, ci8, eμ8, sμ8, hμ8, lμ8, ?_⟩
      exact h9ret (gi σ0 μ8 2) σ0 m0 f0 nn_1
    · intro q_5
      have w_15 := Int32.toInt_lt a1
      have w_16 := Int32.le_toInt a1
      have hv_17 : vp_in a1 6 := vp_in_iff.mpr ⟨by omega, by omega⟩
      refine ⟨hv_17, ?_⟩
      exact h9ret (gi σ0 4 a1.toNatClampNeg) σ0 m0 f0 nn_1
    · intro q_5
      have w_18 := Int32.toInt_lt a1
      have w_19 := Int32.le_toInt a1
      have hv_20 : vp_in a1 6 := vp_in_iff.mpr ⟨by omega, by omega⟩
      refine ⟨hv_20, ?_⟩
      exact h9ret (gi σ0 5 a1.toNatClampNeg) σ0 m0 f0 nn_1
    · intro q_5
      have w_21 := Int32.toInt_lt a1
      have w_22 := Int32.le_toInt a1
      have hv_23 : vp_in a1 6 := vp_in_iff.mpr ⟨by omega, by omega⟩
      refine ⟨hv_23, ?_⟩
      exact h9ret (gi σ0 6 a1.toNatClampNeg) σ0 m0 f0 nn_1
    · intro q_5
      have w_24 := Int32.toInt_lt a1
      have w_25 := Int32.le_toInt a1
      have hv_26 : vp_in a1 6 := vp_in_iff.mpr ⟨by omega, by omega⟩
      refine ⟨hv_26, ?_⟩
      exact h9ret (gi σ0 7 a1.toNatClampNeg) σ0 m0 f0 nn_1
    · intro q_5
      refine k_X1_placeOf (Or.inl rfl) m0   (fun r14 σ13 mσ13 cσ13 plσ13 phσ13 (pσ13_0 : r14.toInt = 0 ∨ r14.toInt < (gi σ0 1 3).toInt) => ?_)
      obtain rfl := FX_nil cσ13
      exact h9ret r14 σ0 m0 f0 nn_1
    · intro q_5
      refine k_X1_placeOf (Or.inl rfl) m0   (fun r16 σ15 mσ15 cσ15 plσ15 phσ15 (pσ15_0 : r16.toInt = 0 ∨ r16.toInt < (gi σ0 1 3).toInt) => ?_)
      obtain rfl := FX_nil cσ15
      refine k_X1_paceAt (Or.inl rfl) m0 nn_1 (by omega) (by omega) (by first | omega | assumption | rfl) (fun r18 σ17 mσ17 cσ17 nσ17_1 => ?_)
      have fσ17 : FX (fun id => id = 16) (fun _ _ => False) σ0 σ17 := FX_tr f0 cσ17 (fun x (h9 : x = 16) => (show x = 16 from h9)) (fun _ _ h9 => h9.elim)
      have k_27 : (gi σ17 1 1).toInt = (gi σ0 1 1).toInt := congrArg Int32.toInt (FX_i cσ17 (show ¬ (1 = 16) from by omega) id)
      have k_28 : (gi σ17 1 3).toInt = (gi σ0 1 3).toInt := congrArg Int32.toInt (FX_i cσ17 (show ¬ (1 = 16) from by omega) id)
      exact h9ret r18 σ17 mσ17 fσ17 nσ17_1
    · intro q_5
      refine k_X1_placeOf (Or.inl rfl) m0   (fun r20 σ19 mσ19 cσ19 plσ19 phσ19 (pσ19_0 : r20.toInt = 0 ∨ r20.toInt < (gi σ0 1 3).toInt) => ?_)
      obtain rfl := FX_nil cσ19
      refine k_X1_strideAt (Or.inl rfl) m0 nn_1 (by omega) (by omega) (by first | omega | assumption | rfl) (fun r22 σ21 mσ21 cσ21 nσ21_1 => ?_)
      have fσ21 : FX (fun id => id = 16) (fun _ _ => False) σ0 σ21 := FX_tr f0 cσ21 (fun x (h9 : x = 16) => (show x = 16 from h9)) (fun _ _ h9 => h9.elim)
      have k_29 : (gi σ21 1 1).toInt = (gi σ0 1 1).toInt := congrArg Int32.toInt (FX_i cσ21 (show ¬ (1 = 16) from by omega) id)
      have k_30 : (gi σ21 1 3).toInt = (gi σ0 1 3).toInt := congrArg Int32.toInt (FX_i cσ21 (show ¬ (1 = 16) from by omega) id)
      exact h9ret r22 σ21 mσ21 fσ21 nσ21_1
  · intro q_3
    have b_31 : r2.toInt = 0 := congrArg Int32.toInt q_3
    have z_32 : (-1 : Int32).toInt = -1 := rfl
    exact h9ret (-1 : Int32) σ0 m0 f0 nn_1
set_option maxRecDepth 100000 in
set_option maxHeartbeats 4000000 in
theorem k_X11_row {l : Launch} {V : Vx} {a1 : Int32} {a2 : Int32} {a3 : Int32} {σ0 : Sg} {Qk : Int32 → Sg → Prop} (m0 : XI V σ0) (nn_1 : NN σ0 1) (h9ret : ∀ (r : Int32) (σ' : Sg), XI V σ' → FX (fun id => id = 8) (fun _ _ => False) σ0 σ' → (NN σ' 1) → Qk r σ') : K_X11_row l V a1 a2 a3 σ0 Qk := by
  refine e_X11_row (fun M hl hV hN C => ?_)
  subst hl
  subst hV
  have f0 : FX (fun id => id = 8) (fun _ _ => False) σ0 σ0 := FX_rf
  have t_1 := XI_c1 m0 (id := 1) (k := 1) (lim_C0_1 (Or.inl rfl))
  refine s_X11_row_0 C hN  ?_
  refine k_X11_isMower  m0   (fun r2 σ1 mσ1 cσ1 plσ1 phσ1 (pσ1_0 : (r2.toInt = 1 ∧ 0 ≤ a1.toInt ∧ a1.toInt < (gi σ0 1 1).toInt) ∨ (r2.toInt = 0 ∧ (a1.toInt < 0 ∨ (gi σ0 1 1).toInt ≤ a1.toInt))) => ?_)
  obtain rfl := FX_nil cσ1
  refine ⟨?_, ?_⟩
  · intro q_2
    have b_3 : r2.toInt = 0 := congrArg Int32.toInt q_2
    have z_4 : (-1 : Int32).toInt = -1 := rfl
    exact h9ret (-1 : Int32) σ0 m0 f0 nn_1
  · intro q_2
    have b_5 : ¬ r2.toInt = 0 := fun h9 => q_2 (Int32.toInt_inj.mp h9)
    refine ⟨?_, ?_⟩
    · intro q_6
      have w_7 := Int32.toInt_lt a2
      have w_8 := Int32.le_toInt a2
      have b_9 : a2.toInt < 0 := Int32.lt_iff_toInt_lt.mp q_6
      have z_10 : (-1 : Int32).toInt = -1 := rfl
      exact h9ret (-1 : Int32) σ0 m0 f0 nn_1
    · intro q_6
      have w_11 := Int32.toInt_lt a2
      have w_12 := Int32.le_toInt a2
      have b_13 : ¬ a2.toInt < 0 := fun h9 => q_6 (Int32.lt_iff_toInt_lt.mpr h9)
      refine ⟨?_, ?_⟩
      · intro q_14
        have b_15 : a2.toInt ≤ 3 := Int32.le_iff_toInt_le.mp q_14
        refine ⟨?_, ?_⟩
        · intro q_16
          have w_17 := Int32.toInt_lt a3
          have w_18 := Int32.le_toInt a3
          have b_19 : a3.toInt < 0 := Int32.lt_iff_toInt_lt.mp q_16
          have z_20 : (-2 : Int32).toInt = -2 := rfl
          exact h9ret (-2 : Int32) σ0 m0 f0 nn_1
        · intro q_16
          have w_21 := Int32.toInt_lt a3
          have w_22 := Int32.le_toInt a3
          have b_23 : ¬ a3.toInt < 0 := fun h9 => q_16 (Int32.lt_iff_toInt_lt.mpr h9)
          refine ⟨?_, ?_⟩
          · intro q_24
            have b_25 : a3.toInt ≤ 9 := Int32.le_iff_toInt_le.mp q_24
            have w_26 := Int32.toInt_lt a1
            have w_27 := Int32.le_toInt a1
            have hv_28 : vp_in a1 6 := vp_in_iff.mpr ⟨by omega, by omega⟩
            have ec_29 := cl_eq (x := a1) (by omega)
            obtain ⟨μ9, ci9, eμ9, sμ9, hμ9, lμ9⟩ := XI_mow m0 (Or.inl rfl) (nn_1.2 a1.toNatClampNeg (by omega))
            have gμ9 := kdM_ge sμ9 hμ9
            refine ⟨hv_28, μ9, ci9, eμ9, sμ9, hμ9, lμ9, ?_⟩
            intro v10 ev10
            have t_30 : v10.toInt = 0 ∨ v10.toInt = 1 := by rw [ev10]; split <;> decide
            refine ⟨?_, ?_⟩
            · intro q_31
              have b_32 : ¬ v10.toInt = 0 := fun h9 => q_31 (Int32.toInt_inj.mp h9)
              try have t_33 : ((4 : Int32) * a1).toInt = 4 * a1.toInt := i_mull rfl (by omega) (by omega)
              try have t_34 : (((4 : Int32) * a1) + a2).toInt = ((4 : Int32) * a1).toInt + a2.toInt := i_add (x := ((4 : Int32) * a1)) (y := a2) (by show (_ : Int) ≤ ((4 : Int32) * a1).toInt + a2.toInt; omega) (by show ((4 : Int32) * a1).toInt + a2.toInt ≤ (_ : Int); omega)
              have hv_35 : vp_in (((4 : Int32) * a1) + a2) 24 := vp_in_iff.mpr ⟨by omega, by omega⟩
              refine ⟨hv_35, ?_⟩
              intro v13 ev13
              refine ⟨hv_35, ?_⟩
              intro σ15 eσ15
              have mσ15 : XI (mV M) σ15 := by rw [eσ15]; exact XIs_n m0 (lim_C7 (Or.inl rfl) _)
              have fσ15 : FX (fun id => id = 8) (fun _ _ => False) σ0 σ15 := by rw [eσ15]; exact FX_si f0 (Or.inl (show 8 = 8 from rfl))
              have k_36 : (gi σ15 1 1).toInt = (gi σ0 1 1).toInt := by rw [eσ15]; exact congrArg Int32.toInt (gi_si_ne (Or.inl (by omega)))
              have nσ15_1 : NN σ15 1 := by rw [eσ15]; exact NN_si nn_1 (by omega) (fun h9 => absurd h9 (by omega))
              exact h9ret v13 σ15 mσ15 fσ15 nσ15_1
            · intro q_31
              have b_37 : v10.toInt = 0 := congrArg Int32.toInt q_31
              have z_38 : (-3 : Int32).toInt = -3 := rfl
              exact h9ret (-3 : Int32) σ0 m0 f0 nn_1
          · intro q_24
            have b_39 : ¬ a3.toInt ≤ 9 := fun h9 => q_24 (Int32.le_iff_toInt_le.mpr h9)
            have z_40 : (-2 : Int32).toInt = -2 := rfl
            exact h9ret (-2 : Int32) σ0 m0 f0 nn_1
      · intro q_14
        have b_41 : ¬ a2.toInt ≤ 3 := fun h9 => q_14 (Int32.le_iff_toInt_le.mpr h9)
        have z_42 : (-1 : Int32).toInt = -1 := rfl
        exact h9ret (-1 : Int32) σ0 m0 f0 nn_1
set_option maxRecDepth 100000 in
set_option maxHeartbeats 4000000 in
theorem k_X11_place {l : Launch} {V : Vx} {a1 : Int32} {a2 : Int32} {σ0 : Sg} {Qk : Int32 → Sg → Prop} (m0 : XI V σ0) (nn_1 : NN σ0 1) (pre0 : (gi σ0 1 3).toInt = (gi σ0 1 1).toInt) (h9ret : ∀ (r : Int32) (σ' : Sg), XI V σ' → FX (fun id => id = 3) (fun _ _ => False) σ0 σ' → (NN σ' 1) → Qk r σ') : K_X11_place l V a1 a2 σ0 Qk := by
  refine e_X11_place (fun M hl hV hN C => ?_)
  subst hl
  subst hV
  have f0 : FX (fun id => id = 3) (fun _ _ => False) σ0 σ0 := FX_rf
  have t_1 := XI_c1 m0 (id := 1) (k := 1) (lim_C0_1 (Or.inl rfl))
  have t_2 := XI_c1 m0 (id := 1) (k := 3) (lim_C0_3 (Or.inl rfl))
  refine s_X11_place_0 C hN  ?_
  refine k_X11_isMower  m0   (fun r2 σ1 mσ1 cσ1 plσ1 phσ1 (pσ1_0 : (r2.toInt = 1 ∧ 0 ≤ a1.toInt ∧ a1.toInt < (gi σ0 1 1).toInt) ∨ (r2.toInt = 0 ∧ (a1.toInt < 0 ∨ (gi σ0 1 1).toInt ≤ a1.toInt))) => ?_)
  obtain rfl := FX_nil cσ1
  refine ⟨?_, ?_⟩
  · intro q_3
    have b_4 : r2.toInt = 0 := congrArg Int32.toInt q_3
    have z_5 : (-1 : Int32).toInt = -1 := rfl
    exact h9ret (-1 : Int32) σ0 m0 f0 nn_1
  · intro q_3
    have b_6 : ¬ r2.toInt = 0 := fun h9 => q_3 (Int32.toInt_inj.mp h9)
    refine ⟨?_, ?_⟩
    · intro q_7
      have w_8 := Int32.toInt_lt a2
      have w_9 := Int32.le_toInt a2
      have b_10 : a2.toInt < 0 := Int32.lt_iff_toInt_lt.mp q_7
      have z_11 : (-1 : Int32).toInt = -1 := rfl
      exact h9ret (-1 : Int32) σ0 m0 f0 nn_1
    · intro q_7
      have w_12 := Int32.toInt_lt a2
      have w_13 := Int32.le_toInt a2
      have b_14 : ¬ a2.toInt < 0 := fun h9 => q_7 (Int32.lt_iff_toInt_lt.mpr h9)
      refine ⟨?_, ?_⟩
      · intro q_15
        have b_16 : a2.toInt < (gi σ0 1 1).toInt := Int32.lt_iff_toInt_lt.mp q_15
        refine k_X1_moves (Or.inl rfl) m0 nn_1 (by omega) (by omega) (by omega) (by omega) (by first | omega | assumption | rfl) (by first | omega | assumption | rfl) (by first | omega | assumption | rfl) (fun r7 σ6 mσ6 cσ6 nσ6_1 plσ6 phσ6 => ?_)
        have fσ6 : FX (fun id => id = 3) (fun _ _ => False) σ0 σ6 := FX_tr f0 cσ6 (fun x (h9 : x = 3) => (show x = 3 from h9)) (fun _ _ h9 => h9.elim)
        have k_17 : (gi σ6 1 1).toInt = (gi σ0 1 1).toInt := congrArg Int32.toInt (FX_i cσ6 (show ¬ (1 = 3) from by omega) id)
        have k_18 : (gi σ6 1 3).toInt = (gi σ0 1 3).toInt := congrArg Int32.toInt (FX_i cσ6 (show ¬ (1 = 3) from by omega) id)
        exact h9ret r7 σ6 mσ6 fσ6 nσ6_1
      · intro q_15
        have b_19 : ¬ a2.toInt < (gi σ0 1 1).toInt := fun h9 => q_15 (Int32.lt_iff_toInt_lt.mpr h9)
        have z_20 : (-1 : Int32).toInt = -1 := rfl
        exact h9ret (-1 : Int32) σ0 m0 f0 nn_1
set_option maxRecDepth 100000 in
set_option maxHeartbeats 4000000 in
theorem k_X11_set {l : Launch} {V : Vx} {a1 : Int32} {a2 : Int32} {a3 : Int32} {σ0 : Sg} {Qk : Int32 → Sg → Prop} (m0 : XI V σ0) (h9ret : ∀ (r : Int32) (σ' : Sg), XI V σ' → FX (fun id => id = 4 ∨ id = 5 ∨ id = 6 ∨ id = 7) (fun _ _ => False) σ0 σ' → Qk r σ') : K_X11_set l V a1 a2 a3 σ0 Qk := by
  refine e_X11_set (fun M hl hV hN C => ?_)
  subst hl
  subst hV
  have T : ∀ n : Nat, (∀ (x1 : Int32) (x2 : Int32) (x3 : Int32) (z0 : Int32) (σ : Sg), XI (mV M) σ → FX (fun id => id = 4 ∨ id = 5 ∨ id = 6 ∨ id = 7) (fun _ _ => False) σ0 σ → (0 ≤ x1.toInt) → (x1.toInt ≤ 5) → 1 < n → PS M 41 [(0, .ref 0), (1, .int x1), (2, .int x2), (3, .int x3)] [.int z0] σ (0, 0)) := by
    intro n
    induction n with
    | zero => exact fun _ _ _ _ _ _ _ _ _ h8 => absurd h8 (Nat.not_lt_zero _)
    | succ n ih =>
      have ih41 := ih
      · intro x1 x2 x3 z0 σ mσ fσ lx1 ux1 hmu
        have k_1 : (gi σ 1 1).toInt = (gi σ0 1 1).toInt := congrArg Int32.toInt (FX_i fσ (show ¬ (1 = 4 ∨ 1 = 5 ∨ 1 = 6 ∨ 1 = 7) from by omega) id)
        have t_2 := XI_c1 mσ (id := 1) (k := 1) (lim_C0_1 (Or.inl rfl))
        refine s_X11_set_41 C hN  ?_
        refine ⟨?_, ?_⟩
        · intro q_3
          have w_4 := Int32.toInt_lt x3
          have w_5 := Int32.le_toInt x3
          have b_6 : x3.toInt < 0 := Int32.lt_iff_toInt_lt.mp q_3
          have z_7 : (-2 : Int32).toInt = -2 := rfl
          exact h9ret (-2 : Int32) σ mσ fσ
        · intro q_3
          have w_8 := Int32.toInt_lt x3
          have w_9 := Int32.le_toInt x3
          have b_10 : ¬ x3.toInt < 0 := fun h9 => q_3 (Int32.lt_iff_toInt_lt.mpr h9)
          refine ⟨?_, ?_⟩
          · intro q_11
            have w_12 := Int32.toInt_lt z0
            have w_13 := Int32.le_toInt z0
            have b_14 : x3.toInt ≤ z0.toInt := Int32.le_iff_toInt_le.mp q_11
            refine k_X1_numbersOf (Or.inl rfl) mσ (fun a4 σ3 m9 c9 p9 => ?_)
            obtain rfl := FX_nil c9
            have hk9 : kd a4 = (0, 6) ∧ a4 ∈ ids (mV M) ∧ ∀ k, lim a4 k = none := by rcases p9 with rfl | rfl | rfl | rfl <;> exact ⟨by decide +kernel, fxl (by decide +kernel), fun _ => rfl⟩
            refine ⟨6, hk9.1, hk9.2.1, ?_⟩
            have hv_15 : vp_in x1 6 := vp_in_iff.mpr ⟨by omega, by omega⟩
            refine ⟨hv_15, ?_⟩
            intro v6 ev6
            refine ⟨hv_15, ?_⟩
            intro σ8 eσ8
            have mσ8 : XI (mV M) σ8 := by rw [eσ8]; exact XIs_n mσ (hk9.2.2 _)
            have fσ8 : FX (fun id => id = 4 ∨ id = 5 ∨ id = 6 ∨ id = 7) (fun _ _ => False) σ0 σ8 := by rw [eσ8]; exact FX_si fσ (Or.inl (show a4 = 4 ∨ a4 = 5 ∨ a4 = 6 ∨ a4 = 7 from by omega))
            have k_16 : (gi σ8 1 1).toInt = (gi σ 1 1).toInt := by rw [eσ8]; exact congrArg Int32.toInt (gi_si_ne (Or.inl (by omega)))
            exact h9ret v6 σ8 mσ8 fσ8
          · intro q_11
            have w_17 := Int32.toInt_lt z0
            have w_18 := Int32.le_toInt z0
            have b_19 : ¬ x3.toInt ≤ z0.toInt := fun h9 => q_11 (Int32.le_iff_toInt_le.mpr h9)
            have z_20 : (-2 : Int32).toInt = -2 := rfl
            exact h9ret (-2 : Int32) σ mσ fσ
  have U41 := T 9
  have f0 : FX (fun id => id = 4 ∨ id = 5 ∨ id = 6 ∨ id = 7) (fun _ _ => False) σ0 σ0 := FX_rf
  have t_21 := XI_c1 m0 (id := 1) (k := 1) (lim_C0_1 (Or.inl rfl))
  refine s_X11_set_0 C hN  ?_
  refine k_X11_isMower  m0   (fun r2 σ1 mσ1 cσ1 plσ1 phσ1 (pσ1_0 : (r2.toInt = 1 ∧ 0 ≤ a1.toInt ∧ a1.toInt < (gi σ0 1 1).toInt) ∨ (r2.toInt = 0 ∧ (a1.toInt < 0 ∨ (gi σ0 1 1).toInt ≤ a1.toInt))) => ?_)
  obtain rfl := FX_nil cσ1
  refine ⟨?_, ?_⟩
  · intro q_22
    have b_23 : r2.toInt = 0 := congrArg Int32.toInt q_22
    have z_24 : (-1 : Int32).toInt = -1 := rfl
    exact h9ret (-1 : Int32) σ0 m0 f0
  · intro q_22
    have b_25 : ¬ r2.toInt = 0 := fun h9 => q_22 (Int32.toInt_inj.mp h9)
    refine ⟨?_, ?_⟩
    · intro q_26
      have w_27 := Int32.toInt_lt a2
      have w_28 := Int32.le_toInt a2
      have b_29 : a2.toInt < 0 := Int32.lt_iff_toInt_lt.mp q_26
      have z_30 : (-1 : Int32).toInt = -1 := rfl
      exact h9ret (-1 : Int32) σ0 m0 f0
    · intro q_26
      have w_31 := Int32.toInt_lt a2
      have w_32 := Int32.le_toInt a2
      have b_33 : ¬ a2.toInt < 0 := fun h9 => q_26 (Int32.lt_iff_toInt_lt.mpr h9)
      refine ⟨?_, ?_⟩
      · intro q_34
        have b_35 : a2.toInt ≤ 3 := Int32.le_iff_toInt_le.mp q_34
        refine ⟨?_, ?_⟩
        · intro q_36
          have b_37 : ¬ a2.toInt = 0 := fun h9 => q_36 (Int32.toInt_inj.mp h9)
          refine ⟨?_, ?_⟩
          · intro q_38
            have b_39 : ¬ a2.toInt = 1 := fun h9 => q_38 (Int32.toInt_inj.mp h9)
            have w_40 := Int32.toInt_lt a1
            have w_41 := Int32.le_toInt a1
            have w_42 := Int32.toInt_lt a3
            have w_43 := Int32.le_toInt a3
            have z_44 : (99 : Int32).toInt = 99 := rfl
            exact U41 a1 a2 a3 (99 : Int32) σ0 m0 f0 (by omega) (by omega) (by omega)
          · intro q_38
            have b_45 : a2.toInt = 1 := congrArg Int32.toInt q_38
            have w_46 := Int32.toInt_lt a1
            have w_47 := Int32.le_toInt a1
            have w_48 := Int32.toInt_lt a3
            have w_49 := Int32.le_toInt a3
            have z_50 : (10 : Int32).toInt = 10 := rfl
            exact U41 a1 a2 a3 (10 : Int32) σ0 m0 f0 (by omega) (by omega) (by omega)
        · intro q_36
          have b_51 : a2.toInt = 0 := congrArg Int32.toInt q_36
          have w_52 := Int32.toInt_lt a1
          have w_53 := Int32.le_toInt a1
          have w_54 := Int32.toInt_lt a3
          have w_55 := Int32.le_toInt a3
          have z_56 : (9999 : Int32).toInt = 9999 := rfl
          exact U41 a1 a2 a3 (9999 : Int32) σ0 m0 f0 (by omega) (by omega) (by omega)
      · intro q_34
        have b_57 : ¬ a2.toInt ≤ 3 := fun h9 => q_34 (Int32.le_iff_toInt_le.mpr h9)
        have z_58 : (-1 : Int32).toInt = -1 := rfl
        exact h9ret (-1 : Int32) σ0 m0 f0
set_option maxRecDepth 100000 in
set_option maxHeartbeats 4000000 in
theorem k_X11_minute {l : Launch} {V : Vx} {σ0 : Sg} {Qk : Int32 → Sg → Prop} (m0 : XI V σ0) (nn_1 : NN σ0 1) (pre0 : (gi σ0 1 9).toInt ≤ 9999) (h9ret : ∀ (r : Int32) (σ' : Sg), XI V σ' → FX (fun id => id = 15 ∨ id = 16 ∨ id = 4 ∨ id = 5 ∨ id = 6 ∨ id = 7) (fun id k => (id = 1 ∧ k = 9)) σ0 σ' → (NN σ' 1) → ((gi σ' 1 9).toInt ≤ 9999) → Qk r σ') : K_X11_minute l V σ0 Qk := by
  refine e_X11_minute (fun M hl hV hN C => ?_)
  subst hl
  subst hV
  have f0 : FX (fun id => id = 15 ∨ id = 16 ∨ id = 4 ∨ id = 5 ∨ id = 6 ∨ id = 7) (fun id k => (id = 1 ∧ k = 9)) σ0 σ0 := FX_rf
  have t_1 := XI_c1 m0 (id := 1) (k := 1) (lim_C0_1 (Or.inl rfl))
  have t_2 := XI_c1 m0 (id := 1) (k := 9) (lim_C0_9 (Or.inl rfl))
  refine s_X11_minute_0 C hN  ?_
  refine ⟨?_, ?_⟩
  · intro q_3
    have b_4 : (gi σ0 1 9).toInt < 9999 := Int32.lt_iff_toInt_lt.mp q_3
    refine k_X1_goesMinute (Or.inl rfl) m0 nn_1 (by first | omega | assumption | rfl) (fun r3 σ2 mσ2 cσ2 nσ2_1 (pσ2_0 : (gi σ2 1 9).toInt = (gi σ0 1 9).toInt + 1) => ?_)
    have fσ2 : FX (fun id => id = 15 ∨ id = 16 ∨ id = 4 ∨ id = 5 ∨ id = 6 ∨ id = 7) (fun id k => (id = 1 ∧ k = 9)) σ0 σ2 := FX_tr f0 cσ2 (fun x (h9 : x = 15 ∨ x = 16 ∨ x = 4 ∨ x = 5 ∨ x = 6 ∨ x = 7) => h9.elim (fun e9 => (show x = 15 ∨ x = 16 ∨ x = 4 ∨ x = 5 ∨ x = 6 ∨ x = 7 from Or.inl (e9))) (fun h9 => h9.elim (fun e9 => (show x = 15 ∨ x = 16 ∨ x = 4 ∨ x = 5 ∨ x = 6 ∨ x = 7 from Or.inr (Or.inl (e9)))) (fun h9 => h9.elim (fun e9 => (show x = 15 ∨ x = 16 ∨ x = 4 ∨ x = 5 ∨ x = 6 ∨ x = 7 from Or.inr (Or.inr (Or.inl (e9))))) (fun h9 => h9.elim (fun e9 => (show x = 15 ∨ x = 16 ∨ x = 4 ∨ x = 5 ∨ x = 6 ∨ x = 7 from Or.inr (Or.inr (Or.inr (Or.inl (e9)))))) (fun h9 => h9.elim (fun e9 => (show x = 15 ∨ x = 16 ∨ x = 4 ∨ x = 5 ∨ x = 6 ∨ x = 7 from Or.inr (Or.inr (Or.inr (Or.inr (Or.inl (e9))))))) (fun h9 => (show x = 15 ∨ x = 16 ∨ x = 4 ∨ x = 5 ∨ x = 6 ∨ x = 7 from Or.inr (Or.inr (Or.inr (Or.inr (Or.inr (h9)))))))))))) (fun x k (h9 : (x = 1 ∧ k = 9)) => (show (x = 15 ∨ x = 16 ∨ x = 4 ∨ x = 5 ∨ x = 6 ∨ x = 7) ∨ ((x = 1 ∧ k = 9)) from Or.inr (show (x = 1 ∧ k = 9) from h9)))
    have k_5 : (gi σ2 1 1).toInt = (gi σ0 1 1).toInt := congrArg Int32.toInt (FX_i cσ2 (show ¬ (1 = 15 ∨ 1 = 16 ∨ 1 = 4 ∨ 1 = 5 ∨ 1 = 6 ∨ 1 = 7) from by omega) (show ¬ ((1 = 1 ∧ 1 = 9)) from by omega))
    have t_6 := XI_c1 mσ2 (id := 1) (k := 9) (lim_C0_9 (Or.inl rfl))
    have w_7 := Int32.toInt_lt r3
    have w_8 := Int32.le_toInt r3
    exact h9ret r3 σ2 mσ2 fσ2 nσ2_1 (by first | omega | assumption | rfl)
  · intro q_3
    have b_9 : ¬ (gi σ0 1 9).toInt < 9999 := fun h9 => q_3 (Int32.lt_iff_toInt_lt.mpr h9)
    have z_10 : (-3 : Int32).toInt = -3 := rfl
    exact h9ret (-3 : Int32) σ0 m0 f0 nn_1 (by first | omega | assumption | rfl)
set_option maxRecDepth 100000 in
set_option maxHeartbeats 4000000 in
theorem k_X11_whet {l : Launch} {V : Vx} {σ0 : Sg} {Qk : Int32 → Sg → Prop} (m0 : XI V σ0) (nn_1 : NN σ0 1) (pre0 : (gi σ0 1 9).toInt ≤ 9999) (h9ret : ∀ (r : Int32) (σ' : Sg), XI V σ' → FX (fun id => id = 5 ∨ id = 6 ∨ id = 7) (fun id k => (id = 1 ∧ k = 9)) σ0 σ' → (NN σ' 1) → ((gi σ' 1 9).toInt ≤ 9999) → Qk r σ') : K_X11_whet l V σ0 Qk := by
  refine e_X11_whet (fun M hl hV hN C => ?_)
  subst hl
  subst hV
  have f0 : FX (fun id => id = 5 ∨ id = 6 ∨ id = 7) (fun id k => (id = 1 ∧ k = 9)) σ0 σ0 := FX_rf
  have t_1 := XI_c1 m0 (id := 1) (k := 1) (lim_C0_1 (Or.inl rfl))
  have t_2 := XI_c1 m0 (id := 1) (k := 9) (lim_C0_9 (Or.inl rfl))
  refine s_X11_whet_0 C hN  ?_
  refine ⟨?_, ?_⟩
  · intro q_3
    have b_4 : (gi σ0 1 9).toInt < 9999 := Int32.lt_iff_toInt_lt.mp q_3
    refine k_X1_whetsAll (Or.inl rfl) m0 nn_1 (by first | omega | assumption | rfl) (fun σ2 mσ2 cσ2 nσ2_1 (pσ2_0 : (gi σ2 1 9).toInt = (gi σ0 1 9).toInt + 1) => ?_)
    have fσ2 : FX (fun id => id = 5 ∨ id = 6 ∨ id = 7) (fun id k => (id = 1 ∧ k = 9)) σ0 σ2 := FX_tr f0 cσ2 (fun x (h9 : x = 5 ∨ x = 6 ∨ x = 7) => h9.elim (fun e9 => (show x = 5 ∨ x = 6 ∨ x = 7 from Or.inl (e9))) (fun h9 => h9.elim (fun e9 => (show x = 5 ∨ x = 6 ∨ x = 7 from Or.inr (Or.inl (e9)))) (fun h9 => (show x = 5 ∨ x = 6 ∨ x = 7 from Or.inr (Or.inr (h9)))))) (fun x k (h9 : (x = 1 ∧ k = 9)) => (show (x = 5 ∨ x = 6 ∨ x = 7) ∨ ((x = 1 ∧ k = 9)) from Or.inr (show (x = 1 ∧ k = 9) from h9)))
    have k_5 : (gi σ2 1 1).toInt = (gi σ0 1 1).toInt := congrArg Int32.toInt (FX_i cσ2 (show ¬ (1 = 5 ∨ 1 = 6 ∨ 1 = 7) from by omega) (show ¬ ((1 = 1 ∧ 1 = 9)) from by omega))
    have t_6 := XI_c1 mσ2 (id := 1) (k := 9) (lim_C0_9 (Or.inl rfl))
    exact h9ret (gi σ2 1 9) σ2 mσ2 fσ2 nσ2_1 (by first | omega | assumption | rfl)
  · intro q_3
    have b_7 : ¬ (gi σ0 1 9).toInt < 9999 := fun h9 => q_3 (Int32.lt_iff_toInt_lt.mpr h9)
    have z_8 : (-3 : Int32).toInt = -3 := rfl
    exact h9ret (-3 : Int32) σ0 m0 f0 nn_1 (by first | omega | assumption | rfl)
set_option maxRecDepth 100000 in
set_option maxHeartbeats 4000000 in
theorem k_X11_pause {l : Launch} {V : Vx} {a1 : Int32} {σ0 : Sg} {Qk : Int32 → Sg → Prop} (m0 : XI V σ0) (nn_1 : NN σ0 1) (pre0 : (gi σ0 1 9).toInt ≤ 9999) (h9ret : ∀ (r : Int32) (σ' : Sg), XI V σ' → FX (fun id => id = 6 ∨ id = 7) (fun id k => (id = 1 ∧ k = 9)) σ0 σ' → (NN σ' 1) → ((gi σ' 1 9).toInt ≤ 9999) → Qk r σ') : K_X11_pause l V a1 σ0 Qk := by
  refine e_X11_pause (fun M hl hV hN C => ?_)
  subst hl
  subst hV
  have f0 : FX (fun id => id = 6 ∨ id = 7) (fun id k => (id = 1 ∧ k = 9)) σ0 σ0 := FX_rf
  have t_1 := XI_c1 m0 (id := 1) (k := 1) (lim_C0_1 (Or.inl rfl))
  have t_2 := XI_c1 m0 (id := 1) (k := 9) (lim_C0_9 (Or.inl rfl))
  refine s_X11_pause_0 C hN  ?_
  refine ⟨?_, ?_⟩
  · intro q_3
    have w_4 := Int32.toInt_lt a1
    have w_5 := Int32.le_toInt a1
    have b_6 : a1.toInt < 1 := Int32.lt_iff_toInt_lt.mp q_3
    have z_7 : (-2 : Int32).toInt = -2 := rfl
    exact h9ret (-2 : Int32) σ0 m0 f0 nn_1 (by first | omega | assumption | rfl)
  · intro q_3
    have w_8 := Int32.toInt_lt a1
    have w_9 := Int32.le_toInt a1
    have b_10 : ¬ a1.toInt < 1 := fun h9 => q_3 (Int32.lt_iff_toInt_lt.mpr h9)
    refine ⟨?_, ?_⟩
    · intro q_11
      have b_12 : a1.toInt ≤ 60 := Int32.le_iff_toInt_le.mp q_11
      refine ⟨?_, ?_⟩
      · intro q_13
        try have t_14 : ((gi σ0 1 9) + a1).toInt = (gi σ0 1 9).toInt + a1.toInt := i_add (x := (gi σ0 1 9)) (y := a1) (by show (_ : Int) ≤ (gi σ0 1 9).toInt + a1.toInt; omega) (by show (gi σ0 1 9).toInt + a1.toInt ≤ (_ : Int); omega)
        have b_15 : ((gi σ0 1 9) + a1).toInt ≤ 9999 := Int32.le_iff_toInt_le.mp q_13
        refine k_X1_rests (Or.inl rfl) m0 nn_1 (by omega) (by omega) (by first | omega | assumption | rfl) (fun σ4 mσ4 cσ4 nσ4_1 (pσ4_0 : (gi σ4 1 9).toInt = (gi σ0 1 9).toInt + a1.toInt) => ?_)
        have fσ4 : FX (fun id => id = 6 ∨ id = 7) (fun id k => (id = 1 ∧ k = 9)) σ0 σ4 := FX_tr f0 cσ4 (fun x (h9 : x = 6 ∨ x = 7) => h9.elim (fun e9 => (show x = 6 ∨ x = 7 from Or.inl (e9))) (fun h9 => (show x = 6 ∨ x = 7 from Or.inr (h9)))) (fun x k (h9 : (x = 1 ∧ k = 9)) => (show (x = 6 ∨ x = 7) ∨ ((x = 1 ∧ k = 9)) from Or.inr (show (x = 1 ∧ k = 9) from h9)))
        have k_16 : (gi σ4 1 1).toInt = (gi σ0 1 1).toInt := congrArg Int32.toInt (FX_i cσ4 (show ¬ (1 = 6 ∨ 1 = 7) from by omega) (show ¬ ((1 = 1 ∧ 1 = 9)) from by omega))
        have t_17 := XI_c1 mσ4 (id := 1) (k := 9) (lim_C0_9 (Or.inl rfl))
        exact h9ret (gi σ4 1 9) σ4 mσ4 fσ4 nσ4_1 (by first | omega | assumption | rfl)
      · intro q_13
        try have t_18 : ((gi σ0 1 9) + a1).toInt = (gi σ0 1 9).toInt + a1.toInt := i_add (x := (gi σ0 1 9)) (y := a1) (by show (_ : Int) ≤ (gi σ0 1 9).toInt + a1.toInt; omega) (by show (gi σ0 1 9).toInt + a1.toInt ≤ (_ : Int); omega)
        have b_19 : ¬ ((gi σ0 1 9) + a1).toInt ≤ 9999 := fun h9 => q_13 (Int32.le_iff_toInt_le.mpr h9)
        have z_20 : (-3 : Int32).toInt = -3 := rfl
        exact h9ret (-3 : Int32) σ0 m0 f0 nn_1 (by first | omega | assumption | rfl)
    · intro q_11
      have b_21 : ¬ a1.toInt ≤ 60 := fun h9 => q_11 (Int32.le_iff_toInt_le.mpr h9)
      have z_22 : (-2 : Int32).toInt = -2 := rfl
      exact h9ret (-2 : Int32) σ0 m0 f0 nn_1 (by first | omega | assumption | rfl)
set_option maxRecDepth 100000 in
set_option maxHeartbeats 4000000 in
theorem k_X11_heldTimes {l : Launch} {V : Vx} {a1 : Int32} {a2 : Int32} {σ0 : Sg} {Qk : Int32 → Sg → Prop} (m0 : XI V σ0) (nn_33 : NN σ0 33) (l_a2 : 0 ≤ a2.toInt) (u_a2 : a2.toInt ≤ 60) (pre0 : (gi σ0 33 9).toInt ≤ 10000) (h9ret : ∀ (r : Int32) (σ' : Sg), XI V σ' → FX (fun id => id = 36 ∨ id = 37 ∨ id = 38 ∨ id = 39 ∨ id = 47 ∨ id = 48) (fun id k => (id = 33 ∧ k = 9)) σ0 σ' → (NN σ' 33) → Qk r σ') : K_X11_heldTimes l V a1 a2 σ0 Qk := by
  refine e_X11_heldTimes (fun M hl hV hN C => ?_)
  subst hl
  subst hV
  have T : ∀ n : Nat, (∀ (x1 : Int32) (x2 : Int32) (x3 : Int32) (x4 : Int32) (σ : Sg), XI (mV M) σ → FX (fun id => id = 36 ∨ id = 37 ∨ id = 38 ∨ id = 39 ∨ id = 47 ∨ id = 48) (fun id k => (id = 33 ∧ k = 9)) σ0 σ → NN σ 33 → (0 ≤ x2.toInt) → (x2.toInt ≤ 60) → (0 ≤ x4.toInt) → (x4.toInt ≤ 60) → ((gi σ 33 9).toInt ≤ 10000 + x4.toInt) → (x4.toInt ≤ x2.toInt) → (61 - x4.toInt).toNat < n → PS M 5 [(0, .ref 0), (1, .int x1), (2, .int x2), (3, .int x3), (4, .int x4)] [] σ (0, 0)) := by
    intro n
    induction n with
    | zero => exact fun _ _ _ _ _ _ _ _ _ _ _ _ _ _ h8 => absurd h8 (Nat.not_lt_zero _)
    | succ n ih =>
      have ih5 := ih
      · intro x1 x2 x3 x4 σ mσ fσ nσ_33 lx2 ux2 lx4 ux4 i0 i1 hmu
        have k_1 : (gi σ 1 1).toInt = (gi σ0 1 1).toInt := congrArg Int32.toInt (FX_i fσ (show ¬ (1 = 36 ∨ 1 = 37 ∨ 1 = 38 ∨ 1 = 39 ∨ 1 = 47 ∨ 1 = 48) from by omega) (show ¬ ((1 = 33 ∧ 1 = 9)) from by omega))
        have t_2 := XI_c1 mσ (id := 1) (k := 1) (lim_C0_1 (Or.inl rfl))
        have t_3 := XI_c1 mσ (id := 33) (k := 9) (lim_C0_9 (Or.inr (Or.inr rfl)))
        refine s_X11_heldTimes_5 C hN  ?_
        refine ⟨?_, ?_⟩
        · intro q_4
          have b_5 : x2.toInt ≤ x4.toInt := Int32.le_iff_toInt_le.mp q_4
          exact h9ret x3 σ mσ fσ nσ_33
        · intro q_4
          have b_6 : ¬ x2.toInt ≤ x4.toInt := fun h9 => q_4 (Int32.le_iff_toInt_le.mpr h9)
          refine k_X1_goesMinute (Or.inr (Or.inr rfl)) mσ nσ_33 (by first | omega | assumption | rfl) (fun r3 σ2 mσ2 cσ2 nσ2_33 (pσ2_0 : (gi σ2 33 9).toInt = (gi σ 33 9).toInt + 1) => ?_)
          have fσ2 : FX (fun id => id = 36 ∨ id = 37 ∨ id = 38 ∨ id = 39 ∨ id = 47 ∨ id = 48) (fun id k => (id = 33 ∧ k = 9)) σ0 σ2 := FX_tr fσ cσ2 (fun x (h9 : x = 47 ∨ x = 48 ∨ x = 36 ∨ x = 37 ∨ x = 38 ∨ x = 39) => h9.elim (fun e9 => (show x = 36 ∨ x = 37 ∨ x = 38 ∨ x = 39 ∨ x = 47 ∨ x = 48 from Or.inr (Or.inr (Or.inr (Or.inr (Or.inl (e9))))))) (fun h9 => h9.elim (fun e9 => (show x = 36 ∨ x = 37 ∨ x = 38 ∨ x = 39 ∨ x = 47 ∨ x = 48 from Or.inr (Or.inr (Or.inr (Or.inr (Or.inr (e9))))))) (fun h9 => h9.elim (fun e9 => (show x = 36 ∨ x = 37 ∨ x = 38 ∨ x = 39 ∨ x = 47 ∨ x = 48 from Or.inl (e9))) (fun h9 => h9.elim (fun e9 => (show x = 36 ∨ x = 37 ∨ x = 38 ∨ x = 39 ∨ x = 47 ∨ x = 48 from Or.inr (Or.inl (e9)))) (fun h9 => h9.elim (fun e9 => (show x = 36 ∨ x = 37 ∨ x = 38 ∨ x = 39 ∨ x = 47 ∨ x = 48 from Or.inr (Or.inr (Or.inl (e9))))) (fun h9 => (show x = 36 ∨ x = 37 ∨ x = 38 ∨ x = 39 ∨ x = 47 ∨ x = 48 from Or.inr (Or.inr (Or.inr (Or.inl (h9))))))))))) (fun x k (h9 : (x = 33 ∧ k = 9)) => (show (x = 36 ∨ x = 37 ∨ x = 38 ∨ x = 39 ∨ x = 47 ∨ x = 48) ∨ ((x = 33 ∧ k = 9)) from Or.inr (show (x = 33 ∧ k = 9) from h9)))
          have k_7 : (gi σ2 1 1).toInt = (gi σ 1 1).toInt := congrArg Int32.toInt (FX_i cσ2 (show ¬ (1 = 47 ∨ 1 = 48 ∨ 1 = 36 ∨ 1 = 37 ∨ 1 = 38 ∨ 1 = 39) from by omega) (show ¬ ((1 = 33 ∧ 1 = 9)) from by omega))
          have t_8 := XI_c1 mσ2 (id := 33) (k := 9) (lim_C0_9 (Or.inr (Or.inr rfl)))
          intro v4 ev4
          intro v5 ev5
          have t_9 : (x4 + (1 : Int32)).toInt = x4.toInt + 1 := i_add (x := x4) (y := (1 : Int32)) (by show (_ : Int) ≤ x4.toInt + 1; omega) (by show x4.toInt + 1 ≤ (_ : Int); omega)
          have t_10 : v5.toInt = (x4 + (1 : Int32)).toInt := congrArg Int32.toInt ev5
          have w_11 := Int32.toInt_lt x1
          have w_12 := Int32.le_toInt x1
          have w_13 := Int32.toInt_lt v4
          have w_14 := Int32.le_toInt v4
          exact ih5 x1 x2 v4 v5 σ2 mσ2 fσ2 nσ2_33 (by omega) (by omega) (by omega) (by omega) (by first | omega | assumption | rfl) (by first | omega | assumption | rfl) (by omega)
  have U5 := T 90
  have f0 : FX (fun id => id = 36 ∨ id = 37 ∨ id = 38 ∨ id = 39 ∨ id = 47 ∨ id = 48) (fun id k => (id = 33 ∧ k = 9)) σ0 σ0 := FX_rf
  have t_15 := XI_c1 m0 (id := 1) (k := 1) (lim_C0_1 (Or.inl rfl))
  have t_16 := XI_c1 m0 (id := 33) (k := 9) (lim_C0_9 (Or.inr (Or.inr rfl)))
  refine s_X11_heldTimes_0 C hN  ?_
  have w_17 := Int32.toInt_lt a1
  have w_18 := Int32.le_toInt a1
  have z_19 : (0 : Int32).toInt = 0 := rfl
  exact U5 a1 a2 (0 : Int32) (0 : Int32) σ0 m0 f0 nn_33 (by omega) (by omega) (by omega) (by omega) (by first | omega | assumption | rfl) (by first | omega | assumption | rfl) (by omega)
