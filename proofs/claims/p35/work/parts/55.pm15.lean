set_option maxRecDepth 100000 in
set_option maxHeartbeats 4000000 in
theorem k_X12_isDigit {l : Launch} {V : Vx} {σ0 : Sg} {Qk : Int32 → Sg → Prop} (m0 : MI σ0) (h9ret : ∀ (r : Int32) (σ' : Sg), MI σ' → Fr [] [] σ0 σ' → (0 ≤ r.toInt) → (r.toInt ≤ 1) → ((r.toInt = 1 ∧ 48 ≤ (nxt σ0).toInt ∧ (nxt σ0).toInt ≤ 57) ∨ r.toInt = 0) → Qk r σ') : K_X12_isDigit l V σ0 Qk := by
  refine e_X12_isDigit (fun M hl hV hN C => ?_)
  subst hl
  subst hV
  have f0 : Fr [] [] σ0 σ0 := Fr_rf
  refine s_X12_isDigit_0 C hN ?_
  refine k_X12_next m0  (fun r2 σ1 mσ1 cσ1 (pσ1_0 : r2.toInt = (nxt σ0).toInt) => ?_)
  obtain rfl := Fr_nil cσ1
  refine k_X12_in m0  (fun r4 σ3 mσ3 cσ3 plσ3 phσ3 (pσ3_0 : (r4.toInt = 1 ∧ (48 : Int) ≤ r2.toInt ∧ r2.toInt ≤ (57 : Int)) ∨ (r4.toInt = 0 ∧ (r2.toInt < (48 : Int) ∨ (57 : Int) < r2.toInt))) => ?_)
  obtain rfl := Fr_nil cσ3
  refine ⟨i_bool (by omega) (by omega), ?_⟩
  exact h9ret r4 σ0 m0 f0 (by omega) (by omega) (by first | omega | assumption | rfl)
set_option maxRecDepth 100000 in
set_option maxHeartbeats 4000000 in
theorem k_X12_takes {l : Launch} {V : Vx} {a1 : Int32} {σ0 : Sg} {Qk : Int32 → Sg → Prop} (m0 : MI σ0) (l_a1 : 0 ≤ a1.toInt) (u_a1 : a1.toInt ≤ 127) (h9ret : ∀ (r : Int32) (σ' : Sg), MI σ' → Fr [74] [14] σ0 σ' → (0 ≤ r.toInt) → (r.toInt ≤ 1) → ((r.toInt = 1 ∧ (gi σ' 74 14).toInt = (gi σ0 74 14).toInt + 1 ∧ (gi σ0 74 14).toInt < (gi σ0 74 13).toInt) ∨ (r.toInt = 0 ∧ (gi σ' 74 14).toInt = (gi σ0 74 14).toInt)) → Qk r σ') : K_X12_takes l V a1 σ0 Qk := by
  refine e_X12_takes (fun M hl hV hN C => ?_)
  subst hl
  subst hV
  have f0 : Fr [74] [14] σ0 σ0 := Fr_rf
  refine s_X12_takes_0 C hN ?_
  refine k_X12_next m0  (fun r2 σ1 mσ1 cσ1 (pσ1_0 : r2.toInt = (nxt σ0).toInt) => ?_)
  obtain rfl := Fr_nil cσ1
  have hlt := fun h9 => nxt_lt (by assumption : MI σ0) h9
  have fd9 := MI_f13 (by assumption : MI σ0)
  refine ⟨?_, ?_⟩
  · intro q_1
    have w_2 := Int32.toInt_lt r2
    have w_3 := Int32.le_toInt r2
    have b_4 : r2.toInt = a1.toInt := congrArg Int32.toInt q_1
    intro σ4 eσ4
    have t_5 := MI_f14 m0
    have t_6 : ((gi σ0 74 14) + (1 : Int32)).toInt = (gi σ0 74 14).toInt + 1 := i_add (x := (gi σ0 74 14)) (y := (1 : Int32)) (by show (_ : Int) ≤ (gi σ0 74 14).toInt + 1; omega) (by show (gi σ0 74 14).toInt + 1 ≤ (_ : Int); omega)
    have mσ4 : MI σ4 := by rw [eσ4]; exact MIs_f14 m0 (by omega) (by omega)
    have fσ4 : Fr [74] [14] σ0 σ4 := by rw [eσ4]; exact Fr_si f0 (by decide) (fun _ => by decide)
    have k_7 : (gi σ4 74 13).toInt = (gi σ0 74 13).toInt := by rw [eσ4]; exact congrArg Int32.toInt (gi_si_ne (Or.inr (by decide)))
    have k_8 : (gi σ4 74 14).toInt = ((gi σ0 74 14) + (1 : Int32)).toInt := by rw [eσ4]; exact congrArg Int32.toInt gi_si_eq
    have z_9 : (1 : Int32).toInt = 1 := rfl
    exact h9ret (1 : Int32) σ4 mσ4 fσ4 (by omega) (by omega) (by first | omega | assumption | rfl)
  · intro q_1
    have w_10 := Int32.toInt_lt r2
    have w_11 := Int32.le_toInt r2
    have b_12 : ¬ r2.toInt = a1.toInt := fun h9 => q_1 (Int32.toInt_inj.mp h9)
    have z_13 : (0 : Int32).toInt = 0 := rfl
    exact h9ret (0 : Int32) σ0 m0 f0 (by omega) (by omega) (by first | omega | assumption | rfl)
set_option maxRecDepth 100000 in
set_option maxHeartbeats 4000000 in
theorem k_X12_takesWord {l : Launch} {V : Vx} {a1 : Int32} {a2 : Int32} {σ0 : Sg} {Qk : Int32 → Sg → Prop} (m0 : MI σ0) (l_a1 : 0 ≤ a1.toInt) (u_a1 : a1.toInt ≤ 18) (l_a2 : 0 ≤ a2.toInt) (u_a2 : a2.toInt ≤ 5) (pre0 : a1.toInt + a2.toInt ≤ 19) (pre1 : (gi σ0 74 14).toInt ≤ (gi σ0 74 13).toInt) (h9ret : ∀ (r : Int32) (σ' : Sg), MI σ' → Fr [74] [14] σ0 σ' → (0 ≤ r.toInt) → (r.toInt ≤ 1) → ((gi σ0 74 14).toInt ≤ (gi σ' 74 14).toInt) → ((gi σ' 74 14).toInt ≤ (gi σ0 74 13).toInt) → Qk r σ') : K_X12_takesWord l V a1 a2 σ0 Qk := by
  refine e_X12_takesWord (fun M hl hV hN C => ?_)
  subst hl
  subst hV
  have T : ∀ n : Nat, (∀ (x1 : Int32) (x2 : Int32) (x3 : Int32) (σ : Sg), MI σ → Fr [74] [14] σ0 σ → (0 ≤ x1.toInt) → (x1.toInt ≤ 18) → (0 ≤ x2.toInt) → (x2.toInt ≤ 5) → (0 ≤ x3.toInt) → (x3.toInt ≤ 5) → ((gi σ0 74 14).toInt ≤ (gi σ 74 14).toInt) → ((gi σ 74 14).toInt ≤ (gi σ0 74 13).toInt) → ((gi σ 74 13).toInt = (gi σ0 74 13).toInt) → (x1.toInt + x2.toInt ≤ 19) → (7 - x3.toInt).toNat < n → PS M 2 [(0, .ref 74), (1, .int x1), (2, .int x2), (3, .int x3)] [] σ (0, 0)) := by
    intro n
    induction n with
    | zero => exact fun _ _ _ _ _ _ _ _ _ _ _ _ _ _ _ _ h8 => absurd h8 (Nat.not_lt_zero _)
    | succ n ih =>
      have ih2 := ih
      · intro x1 x2 x3 σ mσ fσ lx1 ux1 lx2 ux2 lx3 ux3 i0 i1 i2 i3 hmu
        refine s_X12_takesWord_2 C hN ?_
        refine ⟨?_, ?_⟩
        · intro q_1
          have b_2 : x2.toInt ≤ x3.toInt := Int32.le_iff_toInt_le.mp q_1
          have z_3 : (32 : Int32).toInt = 32 := rfl
          refine k_X12_takes mσ (by omega) (by omega) (fun r3 σ2 mσ2 cσ2 plσ2 phσ2 (pσ2_0 : (r3.toInt = 1 ∧ (gi σ2 74 14).toInt = (gi σ 74 14).toInt + 1 ∧ (gi σ 74 14).toInt < (gi σ 74 13).toInt) ∨ (r3.toInt = 0 ∧ (gi σ2 74 14).toInt = (gi σ 74 14).toInt)) => ?_)
          have fσ2 : Fr [74] [14] σ0 σ2 := Fr_tr fσ cσ2 (by decide) (by decide)
          have k_4 : (gi σ2 74 13).toInt = (gi σ 74 13).toInt := congrArg Int32.toInt (cσ2.2.1 13 (by decide))
          refine ⟨i_bool (by omega) (by omega), ?_⟩
          exact h9ret r3 σ2 mσ2 fσ2 (by omega) (by omega) (by first | omega | assumption | rfl) (by first | omega | assumption | rfl)
        · intro q_1
          have b_5 : ¬ x2.toInt ≤ x3.toInt := fun h9 => q_1 (Int32.le_iff_toInt_le.mpr h9)
          have t_6 : (x1 + x3).toInt = x1.toInt + x3.toInt := i_add (x := x1) (y := x3) (by show (_ : Int) ≤ x1.toInt + x3.toInt; omega) (by show x1.toInt + x3.toInt ≤ (_ : Int); omega)
          have hv_7 : vp_in (x1 + x3) 19 := vp_in_iff.mpr ⟨by omega, by omega⟩
          refine ⟨hv_7, ?_⟩
          have t_8 := MI_a127 mσ hv_7
          refine k_X12_takes mσ (by omega) (by omega) (fun r6 σ5 mσ5 cσ5 plσ5 phσ5 (pσ5_0 : (r6.toInt = 1 ∧ (gi σ5 74 14).toInt = (gi σ 74 14).toInt + 1 ∧ (gi σ 74 14).toInt < (gi σ 74 13).toInt) ∨ (r6.toInt = 0 ∧ (gi σ5 74 14).toInt = (gi σ 74 14).toInt)) => ?_)
          have fσ5 : Fr [74] [14] σ0 σ5 := Fr_tr fσ cσ5 (by decide) (by decide)
          have k_9 : (gi σ5 74 13).toInt = (gi σ 74 13).toInt := congrArg Int32.toInt (cσ5.2.1 13 (by decide))
          refine ⟨?_, ?_⟩
          · intro q_10
            have b_11 : ¬ r6.toInt = 0 := fun h9 => q_10 (Int32.toInt_inj.mp h9)
            intro v8 ev8
            have t_12 : (x3 + (1 : Int32)).toInt = x3.toInt + 1 := i_add (x := x3) (y := (1 : Int32)) (by show (_ : Int) ≤ x3.toInt + 1; omega) (by show x3.toInt + 1 ≤ (_ : Int); omega)
            have t_13 : v8.toInt = (x3 + (1 : Int32)).toInt := congrArg Int32.toInt ev8
            exact ih2 x1 x2 v8 σ5 mσ5 fσ5 (by omega) (by omega) (by omega) (by omega) (by omega) (by omega) (by first | omega | assumption | rfl) (by first | omega | assumption | rfl) (by first | omega | assumption | rfl) (by first | omega | assumption | rfl) (by omega)
          · intro q_10
            have b_14 : r6.toInt = 0 := congrArg Int32.toInt q_10
            have z_15 : (0 : Int32).toInt = 0 := rfl
            exact h9ret (0 : Int32) σ5 mσ5 fσ5 (by omega) (by omega) (by first | omega | assumption | rfl) (by first | omega | assumption | rfl)
  have U2 := T 9
  have f0 : Fr [74] [14] σ0 σ0 := Fr_rf
  refine s_X12_takesWord_0 C hN ?_
  have z_16 : (0 : Int32).toInt = 0 := rfl
  exact U2 a1 a2 (0 : Int32) σ0 m0 f0 (by omega) (by omega) (by omega) (by omega) (by omega) (by omega) (by first | omega | assumption | rfl) (by first | omega | assumption | rfl) (by first | omega | assumption | rfl) (by first | omega | assumption | rfl) (by omega)
set_option maxRecDepth 100000 in
set_option maxHeartbeats 4000000 in
theorem k_X12_takesNumber {l : Launch} {V : Vx} {σ0 : Sg} {Qk : Int32 → Sg → Prop} (m0 : MI σ0) (pre0 : (gi σ0 74 14).toInt ≤ (gi σ0 74 13).toInt) (h9ret : ∀ (r : Int32) (σ' : Sg), MI σ' → Fr [74] [14, 15] σ0 σ' → (0 ≤ r.toInt) → (r.toInt ≤ 1) → ((gi σ0 74 14).toInt ≤ (gi σ' 74 14).toInt) → ((gi σ' 74 14).toInt ≤ (gi σ0 74 13).toInt) → Qk r σ') : K_X12_takesNumber l V σ0 Qk := by
  refine e_X12_takesNumber (fun M hl hV hN C => ?_)
  subst hl
  subst hV
  have T : ∀ n : Nat, (∀ (x1 : Int32) (σ : Sg), MI σ → Fr [74] [14, 15] σ0 σ → (0 ≤ x1.toInt) → (x1.toInt ≤ 2) → ((gi σ0 74 14).toInt ≤ (gi σ 74 14).toInt) → ((gi σ 74 14).toInt ≤ (gi σ0 74 13).toInt) → ((gi σ 74 13).toInt = (gi σ0 74 13).toInt) → ((x1.toInt = 0 ∧ (gi σ 74 15).toInt = 0) ∨ (x1.toInt = 1 ∧ (gi σ 74 15).toInt ≤ 9) ∨ x1.toInt = 2) → (7 - x1.toInt).toNat < n → PS M 16 [(0, .ref 74), (1, .int x1)] [] σ (0, 0)) := by
    intro n
    induction n with
    | zero => exact fun _ _ _ _ _ _ _ _ _ _ h8 => absurd h8 (Nat.not_lt_zero _)
    | succ n ih =>
      have ih16 := ih
      · intro x1 σ mσ fσ lx1 ux1 i0 i1 i2 i3 hmu
        have mw15 := MI_f15 mσ
        refine s_X12_takesNumber_16 C hN ?_
        refine ⟨?_, ?_⟩
        · intro q_1
          have b_2 : (2 : Int) ≤ x1.toInt := Int32.le_iff_toInt_le.mp q_1
          have z_3 : (1 : Int32).toInt = 1 := rfl
          exact h9ret (1 : Int32) σ mσ fσ (by omega) (by omega) (by first | omega | assumption | rfl) (by first | omega | assumption | rfl)
        · intro q_1
          have b_4 : ¬ (2 : Int) ≤ x1.toInt := fun h9 => q_1 (Int32.le_iff_toInt_le.mpr h9)
          refine k_X12_isDigit mσ  (fun r3 σ2 mσ2 cσ2 plσ2 phσ2 (pσ2_0 : (r3.toInt = 1 ∧ 48 ≤ (nxt σ).toInt ∧ (nxt σ).toInt ≤ 57) ∨ r3.toInt = 0) => ?_)
          obtain rfl := Fr_nil cσ2
          refine ⟨?_, ?_⟩
          · intro q_5
            have b_6 : r3.toInt = 0 := congrArg Int32.toInt q_5
            have z_7 : (1 : Int32).toInt = 1 := rfl
            exact h9ret (1 : Int32) σ mσ fσ (by omega) (by omega) (by first | omega | assumption | rfl) (by first | omega | assumption | rfl)
          · intro q_5
            have b_8 : ¬ r3.toInt = 0 := fun h9 => q_5 (Int32.toInt_inj.mp h9)
            refine k_X12_next mσ  (fun r6 σ5 mσ5 cσ5 (pσ5_0 : r6.toInt = (nxt σ).toInt) => ?_)
            obtain rfl := Fr_nil cσ5
            have hlt := fun h9 => nxt_lt (by assumption : MI σ) h9
            have fd9 := MI_f13 (by assumption : MI σ)
            intro σ7 eσ7
            have t_9 := MI_f15 mσ
            have t_10 : ((10 : Int32) * (gi σ 74 15)).toInt = 10 * (gi σ 74 15).toInt := i_mull rfl (by omega) (by omega)
            have w_11 := Int32.toInt_lt r6
            have w_12 := Int32.le_toInt r6
            try have t_13 : (((10 : Int32) * (gi σ 74 15)) + r6).toInt = ((10 : Int32) * (gi σ 74 15)).toInt + r6.toInt := i_add (x := ((10 : Int32) * (gi σ 74 15))) (y := r6) (by show (_ : Int) ≤ ((10 : Int32) * (gi σ 74 15)).toInt + r6.toInt; omega) (by show ((10 : Int32) * (gi σ 74 15)).toInt + r6.toInt ≤ (_ : Int); omega)
            try have t_14 : ((((10 : Int32) * (gi σ 74 15)) + r6) - (48 : Int32)).toInt = (((10 : Int32) * (gi σ 74 15)) + r6).toInt - 48 := i_sub (x := (((10 : Int32) * (gi σ 74 15)) + r6)) (y := (48 : Int32)) (by show (_ : Int) ≤ (((10 : Int32) * (gi σ 74 15)) + r6).toInt - 48; omega) (by show (((10 : Int32) * (gi σ 74 15)) + r6).toInt - 48 ≤ (_ : Int); omega)
            have mσ7 : MI σ7 := by rw [eσ7]; exact MIs_f15 mσ (by omega) (by omega)
            have fσ7 : Fr [74] [14, 15] σ0 σ7 := by rw [eσ7]; exact Fr_si fσ (by decide) (fun _ => by decide)
            have k_15 : (gi σ7 74 13).toInt = (gi σ 74 13).toInt := by rw [eσ7]; exact congrArg Int32.toInt (gi_si_ne (Or.inr (by decide)))
            have k_16 : (gi σ7 74 14).toInt = (gi σ 74 14).toInt := by rw [eσ7]; exact congrArg Int32.toInt (gi_si_ne (Or.inr (by decide)))
            have k_17 : (gi σ7 74 15).toInt = ((((10 : Int32) * (gi σ 74 15)) + r6) - (48 : Int32)).toInt := by rw [eσ7]; exact congrArg Int32.toInt gi_si_eq
            intro σ8 eσ8
            have t_18 := MI_f14 mσ7
            have t_19 : ((gi σ7 74 14) + (1 : Int32)).toInt = (gi σ7 74 14).toInt + 1 := i_add (x := (gi σ7 74 14)) (y := (1 : Int32)) (by show (_ : Int) ≤ (gi σ7 74 14).toInt + 1; omega) (by show (gi σ7 74 14).toInt + 1 ≤ (_ : Int); omega)
            have mσ8 : MI σ8 := by rw [eσ8]; exact MIs_f14 mσ7 (by omega) (by omega)
            have fσ8 : Fr [74] [14, 15] σ0 σ8 := by rw [eσ8]; exact Fr_si fσ7 (by decide) (fun _ => by decide)
            have k_20 : (gi σ8 74 13).toInt = (gi σ7 74 13).toInt := by rw [eσ8]; exact congrArg Int32.toInt (gi_si_ne (Or.inr (by decide)))
            have k_21 : (gi σ8 74 14).toInt = ((gi σ7 74 14) + (1 : Int32)).toInt := by rw [eσ8]; exact congrArg Int32.toInt gi_si_eq
            have k_22 : (gi σ8 74 15).toInt = (gi σ7 74 15).toInt := by rw [eσ8]; exact congrArg Int32.toInt (gi_si_ne (Or.inr (by decide)))
            intro v9 ev9
            have t_23 : (x1 + (1 : Int32)).toInt = x1.toInt + 1 := i_add (x := x1) (y := (1 : Int32)) (by show (_ : Int) ≤ x1.toInt + 1; omega) (by show x1.toInt + 1 ≤ (_ : Int); omega)
            have t_24 : v9.toInt = (x1 + (1 : Int32)).toInt := congrArg Int32.toInt ev9
            exact ih16 v9 σ8 mσ8 fσ8 (by omega) (by omega) (by first | omega | assumption | rfl) (by first | omega | assumption | rfl) (by first | omega | assumption | rfl) (by first | omega | assumption | rfl) (by omega)
  have U16 := T 9
  have f0 : Fr [74] [14, 15] σ0 σ0 := Fr_rf
  refine s_X12_takesNumber_0 C hN ?_
  refine k_X12_isDigit m0  (fun r2 σ1 mσ1 cσ1 plσ1 phσ1 (pσ1_0 : (r2.toInt = 1 ∧ 48 ≤ (nxt σ0).toInt ∧ (nxt σ0).toInt ≤ 57) ∨ r2.toInt = 0) => ?_)
  obtain rfl := Fr_nil cσ1
  refine ⟨?_, ?_⟩
  · intro q_25
    have b_26 : ¬ r2.toInt = 0 := fun h9 => q_25 (Int32.toInt_inj.mp h9)
    intro σ4 eσ4
    have z_27 : (0 : Int32).toInt = 0 := rfl
    have mσ4 : MI σ4 := by rw [eσ4]; exact MIs_f15 m0 (by omega) (by omega)
    have fσ4 : Fr [74] [14, 15] σ0 σ4 := by rw [eσ4]; exact Fr_si f0 (by decide) (fun _ => by decide)
    have k_28 : (gi σ4 74 13).toInt = (gi σ0 74 13).toInt := by rw [eσ4]; exact congrArg Int32.toInt (gi_si_ne (Or.inr (by decide)))
    have k_29 : (gi σ4 74 14).toInt = (gi σ0 74 14).toInt := by rw [eσ4]; exact congrArg Int32.toInt (gi_si_ne (Or.inr (by decide)))
    have k_30 : (gi σ4 74 15).toInt = 0 := by rw [eσ4]; exact congrArg Int32.toInt gi_si_eq
    exact U16 (0 : Int32) σ4 mσ4 fσ4 (by omega) (by omega) (by first | omega | assumption | rfl) (by first | omega | assumption | rfl) (by first | omega | assumption | rfl) (by first | omega | assumption | rfl) (by omega)
  · intro q_25
    have b_31 : r2.toInt = 0 := congrArg Int32.toInt q_25
    have z_32 : (0 : Int32).toInt = 0 := rfl
    exact h9ret (0 : Int32) σ0 m0 f0 (by omega) (by omega) (by first | omega | assumption | rfl) (by first | omega | assumption | rfl)
