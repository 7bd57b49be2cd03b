set_option maxRecDepth 100000 in
set_option maxHeartbeats 4000000 in
theorem k_X12_goMinute {l : Launch} {V : Vx} {σ0 : Sg} {Qk : Int32 → Sg → Prop} (m0 : MI σ0) (pre0 : (gi σ0 74 1).toInt ≤ 19000) (h9ret : ∀ (r : Int32) (σ' : Sg), MI σ' → Fr [74, 105, 106, 107, 108, 129, 131, 132] [1, 30] σ0 σ' → ((gi σ' 74 1).toInt = (gi σ0 74 1).toInt + 1) → Qk r σ') : K_X12_goMinute l V σ0 Qk := by
  refine e_X12_goMinute (fun M hl hV hN C => ?_)
  subst hl
  subst hV
  have T : ∀ n : Nat, (∀ (x1 : Int32) (σ : Sg), MI σ → Fr [74, 105, 106, 107, 108, 129, 131, 132] [1, 30] σ0 σ → (0 ≤ x1.toInt) → (x1.toInt ≤ 6) → ((gi σ 74 1).toInt = (gi σ0 74 1).toInt) → (7 - x1.toInt).toNat + 100 < n → PS M 2 [(0, .ref 74), (1, .int x1)] [] σ (0, 0)) ∧ (∀ (x1 : Int32) (x2 : Int32) (σ : Sg), MI σ → Fr [74, 105, 106, 107, 108, 129, 131, 132] [1, 30] σ0 σ → (0 ≤ x2.toInt) → (x2.toInt ≤ 6) → ((gi σ 74 1).toInt = (gi σ0 74 1).toInt) → (7 - x2.toInt).toNat < n → PS M 31 [(0, .ref 74), (1, .int x1), (2, .int x2)] [] σ (0, 0)) := by
    intro n
    induction n with
    | zero => exact ⟨fun _ _ _ _ _ _ _ h8 => absurd h8 (Nat.not_lt_zero _), fun _ _ _ _ _ _ _ _ h8 => absurd h8 (Nat.not_lt_zero _)⟩
    | succ n ih =>
      obtain ⟨ih2, ih31⟩ := ih
      refine ⟨?_, ?_⟩
      · intro x1 σ mσ fσ lx1 ux1 i0 hmu
        refine s_X12_goMinute_2 C hN ?_
        refine ⟨?_, ?_⟩
        · intro q_1
          have t_2 := MI_f2 mσ
          have b_3 : (gi σ 74 2).toInt ≤ x1.toInt := Int32.le_iff_toInt_le.mp q_1
          have z_4 : (0 : Int32).toInt = 0 := rfl
          exact ih31 (0 : Int32) (0 : Int32) σ mσ fσ (by omega) (by omega) (by first | omega | assumption | rfl) (by omega)
        · intro q_1
          have t_5 := MI_f2 mσ
          have b_6 : ¬ (gi σ 74 2).toInt ≤ x1.toInt := fun h9 => q_1 (Int32.le_iff_toInt_le.mpr h9)
          refine k_X12_strideAt mσ (by omega) (by omega) (fun r3 σ2 mσ2 cσ2 (pσ2_0 : (gi σ2 74 1).toInt = (gi σ 74 1).toInt) => ?_)
          have fσ2 : Fr [74, 105, 106, 107, 108, 129, 131, 132] [1, 30] σ0 σ2 := Fr_tr fσ cσ2 (by decide) (by decide)
          have k_7 : (gi σ2 74 1).toInt = (gi σ 74 1).toInt := congrArg Int32.toInt (cσ2.2.1 1 (by decide))
          have k_8 : (gi σ2 74 2).toInt = (gi σ 74 2).toInt := congrArg Int32.toInt (cσ2.2.1 2 (by decide))
          have hv_9 : vp_in x1 6 := vp_in_iff.mpr ⟨by omega, by omega⟩
          refine ⟨hv_9, ?_⟩
          intro σ5 eσ5
          have mσ5 : MI σ5 := by rw [eσ5]; exact MIs_au (a := 131) mσ2 rfl rfl
          have fσ5 : Fr [74, 105, 106, 107, 108, 129, 131, 132] [1, 30] σ0 σ5 := by rw [eσ5]; exact Fr_si fσ2 (by decide) (fun h9 => absurd h9 (by decide))
          have k_10 : (gi σ5 74 1).toInt = (gi σ2 74 1).toInt := by rw [eσ5]; exact congrArg Int32.toInt (gi_si_ne (Or.inl (by decide)))
          have k_11 : (gi σ5 74 2).toInt = (gi σ2 74 2).toInt := by rw [eσ5]; exact congrArg Int32.toInt (gi_si_ne (Or.inl (by decide)))
          intro v6 ev6
          have t_12 : (x1 + (1 : Int32)).toInt = x1.toInt + 1 := i_add (x := x1) (y := (1 : Int32)) (by show (_ : Int) ≤ x1.toInt + 1; omega) (by show x1.toInt + 1 ≤ (_ : Int); omega)
          have t_13 : v6.toInt = (x1 + (1 : Int32)).toInt := congrArg Int32.toInt ev6
          exact ih2 v6 σ5 mσ5 fσ5 (by omega) (by omega) (by first | omega | assumption | rfl) (by omega)
      · intro x1 x2 σ mσ fσ lx2 ux2 i0 hmu
        refine s_X12_goMinute_31 C hN ?_
        refine ⟨?_, ?_⟩
        · intro q_14
          have t_15 := MI_f2 mσ
          have b_16 : (gi σ 74 2).toInt ≤ x2.toInt := Int32.le_iff_toInt_le.mp q_14
          intro σ2 eσ2
          have t_17 := MI_f1 mσ
          have t_18 : ((gi σ 74 1) + (1 : Int32)).toInt = (gi σ 74 1).toInt + 1 := i_add (x := (gi σ 74 1)) (y := (1 : Int32)) (by show (_ : Int) ≤ (gi σ 74 1).toInt + 1; omega) (by show (gi σ 74 1).toInt + 1 ≤ (_ : Int); omega)
          have mσ2 : MI σ2 := by rw [eσ2]; exact MIs_f1 mσ (by omega) (by omega)
          have fσ2 : Fr [74, 105, 106, 107, 108, 129, 131, 132] [1, 30] σ0 σ2 := by rw [eσ2]; exact Fr_si fσ (by decide) (fun _ => by decide)
          have k_19 : (gi σ2 74 1).toInt = ((gi σ 74 1) + (1 : Int32)).toInt := by rw [eσ2]; exact congrArg Int32.toInt gi_si_eq
          have k_20 : (gi σ2 74 2).toInt = (gi σ 74 2).toInt := by rw [eσ2]; exact congrArg Int32.toInt (gi_si_ne (Or.inr (by decide)))
          exact h9ret x1 σ2 mσ2 fσ2 (by first | omega | assumption | rfl)
        · intro q_14
          have t_21 := MI_f2 mσ
          have b_22 : ¬ (gi σ 74 2).toInt ≤ x2.toInt := fun h9 => q_14 (Int32.le_iff_toInt_le.mpr h9)
          refine k_X12_goes mσ (by omega) (by omega) (fun r4 σ3 mσ3 cσ3 plσ3 phσ3 => ?_)
          have fσ3 : Fr [74, 105, 106, 107, 108, 129, 131, 132] [1, 30] σ0 σ3 := Fr_tr fσ cσ3 (by decide) (by decide)
          have k_23 : (gi σ3 74 1).toInt = (gi σ 74 1).toInt := congrArg Int32.toInt (cσ3.2.1 1 (by decide))
          have k_24 : (gi σ3 74 2).toInt = (gi σ 74 2).toInt := congrArg Int32.toInt (cσ3.2.1 2 (by decide))
          refine ⟨?_, ?_⟩
          · intro q_25
            have b_26 : ¬ r4.toInt = 0 := fun h9 => q_25 (Int32.toInt_inj.mp h9)
            have hv_27 : vp_in x2 6 := vp_in_iff.mpr ⟨by omega, by omega⟩
            refine ⟨hv_27, ?_⟩
            intro v7 ev7
            have t_28 := MI_a110 mσ3 hv_27
            refine ⟨hv_27, ?_⟩
            have hv_29 : vp_in (gi σ3 110 x2.toNatClampNeg) 6 := vp_in_iff.mpr ⟨by omega, by omega⟩
            refine ⟨hv_29, ?_⟩
            refine ⟨hv_29, ?_⟩
            intro σ11 eσ11
            have mσ11 : MI σ11 := by rw [eσ11]; exact MIs_au (a := 132) mσ3 rfl rfl
            have fσ11 : Fr [74, 105, 106, 107, 108, 129, 131, 132] [1, 30] σ0 σ11 := by rw [eσ11]; exact Fr_si fσ3 (by decide) (fun h9 => absurd h9 (by decide))
            have k_30 : (gi σ11 74 1).toInt = (gi σ3 74 1).toInt := by rw [eσ11]; exact congrArg Int32.toInt (gi_si_ne (Or.inl (by decide)))
            have k_31 : (gi σ11 74 2).toInt = (gi σ3 74 2).toInt := by rw [eσ11]; exact congrArg Int32.toInt (gi_si_ne (Or.inl (by decide)))
            intro v12 ev12
            have t_32 : (x2 + (1 : Int32)).toInt = x2.toInt + 1 := i_add (x := x2) (y := (1 : Int32)) (by show (_ : Int) ≤ x2.toInt + 1; omega) (by show x2.toInt + 1 ≤ (_ : Int); omega)
            have t_33 : v12.toInt = (x2 + (1 : Int32)).toInt := congrArg Int32.toInt ev12
            exact ih31 v7 v12 σ11 mσ11 fσ11 (by omega) (by omega) (by first | omega | assumption | rfl) (by omega)
          · intro q_25
            have b_34 : r4.toInt = 0 := congrArg Int32.toInt q_25
            intro v13 ev13
            have t_35 : (x2 + (1 : Int32)).toInt = x2.toInt + 1 := i_add (x := x2) (y := (1 : Int32)) (by show (_ : Int) ≤ x2.toInt + 1; omega) (by show x2.toInt + 1 ≤ (_ : Int); omega)
            have t_36 : v13.toInt = (x2 + (1 : Int32)).toInt := congrArg Int32.toInt ev13
            exact ih31 x1 v13 σ3 mσ3 fσ3 (by omega) (by omega) (by first | omega | assumption | rfl) (by omega)
  obtain ⟨U2, U31⟩ := T 900
  have f0 : Fr [74, 105, 106, 107, 108, 129, 131, 132] [1, 30] σ0 σ0 := Fr_rf
  refine s_X12_goMinute_0 C hN ?_
  have z_37 : (0 : Int32).toInt = 0 := rfl
  exact U2 (0 : Int32) σ0 m0 f0 (by omega) (by omega) (by first | omega | assumption | rfl) (by omega)
set_option maxRecDepth 100000 in
set_option maxHeartbeats 4000000 in
theorem k_X12_goMinutes {l : Launch} {V : Vx} {a1 : Int32} {σ0 : Sg} {Qk : Sg → Prop} (m0 : MI σ0) (l_a1 : -100 ≤ a1.toInt) (u_a1 : a1.toInt ≤ 200) (pre0 : (gi σ0 74 1).toInt ≤ 18000) (h9ret : ∀ (σ' : Sg), MI σ' → Fr [74, 105, 106, 107, 108, 129, 131, 132] [1, 30] σ0 σ' → ((a1.toInt ≤ 0 ∧ (gi σ' 74 1).toInt = (gi σ0 74 1).toInt) ∨ (0 ≤ a1.toInt ∧ (gi σ' 74 1).toInt = (gi σ0 74 1).toInt + a1.toInt)) → Qk σ') : K_X12_goMinutes l V a1 σ0 Qk := by
  refine e_X12_goMinutes (fun M hl hV hN C => ?_)
  subst hl
  subst hV
  have T : ∀ n : Nat, (∀ (x1 : Int32) (x2 : Int32) (σ : Sg), MI σ → Fr [74, 105, 106, 107, 108, 129, 131, 132] [1, 30] σ0 σ → (-100 ≤ x1.toInt) → (x1.toInt ≤ 200) → (0 ≤ x2.toInt) → (x2.toInt ≤ 200) → (x1.toInt = a1.toInt) → ((gi σ 74 1).toInt = (gi σ0 74 1).toInt + x2.toInt) → (x2.toInt ≤ 0 ∨ x2.toInt ≤ a1.toInt) → (201 - x2.toInt).toNat < n → PS M 2 [(0, .ref 74), (1, .int x1), (2, .int x2)] [] σ (0, 0)) := by
    intro n
    induction n with
    | zero => exact fun _ _ _ _ _ _ _ _ _ _ _ _ h8 => absurd h8 (Nat.not_lt_zero _)
    | succ n ih =>
      have ih2 := ih
      · intro x1 x2 σ mσ fσ lx1 ux1 lx2 ux2 i0 i1 i2 hmu
        refine s_X12_goMinutes_2 C hN ?_
        refine ⟨?_, ?_⟩
        · intro q_1
          have b_2 : x1.toInt ≤ x2.toInt := Int32.le_iff_toInt_le.mp q_1
          exact h9ret σ mσ fσ (by first | omega | assumption | rfl)
        · intro q_1
          have b_3 : ¬ x1.toInt ≤ x2.toInt := fun h9 => q_1 (Int32.le_iff_toInt_le.mpr h9)
          refine k_X12_goMinute mσ (by first | omega | assumption | rfl) (fun r3 σ2 mσ2 cσ2 (pσ2_0 : (gi σ2 74 1).toInt = (gi σ 74 1).toInt + 1) => ?_)
          have fσ2 : Fr [74, 105, 106, 107, 108, 129, 131, 132] [1, 30] σ0 σ2 := Fr_tr fσ cσ2 (by decide) (by decide)
          intro v4 ev4
          have t_4 : (x2 + (1 : Int32)).toInt = x2.toInt + 1 := i_add (x := x2) (y := (1 : Int32)) (by show (_ : Int) ≤ x2.toInt + 1; omega) (by show x2.toInt + 1 ≤ (_ : Int); omega)
          have t_5 : v4.toInt = (x2 + (1 : Int32)).toInt := congrArg Int32.toInt ev4
          exact ih2 x1 v4 σ2 mσ2 fσ2 (by omega) (by omega) (by omega) (by omega) (by first | omega | assumption | rfl) (by first | omega | assumption | rfl) (by first | omega | assumption | rfl) (by omega)
  have U2 := T 300
  have f0 : Fr [74, 105, 106, 107, 108, 129, 131, 132] [1, 30] σ0 σ0 := Fr_rf
  refine s_X12_goMinutes_0 C hN ?_
  have z_6 : (0 : Int32).toInt = 0 := rfl
  exact U2 a1 (0 : Int32) σ0 m0 f0 (by omega) (by omega) (by omega) (by omega) (by first | omega | assumption | rfl) (by first | omega | assumption | rfl) (by first | omega | assumption | rfl) (by omega)
set_option maxRecDepth 100000 in
set_option maxHeartbeats 4000000 in
theorem k_X12_allBehind {l : Launch} {V : Vx} {a1 : Int32} {σ0 : Sg} {Qk : Int32 → Sg → Prop} (m0 : MI σ0) (l_a1 : 0 ≤ a1.toInt) (u_a1 : a1.toInt ≤ 200) (pre0 : (gi σ0 74 1).toInt ≤ 9999) (h9ret : ∀ (r : Int32) (σ' : Sg), MI σ' → Fr [74, 105, 106, 107, 108, 129, 131, 132, 134, 135, 136, 137] [1, 30, 33] σ0 σ' → (0 ≤ r.toInt) → (r.toInt ≤ 59994) → ((gi σ' 74 1).toInt = (gi σ0 74 1).toInt) → Qk r σ') : K_X12_allBehind l V a1 σ0 Qk := by
  refine e_X12_allBehind (fun M hl hV hN C => ?_)
  subst hl
  subst hV
  have f0 : Fr [74, 105, 106, 107, 108, 129, 131, 132, 134, 135, 136, 137] [1, 30, 33] σ0 σ0 := Fr_rf
  refine s_X12_allBehind_0 C hN ?_
  refine k_X12_save m0  (fun σ1 mσ1 cσ1 (pσ1_0 : (gi σ1 74 33).toInt = (gi σ0 74 1).toInt) => ?_)
  have fσ1 : Fr [74, 105, 106, 107, 108, 129, 131, 132, 134, 135, 136, 137] [1, 30, 33] σ0 σ1 := Fr_tr f0 cσ1 (by decide) (by decide)
  have k_1 : (gi σ1 74 1).toInt = (gi σ0 74 1).toInt := congrArg Int32.toInt (cσ1.2.1 1 (by decide))
  refine k_X12_goMinutes mσ1 (by omega) (by omega) (by first | omega | assumption | rfl) (fun σ2 mσ2 cσ2 (pσ2_0 : (a1.toInt ≤ 0 ∧ (gi σ2 74 1).toInt = (gi σ1 74 1).toInt) ∨ (0 ≤ a1.toInt ∧ (gi σ2 74 1).toInt = (gi σ1 74 1).toInt + a1.toInt)) => ?_)
  have fσ2 : Fr [74, 105, 106, 107, 108, 129, 131, 132, 134, 135, 136, 137] [1, 30, 33] σ0 σ2 := Fr_tr fσ1 cσ2 (by decide) (by decide)
  have k_2 : (gi σ2 74 33).toInt = (gi σ1 74 33).toInt := congrArg Int32.toInt (cσ2.2.1 33 (by decide))
  refine k_X12_all mσ2  (fun r4 σ3 mσ3 cσ3 plσ3 phσ3 => ?_)
  obtain rfl := Fr_nil cσ3
  refine k_X12_putBack mσ2  (fun σ5 mσ5 cσ5 (pσ5_0 : (gi σ5 74 1).toInt = (gi σ2 74 33).toInt) => ?_)
  have fσ5 : Fr [74, 105, 106, 107, 108, 129, 131, 132, 134, 135, 136, 137] [1, 30, 33] σ0 σ5 := Fr_tr fσ2 cσ5 (by decide) (by decide)
  have k_3 : (gi σ5 74 33).toInt = (gi σ2 74 33).toInt := congrArg Int32.toInt (cσ5.2.1 33 (by decide))
  exact h9ret r4 σ5 mσ5 fσ5 (by omega) (by omega) (by first | omega | assumption | rfl)
set_option maxRecDepth 100000 in
set_option maxHeartbeats 4000000 in
theorem k_X12_minute {l : Launch} {V : Vx} {σ0 : Sg} {Qk : Int32 → Sg → Prop} (m0 : MI σ0) (pre0 : (gi σ0 74 1).toInt ≤ 9999) (h9ret : ∀ (r : Int32) (σ' : Sg), MI σ' → Fr [74, 105, 106, 107, 108, 129, 131, 132] [1, 30] σ0 σ' → ((gi σ' 74 1).toInt ≤ 9999) → Qk r σ') : K_X12_minute l V σ0 Qk := by
  refine e_X12_minute (fun M hl hV hN C => ?_)
  subst hl
  subst hV
  have f0 : Fr [74, 105, 106, 107, 108, 129, 131, 132] [1, 30] σ0 σ0 := Fr_rf
  refine s_X12_minute_0 C hN ?_
  refine ⟨?_, ?_⟩
  · intro q_1
    have t_2 := MI_f1 m0
    have b_3 : ¬ (gi σ0 74 1).toInt = 9999 := fun h9 => q_1 (Int32.toInt_inj.mp h9)
    refine k_X12_goMinute m0 (by first | omega | assumption | rfl) (fun r3 σ2 mσ2 cσ2 (pσ2_0 : (gi σ2 74 1).toInt = (gi σ0 74 1).toInt + 1) => ?_)
    have fσ2 : Fr [74, 105, 106, 107, 108, 129, 131, 132] [1, 30] σ0 σ2 := Fr_tr f0 cσ2 (by decide) (by decide)
    exact h9ret r3 σ2 mσ2 fσ2 (by first | omega | assumption | rfl)
  · intro q_1
    have t_4 := MI_f1 m0
    have b_5 : (gi σ0 74 1).toInt = 9999 := congrArg Int32.toInt q_1
    have z_6 : (-3 : Int32).toInt = -3 := rfl
    exact h9ret (-3 : Int32) σ0 m0 f0 (by first | omega | assumption | rfl)
set_option maxRecDepth 100000 in
set_option maxHeartbeats 4000000 in
theorem k_X12_whet {l : Launch} {V : Vx} {σ0 : Sg} {Qk : Int32 → Sg → Prop} (m0 : MI σ0) (pre0 : (gi σ0 74 1).toInt ≤ 9999) (h9ret : ∀ (r : Int32) (σ' : Sg), MI σ' → Fr [74, 106, 107, 108] [1] σ0 σ' → ((gi σ' 74 1).toInt ≤ 9999) → Qk r σ') : K_X12_whet l V σ0 Qk := by
  refine e_X12_whet (fun M hl hV hN C => ?_)
  subst hl
  subst hV
  have f0 : Fr [74, 106, 107, 108] [1] σ0 σ0 := Fr_rf
  refine s_X12_whet_0 C hN ?_
  refine ⟨?_, ?_⟩
  · intro q_1
    have t_2 := MI_f1 m0
    have b_3 : ¬ (gi σ0 74 1).toInt = 9999 := fun h9 => q_1 (Int32.toInt_inj.mp h9)
    refine k_X12_goWhet m0 (by first | omega | assumption | rfl) (fun σ2 mσ2 cσ2 (pσ2_0 : (gi σ2 74 1).toInt = (gi σ0 74 1).toInt + 1) => ?_)
    have fσ2 : Fr [74, 106, 107, 108] [1] σ0 σ2 := Fr_tr f0 cσ2 (by decide) (by decide)
    have t_4 := MI_f1 mσ2
    exact h9ret (gi σ2 74 1) σ2 mσ2 fσ2 (by first | omega | assumption | rfl)
  · intro q_1
    have t_5 := MI_f1 m0
    have b_6 : (gi σ0 74 1).toInt = 9999 := congrArg Int32.toInt q_1
    have z_7 : (-3 : Int32).toInt = -3 := rfl
    exact h9ret (-3 : Int32) σ0 m0 f0 (by first | omega | assumption | rfl)
set_option maxRecDepth 100000 in
set_option maxHeartbeats 4000000 in
theorem k_X12_pause {l : Launch} {V : Vx} {a1 : Int32} {σ0 : Sg} {Qk : Int32 → Sg → Prop} (m0 : MI σ0) (pre0 : (gi σ0 74 1).toInt ≤ 9999) (h9ret : ∀ (r : Int32) (σ' : Sg), MI σ' → Fr [74, 107, 108] [1] σ0 σ' → ((gi σ' 74 1).toInt ≤ 9999) → Qk r σ') : K_X12_pause l V a1 σ0 Qk := by
  refine e_X12_pause (fun M hl hV hN C => ?_)
  subst hl
  subst hV
  have f0 : Fr [74, 107, 108] [1] σ0 σ0 := Fr_rf
  refine s_X12_pause_0 C hN ?_
  refine k_X12_in m0  (fun r2 σ1 mσ1 cσ1 plσ1 phσ1 (pσ1_0 : (r2.toInt = 1 ∧ (1 : Int) ≤ a1.toInt ∧ a1.toInt ≤ (60 : Int)) ∨ (r2.toInt = 0 ∧ (a1.toInt < (1 : Int) ∨ (60 : Int) < a1.toInt))) => ?_)
  obtain rfl := Fr_nil cσ1
  refine ⟨?_, ?_⟩
  · intro q_1
    have b_2 : ¬ r2.toInt = 0 := fun h9 => q_1 (Int32.toInt_inj.mp h9)
    refine ⟨?_, ?_⟩
    · intro q_3
      have t_4 := MI_f1 m0
      have w_5 := Int32.toInt_lt a1
      have w_6 := Int32.le_toInt a1
      try have t_7 : ((gi σ0 74 1) + a1).toInt = (gi σ0 74 1).toInt + a1.toInt := i_add (x := (gi σ0 74 1)) (y := a1) (by show (_ : Int) ≤ (gi σ0 74 1).toInt + a1.toInt; omega) (by show (gi σ0 74 1).toInt + a1.toInt ≤ (_ : Int); omega)
      have b_8 : ((gi σ0 74 1) + a1).toInt ≤ 9999 := Int32.le_iff_toInt_le.mp q_3
      refine k_X12_goPause m0 (by omega) (by omega) (by first | omega | assumption | rfl) (fun σ5 mσ5 cσ5 (pσ5_0 : (gi σ5 74 1).toInt = (gi σ0 74 1).toInt + a1.toInt) => ?_)
      have fσ5 : Fr [74, 107, 108] [1] σ0 σ5 := Fr_tr f0 cσ5 (by decide) (by decide)
      have t_9 := MI_f1 mσ5
      exact h9ret (gi σ5 74 1) σ5 mσ5 fσ5 (by first | omega | assumption | rfl)
    · intro q_3
      have t_10 := MI_f1 m0
      have w_11 := Int32.toInt_lt a1
      have w_12 := Int32.le_toInt a1
      try have t_13 : ((gi σ0 74 1) + a1).toInt = (gi σ0 74 1).toInt + a1.toInt := i_add (x := (gi σ0 74 1)) (y := a1) (by show (_ : Int) ≤ (gi σ0 74 1).toInt + a1.toInt; omega) (by show (gi σ0 74 1).toInt + a1.toInt ≤ (_ : Int); omega)
      have b_14 : ¬ ((gi σ0 74 1) + a1).toInt ≤ 9999 := fun h9 => q_3 (Int32.le_iff_toInt_le.mpr h9)
      have z_15 : (-3 : Int32).toInt = -3 := rfl
      exact h9ret (-3 : Int32) σ0 m0 f0 (by first | omega | assumption | rfl)
  · intro q_1
    have b_16 : r2.toInt = 0 := congrArg Int32.toInt q_1
    have z_17 : (-2 : Int32).toInt = -2 := rfl
    exact h9ret (-2 : Int32) σ0 m0 f0 (by first | omega | assumption | rfl)
