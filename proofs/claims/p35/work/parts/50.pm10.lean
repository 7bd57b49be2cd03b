set_option maxRecDepth 100000 in
set_option maxHeartbeats 4000000 in
theorem k_X12_fromTheStart {l : Launch} {V : Vx} {a1 : Int32} {σ0 : Sg} {Qk : Int32 → Sg → Prop} (m0 : MI σ0) (l_a1 : 1 ≤ a1.toInt) (u_a1 : a1.toInt ≤ 12) (pre0 : (gi σ0 74 1).toInt ≤ 9999) (h9ret : ∀ (r : Int32) (σ' : Sg), MI σ' → Fr [74, 105, 106, 107, 108, 129, 131, 132, 134, 135, 136, 137] [1, 30, 33] σ0 σ' → ((gi σ' 74 1).toInt = (gi σ0 74 1).toInt) → Qk r σ') : K_X12_fromTheStart l V a1 σ0 Qk := by
  refine e_X12_fromTheStart (fun M hl hV hN C => ?_)
  subst hl
  subst hV
  have T : ∀ n : Nat, (∀ (x1 : Int32) (x2 : Int32) (σ : Sg), MI σ → Fr [74, 105, 106, 107, 108, 129, 131, 132, 134, 135, 136, 137] [1, 30, 33] σ0 σ → (1 ≤ x1.toInt) → (x1.toInt ≤ 12) → (0 ≤ x2.toInt) → (x2.toInt ≤ 6) → ((gi σ 74 1).toInt = (gi σ0 74 1).toInt) → ((gi σ 74 33).toInt = (gi σ0 74 1).toInt) → (7 - x2.toInt).toNat < n → PS M 6 [(0, .ref 74), (1, .int x1), (2, .int x2)] [] σ (0, 0)) := by
    intro n
    induction n with
    | zero => exact fun _ _ _ _ _ _ _ _ _ _ _ h8 => absurd h8 (Nat.not_lt_zero _)
    | succ n ih =>
      have ih6 := ih
      · intro x1 x2 σ mσ fσ lx1 ux1 lx2 ux2 i0 i1 hmu
        refine s_X12_fromTheStart_6 C hN ?_
        refine ⟨?_, ?_⟩
        · intro q_1
          have t_2 := MI_f0 mσ
          have b_3 : (gi σ 74 0).toInt ≤ x2.toInt := Int32.le_iff_toInt_le.mp q_1
          refine k_X12_goMinutes mσ (by omega) (by omega) (by first | omega | assumption | rfl) (fun σ2 mσ2 cσ2 (pσ2_0 : (x1.toInt ≤ 0 ∧ (gi σ2 74 1).toInt = (gi σ 74 1).toInt) ∨ (0 ≤ x1.toInt ∧ (gi σ2 74 1).toInt = (gi σ 74 1).toInt + x1.toInt)) => ?_)
          have fσ2 : Fr [74, 105, 106, 107, 108, 129, 131, 132, 134, 135, 136, 137] [1, 30, 33] σ0 σ2 := Fr_tr fσ cσ2 (by decide) (by decide)
          have k_4 : (gi σ2 74 0).toInt = (gi σ 74 0).toInt := congrArg Int32.toInt (cσ2.2.1 0 (by decide))
          have k_5 : (gi σ2 74 33).toInt = (gi σ 74 33).toInt := congrArg Int32.toInt (cσ2.2.1 33 (by decide))
          refine k_X12_all mσ2  (fun r4 σ3 mσ3 cσ3 plσ3 phσ3 => ?_)
          obtain rfl := Fr_nil cσ3
          refine k_X12_putBack mσ2  (fun σ5 mσ5 cσ5 (pσ5_0 : (gi σ5 74 1).toInt = (gi σ2 74 33).toInt) => ?_)
          have fσ5 : Fr [74, 105, 106, 107, 108, 129, 131, 132, 134, 135, 136, 137] [1, 30, 33] σ0 σ5 := Fr_tr fσ2 cσ5 (by decide) (by decide)
          have k_6 : (gi σ5 74 0).toInt = (gi σ2 74 0).toInt := congrArg Int32.toInt (cσ5.2.1 0 (by decide))
          have k_7 : (gi σ5 74 33).toInt = (gi σ2 74 33).toInt := congrArg Int32.toInt (cσ5.2.1 33 (by decide))
          exact h9ret r4 σ5 mσ5 fσ5 (by first | omega | assumption | rfl)
        · intro q_1
          have t_8 := MI_f0 mσ
          have b_9 : ¬ (gi σ 74 0).toInt ≤ x2.toInt := fun h9 => q_1 (Int32.le_iff_toInt_le.mpr h9)
          have hv_10 : vp_in x2 6 := vp_in_iff.mpr ⟨by omega, by omega⟩
          refine ⟨hv_10, ?_⟩
          intro σ7 eσ7
          have z_11 : (0 : Int32).toInt = 0 := rfl
          have mσ7 : MI σ7 := by rw [eσ7]; exact MIs_a105 mσ (by omega) (by omega)
          have fσ7 : Fr [74, 105, 106, 107, 108, 129, 131, 132, 134, 135, 136, 137] [1, 30, 33] σ0 σ7 := by rw [eσ7]; exact Fr_si fσ (by decide) (fun h9 => absurd h9 (by decide))
          have k_12 : (gi σ7 74 0).toInt = (gi σ 74 0).toInt := by rw [eσ7]; exact congrArg Int32.toInt (gi_si_ne (Or.inl (by decide)))
          have k_13 : (gi σ7 74 1).toInt = (gi σ 74 1).toInt := by rw [eσ7]; exact congrArg Int32.toInt (gi_si_ne (Or.inl (by decide)))
          have k_14 : (gi σ7 74 33).toInt = (gi σ 74 33).toInt := by rw [eσ7]; exact congrArg Int32.toInt (gi_si_ne (Or.inl (by decide)))
          intro v8 ev8
          have t_15 : (x2 + (1 : Int32)).toInt = x2.toInt + 1 := i_add (x := x2) (y := (1 : Int32)) (by show (_ : Int) ≤ x2.toInt + 1; omega) (by show x2.toInt + 1 ≤ (_ : Int); omega)
          have t_16 : v8.toInt = (x2 + (1 : Int32)).toInt := congrArg Int32.toInt ev8
          exact ih6 x1 v8 σ7 mσ7 fσ7 (by omega) (by omega) (by omega) (by omega) (by first | omega | assumption | rfl) (by first | omega | assumption | rfl) (by omega)
  have U6 := T 20
  have f0 : Fr [74, 105, 106, 107, 108, 129, 131, 132, 134, 135, 136, 137] [1, 30, 33] σ0 σ0 := Fr_rf
  refine s_X12_fromTheStart_0 C hN ?_
  refine k_X12_save m0  (fun σ1 mσ1 cσ1 (pσ1_0 : (gi σ1 74 33).toInt = (gi σ0 74 1).toInt) => ?_)
  have fσ1 : Fr [74, 105, 106, 107, 108, 129, 131, 132, 134, 135, 136, 137] [1, 30, 33] σ0 σ1 := Fr_tr f0 cσ1 (by decide) (by decide)
  have k_17 : (gi σ1 74 1).toInt = (gi σ0 74 1).toInt := congrArg Int32.toInt (cσ1.2.1 1 (by decide))
  have z_18 : (0 : Int32).toInt = 0 := rfl
  exact U6 a1 (0 : Int32) σ1 mσ1 fσ1 (by omega) (by omega) (by omega) (by omega) (by first | omega | assumption | rfl) (by first | omega | assumption | rfl) (by omega)
set_option maxRecDepth 100000 in
set_option maxHeartbeats 4000000 in
theorem k_X12_aloneBehind {l : Launch} {V : Vx} {a1 : Int32} {a2 : Int32} {σ0 : Sg} {Qk : Int32 → Sg → Prop} (m0 : MI σ0) (l_a1 : 0 ≤ a1.toInt) (u_a1 : a1.toInt ≤ 5) (l_a2 : 1 ≤ a2.toInt) (u_a2 : a2.toInt ≤ 60) (pre0 : (gi σ0 74 1).toInt ≤ 9999) (h9ret : ∀ (r : Int32) (σ' : Sg), MI σ' → Fr [74, 105, 106, 107, 108, 110, 129, 131, 132, 134, 135, 136, 137, 138] [1, 2, 30, 33] σ0 σ' → ((gi σ' 74 1).toInt = (gi σ0 74 1).toInt) → Qk r σ') : K_X12_aloneBehind l V a1 a2 σ0 Qk := by
  refine e_X12_aloneBehind (fun M hl hV hN C => ?_)
  subst hl
  subst hV
  have T : ∀ n : Nat, (∀ (x1 : Int32) (x2 : Int32) (x3 : Int32) (σ : Sg), MI σ → Fr [74, 105, 106, 107, 108, 110, 129, 131, 132, 134, 135, 136, 137, 138] [1, 2, 30, 33] σ0 σ → (0 ≤ x1.toInt) → (x1.toInt ≤ 5) → (1 ≤ x2.toInt) → (x2.toInt ≤ 60) → (0 ≤ x3.toInt) → (x3.toInt ≤ 6) → ((gi σ 74 1).toInt = (gi σ0 74 1).toInt) → ((gi σ 74 33).toInt = (gi σ0 74 1).toInt) → (7 - x3.toInt).toNat + 20 < n → PS M 6 [(0, .ref 74), (1, .int x1), (2, .int x2), (3, .int x3)] [] σ (0, 0)) ∧ (∀ (x3 : Int32) (x4 : Int32) (σ : Sg), MI σ → Fr [74, 105, 106, 107, 108, 110, 129, 131, 132, 134, 135, 136, 137, 138] [1, 2, 30, 33] σ0 σ → (0 ≤ x4.toInt) → (x4.toInt ≤ 6) → ((gi σ 74 33).toInt = (gi σ0 74 1).toInt) → (7 - x4.toInt).toNat < n → PS M 57 [(0, .ref 74), (3, .int x3), (4, .int x4)] [] σ (0, 0)) := by
    intro n
    induction n with
    | zero => exact ⟨fun _ _ _ _ _ _ _ _ _ _ _ _ _ _ h8 => absurd h8 (Nat.not_lt_zero _), fun _ _ _ _ _ _ _ _ h8 => absurd h8 (Nat.not_lt_zero _)⟩
    | succ n ih =>
      obtain ⟨ih6, ih57⟩ := ih
      refine ⟨?_, ?_⟩
      · intro x1 x2 x3 σ mσ fσ lx1 ux1 lx2 ux2 lx3 ux3 i0 i1 hmu
        refine s_X12_aloneBehind_6 C hN ?_
        refine ⟨?_, ?_⟩
        · intro q_1
          have b_2 : (6 : Int) ≤ x3.toInt := Int32.le_iff_toInt_le.mp q_1
          have z_3 : (0 : Int32).toInt = 0 := rfl
          have hv_4 : vp_in (0 : Int32) 6 := vp_in_iff.mpr ⟨by omega, by omega⟩
          refine ⟨hv_4, ?_⟩
          intro σ3 eσ3
          have mσ3 : MI σ3 := by rw [eσ3]; exact MIs_a110 mσ (by omega) (by omega)
          have fσ3 : Fr [74, 105, 106, 107, 108, 110, 129, 131, 132, 134, 135, 136, 137, 138] [1, 2, 30, 33] σ0 σ3 := by rw [eσ3]; exact Fr_si fσ (by decide) (fun h9 => absurd h9 (by decide))
          have k_5 : (gi σ3 74 1).toInt = (gi σ 74 1).toInt := by rw [eσ3]; exact congrArg Int32.toInt (gi_si_ne (Or.inl (by decide)))
          have k_6 : (gi σ3 74 33).toInt = (gi σ 74 33).toInt := by rw [eσ3]; exact congrArg Int32.toInt (gi_si_ne (Or.inl (by decide)))
          intro σ4 eσ4
          have z_7 : (1 : Int32).toInt = 1 := rfl
          have mσ4 : MI σ4 := by rw [eσ4]; exact MIs_f2 mσ3 (by omega) (by omega)
          have fσ4 : Fr [74, 105, 106, 107, 108, 110, 129, 131, 132, 134, 135, 136, 137, 138] [1, 2, 30, 33] σ0 σ4 := by rw [eσ4]; exact Fr_si fσ3 (by decide) (fun _ => by decide)
          have k_8 : (gi σ4 74 1).toInt = (gi σ3 74 1).toInt := by rw [eσ4]; exact congrArg Int32.toInt (gi_si_ne (Or.inr (by decide)))
          have k_9 : (gi σ4 74 33).toInt = (gi σ3 74 33).toInt := by rw [eσ4]; exact congrArg Int32.toInt (gi_si_ne (Or.inr (by decide)))
          refine k_X12_goMinutes mσ4 (by omega) (by omega) (by first | omega | assumption | rfl) (fun σ5 mσ5 cσ5 (pσ5_0 : (x2.toInt ≤ 0 ∧ (gi σ5 74 1).toInt = (gi σ4 74 1).toInt) ∨ (0 ≤ x2.toInt ∧ (gi σ5 74 1).toInt = (gi σ4 74 1).toInt + x2.toInt)) => ?_)
          have fσ5 : Fr [74, 105, 106, 107, 108, 110, 129, 131, 132, 134, 135, 136, 137, 138] [1, 2, 30, 33] σ0 σ5 := Fr_tr fσ4 cσ5 (by decide) (by decide)
          have k_10 : (gi σ5 74 33).toInt = (gi σ4 74 33).toInt := congrArg Int32.toInt (cσ5.2.1 33 (by decide))
          have hv_11 : vp_in x1 6 := vp_in_iff.mpr ⟨by omega, by omega⟩
          refine ⟨hv_11, ?_⟩
          intro v7 ev7
          have t_12 := MI_a105 mσ5 hv_11
          have t_13 : v7.toInt = (gi σ5 105 x1.toNatClampNeg).toInt := congrArg Int32.toInt ev7
          exact ih57 v7 (0 : Int32) σ5 mσ5 fσ5 (by omega) (by omega) (by first | omega | assumption | rfl) (by omega)
        · intro q_1
          have b_14 : ¬ (6 : Int) ≤ x3.toInt := fun h9 => q_1 (Int32.le_iff_toInt_le.mpr h9)
          have hv_15 : vp_in x3 6 := vp_in_iff.mpr ⟨by omega, by omega⟩
          refine ⟨hv_15, ?_⟩
          refine ⟨hv_15, ?_⟩
          intro σ10 eσ10
          have t_16 := MI_a110 mσ hv_15
          have mσ10 : MI σ10 := by rw [eσ10]; exact MIs_a138 mσ (by omega) (by omega)
          have fσ10 : Fr [74, 105, 106, 107, 108, 110, 129, 131, 132, 134, 135, 136, 137, 138] [1, 2, 30, 33] σ0 σ10 := by rw [eσ10]; exact Fr_si fσ (by decide) (fun h9 => absurd h9 (by decide))
          have k_17 : (gi σ10 74 1).toInt = (gi σ 74 1).toInt := by rw [eσ10]; exact congrArg Int32.toInt (gi_si_ne (Or.inl (by decide)))
          have k_18 : (gi σ10 74 33).toInt = (gi σ 74 33).toInt := by rw [eσ10]; exact congrArg Int32.toInt (gi_si_ne (Or.inl (by decide)))
          intro v11 ev11
          have t_19 : (x3 + (1 : Int32)).toInt = x3.toInt + 1 := i_add (x := x3) (y := (1 : Int32)) (by show (_ : Int) ≤ x3.toInt + 1; omega) (by show x3.toInt + 1 ≤ (_ : Int); omega)
          have t_20 : v11.toInt = (x3 + (1 : Int32)).toInt := congrArg Int32.toInt ev11
          exact ih6 x1 x2 v11 σ10 mσ10 fσ10 (by omega) (by omega) (by omega) (by omega) (by omega) (by omega) (by first | omega | assumption | rfl) (by first | omega | assumption | rfl) (by omega)
      · intro x3 x4 σ mσ fσ lx4 ux4 i0 hmu
        refine s_X12_aloneBehind_57 C hN ?_
        refine ⟨?_, ?_⟩
        · intro q_21
          have b_22 : (6 : Int) ≤ x4.toInt := Int32.le_iff_toInt_le.mp q_21
          intro σ2 eσ2
          have t_23 := MI_f0 mσ
          have mσ2 : MI σ2 := by rw [eσ2]; exact MIs_f2 mσ (by omega) (by omega)
          have fσ2 : Fr [74, 105, 106, 107, 108, 110, 129, 131, 132, 134, 135, 136, 137, 138] [1, 2, 30, 33] σ0 σ2 := by rw [eσ2]; exact Fr_si fσ (by decide) (fun _ => by decide)
          have k_24 : (gi σ2 74 0).toInt = (gi σ 74 0).toInt := by rw [eσ2]; exact congrArg Int32.toInt (gi_si_ne (Or.inr (by decide)))
          have k_25 : (gi σ2 74 1).toInt = (gi σ 74 1).toInt := by rw [eσ2]; exact congrArg Int32.toInt (gi_si_ne (Or.inr (by decide)))
          have k_26 : (gi σ2 74 33).toInt = (gi σ 74 33).toInt := by rw [eσ2]; exact congrArg Int32.toInt (gi_si_ne (Or.inr (by decide)))
          refine k_X12_putBack mσ2  (fun σ3 mσ3 cσ3 (pσ3_0 : (gi σ3 74 1).toInt = (gi σ2 74 33).toInt) => ?_)
          have fσ3 : Fr [74, 105, 106, 107, 108, 110, 129, 131, 132, 134, 135, 136, 137, 138] [1, 2, 30, 33] σ0 σ3 := Fr_tr fσ2 cσ3 (by decide) (by decide)
          have k_27 : (gi σ3 74 0).toInt = (gi σ2 74 0).toInt := congrArg Int32.toInt (cσ3.2.1 0 (by decide))
          have k_28 : (gi σ3 74 33).toInt = (gi σ2 74 33).toInt := congrArg Int32.toInt (cσ3.2.1 33 (by decide))
          exact h9ret x3 σ3 mσ3 fσ3 (by first | omega | assumption | rfl)
        · intro q_21
          have b_29 : ¬ (6 : Int) ≤ x4.toInt := fun h9 => q_21 (Int32.le_iff_toInt_le.mpr h9)
          have hv_30 : vp_in x4 6 := vp_in_iff.mpr ⟨by omega, by omega⟩
          refine ⟨hv_30, ?_⟩
          refine ⟨hv_30, ?_⟩
          intro σ6 eσ6
          have t_31 := MI_a138 mσ hv_30
          have mσ6 : MI σ6 := by rw [eσ6]; exact MIs_a110 mσ (by omega) (by omega)
          have fσ6 : Fr [74, 105, 106, 107, 108, 110, 129, 131, 132, 134, 135, 136, 137, 138] [1, 2, 30, 33] σ0 σ6 := by rw [eσ6]; exact Fr_si fσ (by decide) (fun h9 => absurd h9 (by decide))
          have k_32 : (gi σ6 74 1).toInt = (gi σ 74 1).toInt := by rw [eσ6]; exact congrArg Int32.toInt (gi_si_ne (Or.inl (by decide)))
          have k_33 : (gi σ6 74 33).toInt = (gi σ 74 33).toInt := by rw [eσ6]; exact congrArg Int32.toInt (gi_si_ne (Or.inl (by decide)))
          intro v7 ev7
          have t_34 : (x4 + (1 : Int32)).toInt = x4.toInt + 1 := i_add (x := x4) (y := (1 : Int32)) (by show (_ : Int) ≤ x4.toInt + 1; omega) (by show x4.toInt + 1 ≤ (_ : Int); omega)
          have t_35 : v7.toInt = (x4 + (1 : Int32)).toInt := congrArg Int32.toInt ev7
          exact ih57 x3 v7 σ6 mσ6 fσ6 (by omega) (by omega) (by first | omega | assumption | rfl) (by omega)
  obtain ⟨U6, U57⟩ := T 60
  have f0 : Fr [74, 105, 106, 107, 108, 110, 129, 131, 132, 134, 135, 136, 137, 138] [1, 2, 30, 33] σ0 σ0 := Fr_rf
  refine s_X12_aloneBehind_0 C hN ?_
  refine k_X12_save m0  (fun σ1 mσ1 cσ1 (pσ1_0 : (gi σ1 74 33).toInt = (gi σ0 74 1).toInt) => ?_)
  have fσ1 : Fr [74, 105, 106, 107, 108, 110, 129, 131, 132, 134, 135, 136, 137, 138] [1, 2, 30, 33] σ0 σ1 := Fr_tr f0 cσ1 (by decide) (by decide)
  have k_36 : (gi σ1 74 1).toInt = (gi σ0 74 1).toInt := congrArg Int32.toInt (cσ1.2.1 1 (by decide))
  have z_37 : (0 : Int32).toInt = 0 := rfl
  exact U6 a1 a2 (0 : Int32) σ1 mσ1 fσ1 (by omega) (by omega) (by omega) (by omega) (by omega) (by omega) (by first | omega | assumption | rfl) (by first | omega | assumption | rfl) (by omega)
set_option maxRecDepth 100000 in
set_option maxHeartbeats 4000000 in
theorem k_X12_alone {l : Launch} {V : Vx} {a1 : Int32} {σ0 : Sg} {Qk : Int32 → Sg → Prop} (m0 : MI σ0) (pre0 : (gi σ0 74 1).toInt ≤ 9999) (h9ret : ∀ (r : Int32) (σ' : Sg), MI σ' → Fr [74, 105, 106, 107, 108, 110, 129, 131, 132, 134, 135, 136, 137, 138] [1, 2, 30, 33] σ0 σ' → ((gi σ' 74 1).toInt = (gi σ0 74 1).toInt) → Qk r σ') : K_X12_alone l V a1 σ0 Qk := by
  refine e_X12_alone (fun M hl hV hN C => ?_)
  subst hl
  subst hV
  have T : ∀ n : Nat, (∀ (x1 : Int32) (x2 : Int32) (x3 : Int32) (σ : Sg), MI σ → Fr [74, 105, 106, 107, 108, 110, 129, 131, 132, 134, 135, 136, 137, 138] [1, 2, 30, 33] σ0 σ → (1 ≤ x1.toInt) → (x1.toInt ≤ 60) → (0 ≤ x3.toInt) → (x3.toInt ≤ 6) → ((gi σ 74 1).toInt = (gi σ0 74 1).toInt) → (7 - x3.toInt).toNat < n → PS M 23 [(0, .ref 74), (1, .int x1), (2, .int x2), (3, .int x3)] [] σ (0, 0)) := by
    intro n
    induction n with
    | zero => exact fun _ _ _ _ _ _ _ _ _ _ _ h8 => absurd h8 (Nat.not_lt_zero _)
    | succ n ih =>
      have ih23 := ih
      · intro x1 x2 x3 σ mσ fσ lx1 ux1 lx3 ux3 i0 hmu
        refine s_X12_alone_23 C hN ?_
        refine ⟨?_, ?_⟩
        · intro q_1
          have t_2 := MI_f0 mσ
          have b_3 : (gi σ 74 0).toInt ≤ x3.toInt := Int32.le_iff_toInt_le.mp q_1
          exact h9ret x2 σ mσ fσ (by first | omega | assumption | rfl)
        · intro q_1
          have t_4 := MI_f0 mσ
          have b_5 : ¬ (gi σ 74 0).toInt ≤ x3.toInt := fun h9 => q_1 (Int32.le_iff_toInt_le.mpr h9)
          refine k_X12_aloneBehind mσ (by omega) (by omega) (by omega) (by omega) (by first | omega | assumption | rfl) (fun r3 σ2 mσ2 cσ2 (pσ2_0 : (gi σ2 74 1).toInt = (gi σ 74 1).toInt) => ?_)
          have fσ2 : Fr [74, 105, 106, 107, 108, 110, 129, 131, 132, 134, 135, 136, 137, 138] [1, 2, 30, 33] σ0 σ2 := Fr_tr fσ cσ2 (by decide) (by decide)
          have k_6 : (gi σ2 74 0).toInt = (gi σ 74 0).toInt := congrArg Int32.toInt (cσ2.2.1 0 (by decide))
          intro v4 ev4
          intro v5 ev5
          have t_7 : (x3 + (1 : Int32)).toInt = x3.toInt + 1 := i_add (x := x3) (y := (1 : Int32)) (by show (_ : Int) ≤ x3.toInt + 1; omega) (by show x3.toInt + 1 ≤ (_ : Int); omega)
          have t_8 : v5.toInt = (x3 + (1 : Int32)).toInt := congrArg Int32.toInt ev5
          exact ih23 x1 v4 v5 σ2 mσ2 fσ2 (by omega) (by omega) (by omega) (by omega) (by first | omega | assumption | rfl) (by omega)
  have U23 := T 20
  have f0 : Fr [74, 105, 106, 107, 108, 110, 129, 131, 132, 134, 135, 136, 137, 138] [1, 2, 30, 33] σ0 σ0 := Fr_rf
  refine s_X12_alone_0 C hN ?_
  refine k_X12_in m0  (fun r2 σ1 mσ1 cσ1 plσ1 phσ1 (pσ1_0 : (r2.toInt = 1 ∧ (1 : Int) ≤ a1.toInt ∧ a1.toInt ≤ (60 : Int)) ∨ (r2.toInt = 0 ∧ (a1.toInt < (1 : Int) ∨ (60 : Int) < a1.toInt))) => ?_)
  obtain rfl := Fr_nil cσ1
  refine ⟨?_, ?_⟩
  · intro q_9
    have b_10 : ¬ r2.toInt = 0 := fun h9 => q_9 (Int32.toInt_inj.mp h9)
    refine k_X12_allBehind m0 (by omega) (by omega) (by first | omega | assumption | rfl) (fun r5 σ4 mσ4 cσ4 plσ4 phσ4 (pσ4_0 : (gi σ4 74 1).toInt = (gi σ0 74 1).toInt) => ?_)
    have fσ4 : Fr [74, 105, 106, 107, 108, 110, 129, 131, 132, 134, 135, 136, 137, 138] [1, 2, 30, 33] σ0 σ4 := Fr_tr f0 cσ4 (by decide) (by decide)
    have z_11 : (0 : Int32).toInt = 0 := rfl
    exact U23 a1 r5 (0 : Int32) σ4 mσ4 fσ4 (by omega) (by omega) (by omega) (by omega) (by first | omega | assumption | rfl) (by omega)
  · intro q_9
    have b_12 : r2.toInt = 0 := congrArg Int32.toInt q_9
    have z_13 : (-100002 : Int32).toInt = -100002 := rfl
    exact h9ret (-100002 : Int32) σ0 m0 f0 (by first | omega | assumption | rfl)
