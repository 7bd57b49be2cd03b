set_option maxRecDepth 100000 in
set_option maxHeartbeats 4000000 in
theorem kF_X12_save {l : Launch} {V : Vx} {σ0 : Sg} {Qk : Sg → Prop} (m0 : MI σ0) (h9ret : ∀ (σ' : Sg), MI σ' → Fr [74, 132, 134, 135, 136, 137] [33] σ0 σ' → ((gi σ' 74 33).toInt = (gi σ0 74 1).toInt) → (F_X12_save σ0 = σ') → Qk σ') : K_X12_save l V σ0 Qk := by
  refine e_X12_save (fun M hl hV hN C => ?_)
  subst hl
  subst hV
  obtain ⟨R9, H0⟩ : ∃ R9, F_X12_save σ0 = R9 := ⟨_, rfl⟩
  have T : ∀ n : Nat, (∀ (x1 : Int32) (σ : Sg), MI σ → Fr [74, 132, 134, 135, 136, 137] [33] σ0 σ → (0 ≤ x1.toInt) → (x1.toInt ≤ 6) → ((gi σ 74 33).toInt = (gi σ0 74 1).toInt) → (LF_X12_save n x1 σ = R9) → (7 - x1.toInt).toNat < n → PS M 10 [(0, .ref 74), (1, .int x1)] [] σ (0, 0)) := by
    intro n
    induction n with
    | zero => exact fun _ _ _ _ _ _ _ _ h8 => absurd h8 (Nat.not_lt_zero _)
    | succ n ih =>
      have ih10 := ih
      · intro x1 σ mσ fσ lx1 ux1 i0 H hmu
        replace H : LB_X12_save_10 (LF_X12_save n) x1 σ = R9 := H
        unfold LB_X12_save_10 at H
        refine s_X12_save_10 C hN ?_
        refine ⟨?_, ?_⟩
        · intro q_1
          replace H := f_t q_1 H
          have b_2 : (6 : Int) ≤ x1.toInt := Int32.le_iff_toInt_le.mp q_1
          exact h9ret σ mσ fσ (by first | with_reducible assumption | with_reducible rfl | omega | assumption | rfl) (H0.trans H.symm)
        · intro q_1
          replace H := f_f q_1 H
          have b_3 : ¬ (6 : Int) ≤ x1.toInt := fun h9 => q_1 (Int32.le_iff_toInt_le.mpr h9)
          have hv_4 : vp_in x1 6 := vp_in_iff.mpr ⟨by omega, by omega⟩
          refine ⟨hv_4, ?_⟩
          refine ⟨hv_4, ?_⟩
          intro σ4 eσ4
          replace H := f_l eσ4 H
          have t_5 := MI_a105 mσ hv_4
          have mσ4 : MI σ4 := by rw [eσ4]; exact MIs_a134 mσ (by omega) (by omega)
          have fσ4 : Fr [74, 132, 134, 135, 136, 137] [33] σ0 σ4 := by rw [eσ4]; exact Fr_si fσ (by decide +kernel) (fun h9 => absurd h9 (by decide +kernel))
          have k_6 : (gi σ4 74 1).toInt = (gi σ 74 1).toInt := gk_l eσ4 rfl
          have k_7 : (gi σ4 74 33).toInt = (gi σ 74 33).toInt := gk_l eσ4 rfl
          refine ⟨hv_4, ?_⟩
          refine ⟨hv_4, ?_⟩
          intro σ7 eσ7
          replace H := f_l eσ7 H
          have mσ7 : MI σ7 := by rw [eσ7]; exact MIs_au (a := 135) mσ4 rfl rfl
          have fσ7 : Fr [74, 132, 134, 135, 136, 137] [33] σ0 σ7 := by rw [eσ7]; exact Fr_si fσ4 (by decide +kernel) (fun h9 => absurd h9 (by decide +kernel))
          have k_8 : (gi σ7 74 1).toInt = (gi σ4 74 1).toInt := gk_l eσ7 rfl
          have k_9 : (gi σ7 74 33).toInt = (gi σ4 74 33).toInt := gk_l eσ7 rfl
          refine ⟨hv_4, ?_⟩
          refine ⟨hv_4, ?_⟩
          intro σ10 eσ10
          replace H := f_l eσ10 H
          have mσ10 : MI σ10 := by rw [eσ10]; exact MIs_au (a := 136) mσ7 rfl rfl
          have fσ10 : Fr [74, 132, 134, 135, 136, 137] [33] σ0 σ10 := by rw [eσ10]; exact Fr_si fσ7 (by decide +kernel) (fun h9 => absurd h9 (by decide +kernel))
          have k_10 : (gi σ10 74 1).toInt = (gi σ7 74 1).toInt := gk_l eσ10 rfl
          have k_11 : (gi σ10 74 33).toInt = (gi σ7 74 33).toInt := gk_l eσ10 rfl
          refine ⟨hv_4, ?_⟩
          refine ⟨hv_4, ?_⟩
          intro σ13 eσ13
          replace H := f_l eσ13 H
          have mσ13 : MI σ13 := by rw [eσ13]; exact MIs_au (a := 137) mσ10 rfl rfl
          have fσ13 : Fr [74, 132, 134, 135, 136, 137] [33] σ0 σ13 := by rw [eσ13]; exact Fr_si fσ10 (by decide +kernel) (fun h9 => absurd h9 (by decide +kernel))
          have k_12 : (gi σ13 74 1).toInt = (gi σ10 74 1).toInt := gk_l eσ13 rfl
          have k_13 : (gi σ13 74 33).toInt = (gi σ10 74 33).toInt := gk_l eσ13 rfl
          refine ⟨hv_4, ?_⟩
          intro σ15 eσ15
          replace H := f_l eσ15 H
          have mσ15 : MI σ15 := by rw [eσ15]; exact MIs_au (a := 132) mσ13 rfl rfl
          have fσ15 : Fr [74, 132, 134, 135, 136, 137] [33] σ0 σ15 := by rw [eσ15]; exact Fr_si fσ13 (by decide +kernel) (fun h9 => absurd h9 (by decide +kernel))
          have k_14 : (gi σ15 74 1).toInt = (gi σ13 74 1).toInt := gk_l eσ15 rfl
          have k_15 : (gi σ15 74 33).toInt = (gi σ13 74 33).toInt := gk_l eσ15 rfl
          intro v16 ev16
          replace H := f_l ev16 H
          have t_16 : (x1 + (1 : Int32)).toInt = x1.toInt + 1 := i_add (x := x1) (y := (1 : Int32)) (by show (_ : Int) ≤ x1.toInt + 1; omega) (by show x1.toInt + 1 ≤ (_ : Int); omega)
          have t_17 : v16.toInt = (x1 + (1 : Int32)).toInt := congrArg Int32.toInt ev16
          exact ih10 v16 σ15 mσ15 fσ15 (by omega) (by omega) (by first | with_reducible assumption | with_reducible rfl | omega | assumption | rfl) H (by omega)
  have U10 := T 9
  have f0 : Fr [74, 132, 134, 135, 136, 137] [33] σ0 σ0 := Fr_rf
  have H := H0
  unfold F_X12_save at H
  refine s_X12_save_0 C hN ?_
  intro σ1 eσ1
  replace H := f_l eσ1 H
  have t_18 := MI_f1 m0
  have mσ1 : MI σ1 := by rw [eσ1]; exact MIs_f33 m0 (by omega) (by omega)
  have fσ1 : Fr [74, 132, 134, 135, 136, 137] [33] σ0 σ1 := by rw [eσ1]; exact Fr_si f0 (by decide +kernel) (fun _ => by decide +kernel)
  have k_19 : (gi σ1 74 1).toInt = (gi σ0 74 1).toInt := gk_r eσ1 rfl
  have k_20 : (gi σ1 74 33).toInt = (gi σ0 74 1).toInt := by rw [eσ1]; exact congrArg Int32.toInt gi_si_eq
  have z_21 : (0 : Int32).toInt = 0 := rfl
  exact U10 (0 : Int32) σ1 mσ1 fσ1 (by omega) (by omega) (by first | with_reducible assumption | with_reducible rfl | omega | assumption | rfl) H (by omega)
set_option maxRecDepth 100000 in
set_option maxHeartbeats 4000000 in
theorem kF_X12_putBack {l : Launch} {V : Vx} {σ0 : Sg} {Qk : Sg → Prop} (m0 : MI σ0) (h9ret : ∀ (σ' : Sg), MI σ' → Fr [74, 105, 106, 107, 108] [1] σ0 σ' → ((gi σ' 74 1).toInt = (gi σ0 74 33).toInt) → (F_X12_putBack σ0 = σ') → Qk σ') : K_X12_putBack l V σ0 Qk := by
  refine e_X12_putBack (fun M hl hV hN C => ?_)
  subst hl
  subst hV
  obtain ⟨R9, H0⟩ : ∃ R9, F_X12_putBack σ0 = R9 := ⟨_, rfl⟩
  have T : ∀ n : Nat, (∀ (x1 : Int32) (σ : Sg), MI σ → Fr [74, 105, 106, 107, 108] [1] σ0 σ → (0 ≤ x1.toInt) → (x1.toInt ≤ 6) → ((gi σ 74 1).toInt = (gi σ0 74 33).toInt) → (LF_X12_putBack n x1 σ = R9) → (7 - x1.toInt).toNat < n → PS M 10 [(0, .ref 74), (1, .int x1)] [] σ (0, 0)) := by
    intro n
    induction n with
    | zero => exact fun _ _ _ _ _ _ _ _ h8 => absurd h8 (Nat.not_lt_zero _)
    | succ n ih =>
      have ih10 := ih
      · intro x1 σ mσ fσ lx1 ux1 i0 H hmu
        replace H : LB_X12_putBack_10 (LF_X12_putBack n) x1 σ = R9 := H
        unfold LB_X12_putBack_10 at H
        refine s_X12_putBack_10 C hN ?_
        refine ⟨?_, ?_⟩
        · intro q_1
          replace H := f_t q_1 H
          have b_2 : (6 : Int) ≤ x1.toInt := Int32.le_iff_toInt_le.mp q_1
          exact h9ret σ mσ fσ (by first | with_reducible assumption | with_reducible rfl | omega | assumption | rfl) (H0.trans H.symm)
        · intro q_1
          replace H := f_f q_1 H
          have b_3 : ¬ (6 : Int) ≤ x1.toInt := fun h9 => q_1 (Int32.le_iff_toInt_le.mpr h9)
          have hv_4 : vp_in x1 6 := vp_in_iff.mpr ⟨by omega, by omega⟩
          refine ⟨hv_4, ?_⟩
          refine ⟨hv_4, ?_⟩
          intro σ4 eσ4
          replace H := f_l eσ4 H
          have t_5 := MI_a134 mσ hv_4
          have mσ4 : MI σ4 := by rw [eσ4]; exact MIs_a105 mσ (by omega) (by omega)
          have fσ4 : Fr [74, 105, 106, 107, 108] [1] σ0 σ4 := by rw [eσ4]; exact Fr_si fσ (by decide +kernel) (fun h9 => absurd h9 (by decide +kernel))
          have k_6 : (gi σ4 74 1).toInt = (gi σ 74 1).toInt := gk_l eσ4 rfl
          have k_7 : (gi σ4 74 33).toInt = (gi σ 74 33).toInt := gk_l eσ4 rfl
          refine ⟨hv_4, ?_⟩
          refine ⟨hv_4, ?_⟩
          intro σ7 eσ7
          replace H := f_l eσ7 H
          have mσ7 : MI σ7 := by rw [eσ7]; exact MIs_au (a := 106) mσ4 rfl rfl
          have fσ7 : Fr [74, 105, 106, 107, 108] [1] σ0 σ7 := by rw [eσ7]; exact Fr_si fσ4 (by decide +kernel) (fun h9 => absurd h9 (by decide +kernel))
          have k_8 : (gi σ7 74 1).toInt = (gi σ4 74 1).toInt := gk_l eσ7 rfl
          have k_9 : (gi σ7 74 33).toInt = (gi σ4 74 33).toInt := gk_l eσ7 rfl
          refine ⟨hv_4, ?_⟩
          refine ⟨hv_4, ?_⟩
          intro σ10 eσ10
          replace H := f_l eσ10 H
          have mσ10 : MI σ10 := by rw [eσ10]; exact MIs_au (a := 107) mσ7 rfl rfl
          have fσ10 : Fr [74, 105, 106, 107, 108] [1] σ0 σ10 := by rw [eσ10]; exact Fr_si fσ7 (by decide +kernel) (fun h9 => absurd h9 (by decide +kernel))
          have k_10 : (gi σ10 74 1).toInt = (gi σ7 74 1).toInt := gk_l eσ10 rfl
          have k_11 : (gi σ10 74 33).toInt = (gi σ7 74 33).toInt := gk_l eσ10 rfl
          refine ⟨hv_4, ?_⟩
          refine ⟨hv_4, ?_⟩
          intro σ13 eσ13
          replace H := f_l eσ13 H
          have mσ13 : MI σ13 := by rw [eσ13]; exact MIs_au (a := 108) mσ10 rfl rfl
          have fσ13 : Fr [74, 105, 106, 107, 108] [1] σ0 σ13 := by rw [eσ13]; exact Fr_si fσ10 (by decide +kernel) (fun h9 => absurd h9 (by decide +kernel))
          have k_12 : (gi σ13 74 1).toInt = (gi σ10 74 1).toInt := gk_l eσ13 rfl
          have k_13 : (gi σ13 74 33).toInt = (gi σ10 74 33).toInt := gk_l eσ13 rfl
          intro v14 ev14
          replace H := f_l ev14 H
          have t_14 : (x1 + (1 : Int32)).toInt = x1.toInt + 1 := i_add (x := x1) (y := (1 : Int32)) (by show (_ : Int) ≤ x1.toInt + 1; omega) (by show x1.toInt + 1 ≤ (_ : Int); omega)
          have t_15 : v14.toInt = (x1 + (1 : Int32)).toInt := congrArg Int32.toInt ev14
          exact ih10 v14 σ13 mσ13 fσ13 (by omega) (by omega) (by first | with_reducible assumption | with_reducible rfl | omega | assumption | rfl) H (by omega)
  have U10 := T 9
  have f0 : Fr [74, 105, 106, 107, 108] [1] σ0 σ0 := Fr_rf
  have H := H0
  unfold F_X12_putBack at H
  refine s_X12_putBack_0 C hN ?_
  intro σ1 eσ1
  replace H := f_l eσ1 H
  have t_16 := MI_f33 m0
  have mσ1 : MI σ1 := by rw [eσ1]; exact MIs_f1 m0 (by omega) (by omega)
  have fσ1 : Fr [74, 105, 106, 107, 108] [1] σ0 σ1 := by rw [eσ1]; exact Fr_si f0 (by decide +kernel) (fun _ => by decide +kernel)
  have k_17 : (gi σ1 74 1).toInt = (gi σ0 74 33).toInt := by rw [eσ1]; exact congrArg Int32.toInt gi_si_eq
  have k_18 : (gi σ1 74 33).toInt = (gi σ0 74 33).toInt := gk_r eσ1 rfl
  have z_19 : (0 : Int32).toInt = 0 := rfl
  exact U10 (0 : Int32) σ1 mσ1 fσ1 (by omega) (by omega) (by first | with_reducible assumption | with_reducible rfl | omega | assumption | rfl) H (by omega)
set_option maxRecDepth 100000 in
set_option maxHeartbeats 4000000 in
theorem kF_X12_all {l : Launch} {V : Vx} {σ0 : Sg} {Qk : Int32 → Sg → Prop} (m0 : MI σ0) (h9ret : ∀ (r : Int32) (σ' : Sg), MI σ' → Fr [] [] σ0 σ' → (0 ≤ r.toInt) → (r.toInt ≤ 59994) → (F_X12_all σ0 = (r, σ')) → Qk r σ') : K_X12_all l V σ0 Qk := by
  refine e_X12_all (fun M hl hV hN C => ?_)
  subst hl
  subst hV
  obtain ⟨R9, H0⟩ : ∃ R9, F_X12_all σ0 = R9 := ⟨_, rfl⟩
  have T : ∀ n : Nat, (∀ (x1 : Int32) (x2 : Int32) (σ : Sg), MI σ → Fr [] [] σ0 σ → (0 ≤ x1.toInt) → (x1.toInt ≤ 59994) → (0 ≤ x2.toInt) → (x2.toInt ≤ 6) → (x1.toInt ≤ 9999 * x2.toInt) → (LF_X12_all n x1 x2 σ = R9) → (7 - x2.toInt).toNat < n → PS M 4 [(0, .ref 74), (1, .int x1), (2, .int x2)] [] σ (0, 0)) := by
    intro n
    induction n with
    | zero => exact fun _ _ _ _ _ _ _ _ _ _ _ h8 => absurd h8 (Nat.not_lt_zero _)
    | succ n ih =>
      have ih4 := ih
      · intro x1 x2 σ mσ fσ lx1 ux1 lx2 ux2 i0 H hmu
        replace H : LB_X12_all_4 (LF_X12_all n) x1 x2 σ = R9 := H
        unfold LB_X12_all_4 at H
        refine s_X12_all_4 C hN ?_
        refine ⟨?_, ?_⟩
        · intro q_1
          replace H := f_t q_1 H
          have t_2 := MI_f0 mσ
          have b_3 : (gi σ 74 0).toInt ≤ x2.toInt := Int32.le_iff_toInt_le.mp q_1
          exact h9ret x1 σ mσ fσ (by omega) (by omega) (H0.trans H.symm)
        · intro q_1
          replace H := f_f q_1 H
          have t_4 := MI_f0 mσ
          have b_5 : ¬ (gi σ 74 0).toInt ≤ x2.toInt := fun h9 => q_1 (Int32.le_iff_toInt_le.mpr h9)
          have hv_6 : vp_in x2 6 := vp_in_iff.mpr ⟨by omega, by omega⟩
          refine ⟨hv_6, ?_⟩
          intro v3 ev3
          replace H := f_l ev3 H
          have t_7 := MI_a105 mσ hv_6
          have t_8 : (x1 + (gi σ 105 x2.toNatClampNeg)).toInt = x1.toInt + (gi σ 105 x2.toNatClampNeg).toInt := i_add (x := x1) (y := (gi σ 105 x2.toNatClampNeg)) (by show (_ : Int) ≤ x1.toInt + (gi σ 105 x2.toNatClampNeg).toInt; omega) (by show x1.toInt + (gi σ 105 x2.toNatClampNeg).toInt ≤ (_ : Int); omega)
          have t_9 : v3.toInt = (x1 + (gi σ 105 x2.toNatClampNeg)).toInt := congrArg Int32.toInt ev3
          intro v4 ev4
          replace H := f_l ev4 H
          have t_10 : (x2 + (1 : Int32)).toInt = x2.toInt + 1 := i_add (x := x2) (y := (1 : Int32)) (by show (_ : Int) ≤ x2.toInt + 1; omega) (by show x2.toInt + 1 ≤ (_ : Int); omega)
          have t_11 : v4.toInt = (x2 + (1 : Int32)).toInt := congrArg Int32.toInt ev4
          exact ih4 v3 v4 σ mσ fσ (by omega) (by omega) (by omega) (by omega) (by first | with_reducible assumption | with_reducible rfl | omega | assumption | rfl) H (by omega)
  have U4 := T 9
  have f0 : Fr [] [] σ0 σ0 := Fr_rf
  have H := H0
  unfold F_X12_all at H
  refine s_X12_all_0 C hN ?_
  have z_12 : (0 : Int32).toInt = 0 := rfl
  exact U4 (0 : Int32) (0 : Int32) σ0 m0 f0 (by omega) (by omega) (by omega) (by omega) (by first | with_reducible assumption | with_reducible rfl | omega | assumption | rfl) H (by omega)
set_option maxRecDepth 100000 in
set_option maxHeartbeats 4000000 in
theorem kF_X12_hasty {l : Launch} {V : Vx} {a1 : Int32} {a2 : Int32} {σ0 : Sg} {Qk : Int32 → Sg → Prop} (m0 : MI σ0) (l_a1 : 0 ≤ a1.toInt) (u_a1 : a1.toInt ≤ 5) (h9ret : ∀ (r : Int32) (σ' : Sg), MI σ' → Fr [] [] σ0 σ' → (F_X12_hasty a1 a2 σ0 = (r, σ')) → Qk r σ') : K_X12_hasty l V a1 a2 σ0 Qk := by
  refine e_X12_hasty (fun M hl hV hN C => ?_)
  subst hl
  subst hV
  obtain ⟨R9, H0⟩ : ∃ R9, F_X12_hasty a1 a2 σ0 = R9 := ⟨_, rfl⟩
  have f0 : Fr [] [] σ0 σ0 := Fr_rf
  have H := H0
  unfold F_X12_hasty at H
  refine s_X12_hasty_0 C hN ?_
  have hv_1 : vp_in a1 6 := vp_in_iff.mpr ⟨by omega, by omega⟩
  refine ⟨hv_1, ?_⟩
  refine ⟨?_, ?_⟩
  · intro q_2
    replace H := f_t q_2 H
    have b_3 : (gi σ0 106 a1.toNatClampNeg).toInt ≤ 5 := Int32.le_iff_toInt_le.mp q_2
    exact h9ret a2 σ0 m0 f0 (H0.trans H.symm)
  · intro q_2
    replace H := f_f q_2 H
    have b_4 : ¬ (gi σ0 106 a1.toNatClampNeg).toInt ≤ 5 := fun h9 => q_2 (Int32.le_iff_toInt_le.mpr h9)
    refine ⟨hv_1, ?_⟩
    exact h9ret (a2 + (gi σ0 104 a1.toNatClampNeg)) σ0 m0 f0 (H0.trans H.symm)
set_option maxRecDepth 100000 in
set_option maxHeartbeats 4000000 in
theorem kF_X12_isPressed {l : Launch} {V : Vx} {a1 : Int32} {σ0 : Sg} {Qk : Int32 → Sg → Prop} (m0 : MI σ0) (l_a1 : 0 ≤ a1.toInt) (u_a1 : a1.toInt ≤ 5) (h9ret : ∀ (r : Int32) (σ' : Sg), MI σ' → Fr [] [] σ0 σ' → (0 ≤ r.toInt) → (r.toInt ≤ 1) → (F_X12_isPressed a1 σ0 = (r, σ')) → Qk r σ') : K_X12_isPressed l V a1 σ0 Qk := by
  refine e_X12_isPressed (fun M hl hV hN C => ?_)
  subst hl
  subst hV
  obtain ⟨R9, H0⟩ : ∃ R9, F_X12_isPressed a1 σ0 = R9 := ⟨_, rfl⟩
  have f0 : Fr [] [] σ0 σ0 := Fr_rf
  have H := H0
  unfold F_X12_isPressed at H
  refine s_X12_isPressed_0 C hN ?_
  refine ⟨?_, ?_⟩
  · intro q_1
    replace H := f_t q_1 H
    have t_2 := MI_f2 m0
    have t_3 : (a1 + (1 : Int32)).toInt = a1.toInt + 1 := i_add (x := a1) (y := (1 : Int32)) (by show (_ : Int) ≤ a1.toInt + 1; omega) (by show a1.toInt + 1 ≤ (_ : Int); omega)
    have b_4 : (gi σ0 74 2).toInt ≤ (a1 + (1 : Int32)).toInt := Int32.le_iff_toInt_le.mp q_1
    have z_5 : (0 : Int32).toInt = 0 := rfl
    exact h9ret (0 : Int32) σ0 m0 f0 (by omega) (by omega) (H0.trans H.symm)
  · intro q_1
    replace H := f_f q_1 H
    have t_6 := MI_f2 m0
    have t_7 : (a1 + (1 : Int32)).toInt = a1.toInt + 1 := i_add (x := a1) (y := (1 : Int32)) (by show (_ : Int) ≤ a1.toInt + 1; omega) (by show a1.toInt + 1 ≤ (_ : Int); omega)
    have b_8 : ¬ (gi σ0 74 2).toInt ≤ (a1 + (1 : Int32)).toInt := fun h9 => q_1 (Int32.le_iff_toInt_le.mpr h9)
    have hv_9 : vp_in a1 6 := vp_in_iff.mpr ⟨by omega, by omega⟩
    refine ⟨hv_9, ?_⟩
    have t_10 := MI_a110 m0 hv_9
    have hv_11 : vp_in (gi σ0 110 a1.toNatClampNeg) 6 := vp_in_iff.mpr ⟨by omega, by omega⟩
    refine ⟨hv_11, ?_⟩
    have hv_12 : vp_in (a1 + (1 : Int32)) 6 := vp_in_iff.mpr ⟨by omega, by omega⟩
    refine ⟨hv_12, ?_⟩
    have t_13 := MI_a110 m0 hv_12
    have hv_14 : vp_in (gi σ0 110 (a1 + (1 : Int32)).toNatClampNeg) 6 := vp_in_iff.mpr ⟨by omega, by omega⟩
    refine ⟨hv_14, ?_⟩
    refine kF_X12_gap m0  (fun r7 σ6 mσ6 cσ6 hσ6 => ?_)
    obtain rfl := Fr_nil cσ6
    replace H := f_b hσ6 H
    refine ⟨?_, ?_⟩
    · intro q_15
      replace H := f_t q_15 H
      have w_16 := Int32.toInt_lt r7
      have w_17 := Int32.le_toInt r7
      try have t_18 : (r7 + (3 : Int32)).toInt = r7.toInt + 3 := i_add (x := r7) (y := (3 : Int32)) (by show (_ : Int) ≤ r7.toInt + 3; omega) (by show r7.toInt + 3 ≤ (_ : Int); omega)
      have t_19 := MI_a105 m0 hv_11
      have t_20 := MI_a105 m0 hv_14
      have t_21 : ((gi σ0 105 (gi σ0 110 a1.toNatClampNeg).toNatClampNeg) - (gi σ0 105 (gi σ0 110 (a1 + (1 : Int32)).toNatClampNeg).toNatClampNeg)).toInt = (gi σ0 105 (gi σ0 110 a1.toNatClampNeg).toNatClampNeg).toInt - (gi σ0 105 (gi σ0 110 (a1 + (1 : Int32)).toNatClampNeg).toNatClampNeg).toInt := i_sub (x := (gi σ0 105 (gi σ0 110 a1.toNatClampNeg).toNatClampNeg)) (y := (gi σ0 105 (gi σ0 110 (a1 + (1 : Int32)).toNatClampNeg).toNatClampNeg)) (by show (_ : Int) ≤ (gi σ0 105 (gi σ0 110 a1.toNatClampNeg).toNatClampNeg).toInt - (gi σ0 105 (gi σ0 110 (a1 + (1 : Int32)).toNatClampNeg).toNatClampNeg).toInt; omega) (by show (gi σ0 105 (gi σ0 110 a1.toNatClampNeg).toNatClampNeg).toInt - (gi σ0 105 (gi σ0 110 (a1 + (1 : Int32)).toNatClampNeg).toNatClampNeg).toInt ≤ (_ : Int); omega)
      have b_22 : (r7 + (3 : Int32)).toInt ≤ ((gi σ0 105 (gi σ0 110 a1.toNatClampNeg).toNatClampNeg) - (gi σ0 105 (gi σ0 110 (a1 + (1 : Int32)).toNatClampNeg).toNatClampNeg)).toInt := Int32.le_iff_toInt_le.mp q_15
      have z_23 : (0 : Int32).toInt = 0 := rfl
      exact h9ret (0 : Int32) σ0 m0 f0 (by omega) (by omega) (H0.trans H.symm)
    · intro q_15
      replace H := f_f q_15 H
      have w_24 := Int32.toInt_lt r7
      have w_25 := Int32.le_toInt r7
      try have t_26 : (r7 + (3 : Int32)).toInt = r7.toInt + 3 := i_add (x := r7) (y := (3 : Int32)) (by show (_ : Int) ≤ r7.toInt + 3; omega) (by show r7.toInt + 3 ≤ (_ : Int); omega)
      have t_27 := MI_a105 m0 hv_11
      have t_28 := MI_a105 m0 hv_14
      have t_29 : ((gi σ0 105 (gi σ0 110 a1.toNatClampNeg).toNatClampNeg) - (gi σ0 105 (gi σ0 110 (a1 + (1 : Int32)).toNatClampNeg).toNatClampNeg)).toInt = (gi σ0 105 (gi σ0 110 a1.toNatClampNeg).toNatClampNeg).toInt - (gi σ0 105 (gi σ0 110 (a1 + (1 : Int32)).toNatClampNeg).toNatClampNeg).toInt := i_sub (x := (gi σ0 105 (gi σ0 110 a1.toNatClampNeg).toNatClampNeg)) (y := (gi σ0 105 (gi σ0 110 (a1 + (1 : Int32)).toNatClampNeg).toNatClampNeg)) (by show (_ : Int) ≤ (gi σ0 105 (gi σ0 110 a1.toNatClampNeg).toNatClampNeg).toInt - (gi σ0 105 (gi σ0 110 (a1 + (1 : Int32)).toNatClampNeg).toNatClampNeg).toInt; omega) (by show (gi σ0 105 (gi σ0 110 a1.toNatClampNeg).toNatClampNeg).toInt - (gi σ0 105 (gi σ0 110 (a1 + (1 : Int32)).toNatClampNeg).toNatClampNeg).toInt ≤ (_ : Int); omega)
      have b_30 : ¬ (r7 + (3 : Int32)).toInt ≤ ((gi σ0 105 (gi σ0 110 a1.toNatClampNeg).toNatClampNeg) - (gi σ0 105 (gi σ0 110 (a1 + (1 : Int32)).toNatClampNeg).toNatClampNeg)).toInt := fun h9 => q_15 (Int32.le_iff_toInt_le.mpr h9)
      have z_31 : (1 : Int32).toInt = 1 := rfl
      exact h9ret (1 : Int32) σ0 m0 f0 (by omega) (by omega) (H0.trans H.symm)
set_option maxRecDepth 100000 in
set_option maxHeartbeats 4000000 in
theorem kF_X12_strideOf {l : Launch} {V : Vx} {a1 : Int32} {a2 : Int32} {a3 : Int32} {σ0 : Sg} {Qk : Int32 → Sg → Prop} (m0 : MI σ0) (l_a1 : 0 ≤ a1.toInt) (u_a1 : a1.toInt ≤ 5) (l_a2 : 0 ≤ a2.toInt) (u_a2 : a2.toInt ≤ 5) (h9ret : ∀ (r : Int32) (σ' : Sg), MI σ' → Fr [] [] σ0 σ' → (F_X12_strideOf a1 a2 a3 σ0 = (r, σ')) → Qk r σ') : K_X12_strideOf l V a1 a2 a3 σ0 Qk := by
  refine e_X12_strideOf (fun M hl hV hN C => ?_)
  subst hl
  subst hV
  obtain ⟨R9, H0⟩ : ∃ R9, F_X12_strideOf a1 a2 a3 σ0 = R9 := ⟨_, rfl⟩
  have f0 : Fr [] [] σ0 σ0 := Fr_rf
  have H := H0
  unfold F_X12_strideOf at H
  refine s_X12_strideOf_0 C hN ?_
  have hv_1 : vp_in a2 6 := vp_in_iff.mpr ⟨by omega, by omega⟩
  refine ⟨hv_1, ?_⟩
  refine kF_X12_most m0  (fun r3 σ2 mσ2 cσ2 (pσ2_0 : (0 : Int) ≤ r3.toInt ∧ (a3 - ((gi σ0 107 a2.toNatClampNeg) / (20 : Int32))).toInt ≤ r3.toInt ∧ (r3.toInt = (0 : Int) ∨ r3.toInt = (a3 - ((gi σ0 107 a2.toNatClampNeg) / (20 : Int32))).toInt)) hσ2 => ?_)
  obtain rfl := Fr_nil cσ2
  replace H := f_b hσ2 H
  refine ⟨hv_1, ?_⟩
  refine ⟨?_, ?_, ?_, ?_, ?_, ?_, ?_⟩
  · intro q_2
    replace H := f_f (by omega) H
    replace H := f_f (by omega) H
    replace H := f_f (by omega) H
    replace H := f_f (by omega) H
    replace H := f_f (by omega) H
    replace H := f_f (by omega) H
    exact h9ret r3 σ0 m0 f0 (H0.trans H.symm)
  · intro q_2
    replace H := f_t q_2 H
    exact h9ret a3 σ0 m0 f0 (H0.trans H.symm)
  · intro q_2
    replace H := f_f (by omega) H
    replace H := f_t q_2 H
    refine kF_X12_hasty m0 (by omega) (by omega) (fun r7 σ6 mσ6 cσ6 hσ6 => ?_)
    obtain rfl := Fr_nil cσ6
    replace H := f_b hσ6 H
    exact h9ret r7 σ0 m0 f0 (H0.trans H.symm)
  · intro q_2
    replace H := f_f (by omega) H
    replace H := f_f (by omega) H
    replace H := f_t q_2 H
    exact h9ret (r3 / (2 : Int32)) σ0 m0 f0 (H0.trans H.symm)
  · intro q_2
    replace H := f_f (by omega) H
    replace H := f_f (by omega) H
    replace H := f_f (by omega) H
    replace H := f_t q_2 H
    refine ⟨hv_1, ?_⟩
    exact h9ret (a3 - ((gi σ0 104 a2.toNatClampNeg) / (3 : Int32))) σ0 m0 f0 (H0.trans H.symm)
  · intro q_2
    replace H := f_f (by omega) H
    replace H := f_f (by omega) H
    replace H := f_f (by omega) H
    replace H := f_f (by omega) H
    replace H := f_t q_2 H
    refine kF_X12_hasty m0 (by omega) (by omega) (fun r10 σ9 mσ9 cσ9 hσ9 => ?_)
    obtain rfl := Fr_nil cσ9
    replace H := f_b hσ9 H
    refine kF_X12_isPressed m0 (by omega) (by omega) (fun r12 σ11 mσ11 cσ11 plσ11 phσ11 hσ11 => ?_)
    obtain rfl := Fr_nil cσ11
    replace H := f_b hσ11 H
    refine ⟨?_, ?_⟩
    · intro q_3
      replace H := f_t q_3 H
      have b_4 : r12.toInt = 0 := congrArg Int32.toInt q_3
      exact h9ret (r10 + (0 : Int32)) σ0 m0 f0 (H0.trans H.symm)
    · intro q_3
      replace H := f_f q_3 H
      have b_5 : ¬ r12.toInt = 0 := fun h9 => q_3 (Int32.toInt_inj.mp h9)
      exact h9ret (r10 + (2 : Int32)) σ0 m0 f0 (H0.trans H.symm)
  · intro q_2
    replace H := f_f (by omega) H
    replace H := f_f (by omega) H
    replace H := f_f (by omega) H
    replace H := f_f (by omega) H
    replace H := f_f (by omega) H
    replace H := f_t q_2 H
    have t_6 : ((4 : Int32) * a2).toInt = 4 * a2.toInt := i_mull rfl (by omega) (by omega)
    have t_7 := MI_f1 m0
    have t_8 : ((gi σ0 74 1) - (((gi σ0 74 1) / (4 : Int32)) * (4 : Int32))).toInt = (gi σ0 74 1).toInt % 4 := i_rem (by omega) (by decide +kernel) rfl
    have t_9 : (((4 : Int32) * a2) + ((gi σ0 74 1) - (((gi σ0 74 1) / (4 : Int32)) * (4 : Int32)))).toInt = ((4 : Int32) * a2).toInt + ((gi σ0 74 1) - (((gi σ0 74 1) / (4 : Int32)) * (4 : Int32))).toInt := i_add (x := ((4 : Int32) * a2)) (y := ((gi σ0 74 1) - (((gi σ0 74 1) / (4 : Int32)) * (4 : Int32)))) (by show (_ : Int) ≤ ((4 : Int32) * a2).toInt + ((gi σ0 74 1) - (((gi σ0 74 1) / (4 : Int32)) * (4 : Int32))).toInt; omega) (by show ((4 : Int32) * a2).toInt + ((gi σ0 74 1) - (((gi σ0 74 1) / (4 : Int32)) * (4 : Int32))).toInt ≤ (_ : Int); omega)
    have hv_10 : vp_in (((4 : Int32) * a2) + ((gi σ0 74 1) - (gi σ0 74 1) / (4 : Int32) * (4 : Int32))) 24 := vp_in_iff.mpr ⟨by omega, by omega⟩
    refine ⟨hv_10, ?_⟩
    exact h9ret ((r3 / (2 : Int32)) + (gi σ0 109 (((4 : Int32) * a2) + ((gi σ0 74 1) - (gi σ0 74 1) / (4 : Int32) * (4 : Int32))).toNatClampNeg)) σ0 m0 f0 (H0.trans H.symm)
set_option maxRecDepth 100000 in
set_option maxHeartbeats 4000000 in
theorem kF_X12_goWhet {l : Launch} {V : Vx} {σ0 : Sg} {Qk : Sg → Prop} (m0 : MI σ0) (pre0 : (gi σ0 74 1).toInt ≤ 18000) (h9ret : ∀ (σ' : Sg), MI σ' → Fr [74, 106, 107, 108] [1] σ0 σ' → ((gi σ' 74 1).toInt = (gi σ0 74 1).toInt + 1) → (F_X12_goWhet σ0 = σ') → Qk σ') : K_X12_goWhet l V σ0 Qk := by
  refine e_X12_goWhet (fun M hl hV hN C => ?_)
  subst hl
  subst hV
  obtain ⟨R9, H0⟩ : ∃ R9, F_X12_goWhet σ0 = R9 := ⟨_, rfl⟩
  have T : ∀ n : Nat, (∀ (x1 : Int32) (σ : Sg), MI σ → Fr [74, 106, 107, 108] [1] σ0 σ → (0 ≤ x1.toInt) → (x1.toInt ≤ 6) → ((gi σ 74 1).toInt = (gi σ0 74 1).toInt) → (LF_X12_goWhet n x1 σ = R9) → (7 - x1.toInt).toNat < n → PS M 2 [(0, .ref 74), (1, .int x1)] [] σ (0, 0)) := by
    intro n
    induction n with
    | zero => exact fun _ _ _ _ _ _ _ _ h8 => absurd h8 (Nat.not_lt_zero _)
    | succ n ih =>
      have ih2 := ih
      · intro x1 σ mσ fσ lx1 ux1 i0 H hmu
        replace H : LB_X12_goWhet_2 (LF_X12_goWhet n) x1 σ = R9 := H
        unfold LB_X12_goWhet_2 at H
        refine s_X12_goWhet_2 C hN ?_
        refine ⟨?_, ?_⟩
        · intro q_1
          replace H := f_t q_1 H
          have t_2 := MI_f0 mσ
          have b_3 : (gi σ 74 0).toInt ≤ x1.toInt := Int32.le_iff_toInt_le.mp q_1
          intro σ2 eσ2
          replace H := f_l eσ2 H
          have t_4 := MI_f1 mσ
          have t_5 : ((gi σ 74 1) + (1 : Int32)).toInt = (gi σ 74 1).toInt + 1 := i_add (x := (gi σ 74 1)) (y := (1 : Int32)) (by show (_ : Int) ≤ (gi σ 74 1).toInt + 1; omega) (by show (gi σ 74 1).toInt + 1 ≤ (_ : Int); omega)
          have mσ2 : MI σ2 := by rw [eσ2]; exact MIs_f1 mσ (by omega) (by omega)
          have fσ2 : Fr [74, 106, 107, 108] [1] σ0 σ2 := by rw [eσ2]; exact Fr_si fσ (by decide +kernel) (fun _ => by decide +kernel)
          have k_6 : (gi σ2 74 0).toInt = (gi σ 74 0).toInt := gk_r eσ2 rfl
          have k_7 : (gi σ2 74 1).toInt = ((gi σ 74 1) + (1 : Int32)).toInt := by rw [eσ2]; exact congrArg Int32.toInt gi_si_eq
          exact h9ret σ2 mσ2 fσ2 (by first | with_reducible assumption | with_reducible rfl | omega | assumption | rfl) (H0.trans H.symm)
        · intro q_1
          replace H := f_f q_1 H
          have t_8 := MI_f0 mσ
          have b_9 : ¬ (gi σ 74 0).toInt ≤ x1.toInt := fun h9 => q_1 (Int32.le_iff_toInt_le.mpr h9)
          have hv_10 : vp_in x1 6 := vp_in_iff.mpr ⟨by omega, by omega⟩
          refine ⟨hv_10, ?_⟩
          intro σ4 eσ4
          replace H := f_l eσ4 H
          have mσ4 : MI σ4 := by rw [eσ4]; exact MIs_au (a := 106) mσ rfl rfl
          have fσ4 : Fr [74, 106, 107, 108] [1] σ0 σ4 := by rw [eσ4]; exact Fr_si fσ (by decide +kernel) (fun h9 => absurd h9 (by decide +kernel))
          have k_11 : (gi σ4 74 0).toInt = (gi σ 74 0).toInt := gk_l eσ4 rfl
          have k_12 : (gi σ4 74 1).toInt = (gi σ 74 1).toInt := gk_l eσ4 rfl
          refine ⟨hv_10, ?_⟩
          refine kF_X12_most mσ4  (fun r7 σ6 mσ6 cσ6 (pσ6_0 : (0 : Int) ≤ r7.toInt ∧ ((gi σ4 107 x1.toNatClampNeg) - (1 : Int32)).toInt ≤ r7.toInt ∧ (r7.toInt = (0 : Int) ∨ r7.toInt = ((gi σ4 107 x1.toNatClampNeg) - (1 : Int32)).toInt)) hσ6 => ?_)
          obtain rfl := Fr_nil cσ6
          replace H := f_b hσ6 H
          refine ⟨hv_10, ?_⟩
          intro σ9 eσ9
          replace H := f_l eσ9 H
          have mσ9 : MI σ9 := by rw [eσ9]; exact MIs_au (a := 107) mσ4 rfl rfl
          have fσ9 : Fr [74, 106, 107, 108] [1] σ0 σ9 := by rw [eσ9]; exact Fr_si fσ4 (by decide +kernel) (fun h9 => absurd h9 (by decide +kernel))
          have k_13 : (gi σ9 74 0).toInt = (gi σ4 74 0).toInt := gk_l eσ9 rfl
          have k_14 : (gi σ9 74 1).toInt = (gi σ4 74 1).toInt := gk_l eσ9 rfl
          refine ⟨hv_10, ?_⟩
          refine kF_X12_most mσ9  (fun r12 σ11 mσ11 cσ11 (pσ11_0 : (0 : Int) ≤ r12.toInt ∧ ((gi σ9 108 x1.toNatClampNeg) - (1 : Int32)).toInt ≤ r12.toInt ∧ (r12.toInt = (0 : Int) ∨ r12.toInt = ((gi σ9 108 x1.toNatClampNeg) - (1 : Int32)).toInt)) hσ11 => ?_)
          obtain rfl := Fr_nil cσ11
          replace H := f_b hσ11 H
          refine ⟨hv_10, ?_⟩
          intro σ14 eσ14
          replace H := f_l eσ14 H
          have mσ14 : MI σ14 := by rw [eσ14]; exact MIs_au (a := 108) mσ9 rfl rfl
          have fσ14 : Fr [74, 106, 107, 108] [1] σ0 σ14 := by rw [eσ14]; exact Fr_si fσ9 (by decide +kernel) (fun h9 => absurd h9 (by decide +kernel))
          have k_15 : (gi σ14 74 0).toInt = (gi σ9 74 0).toInt := gk_l eσ14 rfl
          have k_16 : (gi σ14 74 1).toInt = (gi σ9 74 1).toInt := gk_l eσ14 rfl
          intro v15 ev15
          replace H := f_l ev15 H
          have t_17 : (x1 + (1 : Int32)).toInt = x1.toInt + 1 := i_add (x := x1) (y := (1 : Int32)) (by show (_ : Int) ≤ x1.toInt + 1; omega) (by show x1.toInt + 1 ≤ (_ : Int); omega)
          have t_18 : v15.toInt = (x1 + (1 : Int32)).toInt := congrArg Int32.toInt ev15
          exact ih2 v15 σ14 mσ14 fσ14 (by omega) (by omega) (by first | with_reducible assumption | with_reducible rfl | omega | assumption | rfl) H (by omega)
  have U2 := T 9
  have f0 : Fr [74, 106, 107, 108] [1] σ0 σ0 := Fr_rf
  have H := H0
  unfold F_X12_goWhet at H
  refine s_X12_goWhet_0 C hN ?_
  have z_19 : (0 : Int32).toInt = 0 := rfl
  exact U2 (0 : Int32) σ0 m0 f0 (by omega) (by omega) (by first | with_reducible assumption | with_reducible rfl | omega | assumption | rfl) H (by omega)
set_option maxRecDepth 100000 in
set_option maxHeartbeats 4000000 in
theorem kF_X12_goPause {l : Launch} {V : Vx} {a1 : Int32} {σ0 : Sg} {Qk : Sg → Prop} (m0 : MI σ0) (l_a1 : 0 ≤ a1.toInt) (u_a1 : a1.toInt ≤ 60) (pre0 : (gi σ0 74 1).toInt ≤ 18000) (h9ret : ∀ (σ' : Sg), MI σ' → Fr [74, 107, 108] [1] σ0 σ' → ((gi σ' 74 1).toInt = (gi σ0 74 1).toInt + a1.toInt) → (F_X12_goPause a1 σ0 = σ') → Qk σ') : K_X12_goPause l V a1 σ0 Qk := by
  refine e_X12_goPause (fun M hl hV hN C => ?_)
  subst hl
  subst hV
  obtain ⟨R9, H0⟩ : ∃ R9, F_X12_goPause a1 σ0 = R9 := ⟨_, rfl⟩
  have T : ∀ n : Nat, (∀ (x1 : Int32) (x2 : Int32) (σ : Sg), MI σ → Fr [74, 107, 108] [1] σ0 σ → (0 ≤ x1.toInt) → (x1.toInt ≤ 60) → (0 ≤ x2.toInt) → (x2.toInt ≤ 6) → ((gi σ 74 1).toInt = (gi σ0 74 1).toInt) → (x1.toInt = a1.toInt) → (LF_X12_goPause n x1 x2 σ = R9) → (7 - x2.toInt).toNat < n → PS M 2 [(0, .ref 74), (1, .int x1), (2, .int x2)] [] σ (0, 0)) := by
    intro n
    induction n with
    | zero => exact fun _ _ _ _ _ _ _ _ _ _ _ _ h8 => absurd h8 (Nat.not_lt_zero _)
    | succ n ih =>
      have ih2 := ih
      · intro x1 x2 σ mσ fσ lx1 ux1 lx2 ux2 i0 i1 H hmu
        replace H : LB_X12_goPause_2 (LF_X12_goPause n) x1 x2 σ = R9 := H
        unfold LB_X12_goPause_2 at H
        refine s_X12_goPause_2 C hN ?_
        refine ⟨?_, ?_⟩
        · intro q_1
          replace H := f_t q_1 H
          have t_2 := MI_f0 mσ
          have b_3 : (gi σ 74 0).toInt ≤ x2.toInt := Int32.le_iff_toInt_le.mp q_1
          intro σ2 eσ2
          replace H := f_l eσ2 H
          have t_4 := MI_f1 mσ
          have t_5 : ((gi σ 74 1) + x1).toInt = (gi σ 74 1).toInt + x1.toInt := i_add (x := (gi σ 74 1)) (y := x1) (by show (_ : Int) ≤ (gi σ 74 1).toInt + x1.toInt; omega) (by show (gi σ 74 1).toInt + x1.toInt ≤ (_ : Int); omega)
          have mσ2 : MI σ2 := by rw [eσ2]; exact MIs_f1 mσ (by omega) (by omega)
          have fσ2 : Fr [74, 107, 108] [1] σ0 σ2 := by rw [eσ2]; exact Fr_si fσ (by decide +kernel) (fun _ => by decide +kernel)
          have k_6 : (gi σ2 74 0).toInt = (gi σ 74 0).toInt := gk_r eσ2 rfl
          have k_7 : (gi σ2 74 1).toInt = ((gi σ 74 1) + x1).toInt := by rw [eσ2]; exact congrArg Int32.toInt gi_si_eq
          exact h9ret σ2 mσ2 fσ2 (by first | with_reducible assumption | with_reducible rfl | omega | assumption | rfl) (H0.trans H.symm)
        · intro q_1
          replace H := f_f q_1 H
          have t_8 := MI_f0 mσ
          have b_9 : ¬ (gi σ 74 0).toInt ≤ x2.toInt := fun h9 => q_1 (Int32.le_iff_toInt_le.mpr h9)
          have hv_10 : vp_in x2 6 := vp_in_iff.mpr ⟨by omega, by omega⟩
          refine ⟨hv_10, ?_⟩
          have t_11 : ((3 : Int32) * x1).toInt = 3 * x1.toInt := i_mull rfl (by omega) (by omega)
          refine kF_X12_most mσ  (fun r5 σ4 mσ4 cσ4 (pσ4_0 : (0 : Int) ≤ r5.toInt ∧ ((gi σ 107 x2.toNatClampNeg) - ((3 : Int32) * x1)).toInt ≤ r5.toInt ∧ (r5.toInt = (0 : Int) ∨ r5.toInt = ((gi σ 107 x2.toNatClampNeg) - ((3 : Int32) * x1)).toInt)) hσ4 => ?_)
          obtain rfl := Fr_nil cσ4
          replace H := f_b hσ4 H
          refine ⟨hv_10, ?_⟩
          intro σ7 eσ7
          replace H := f_l eσ7 H
          have mσ7 : MI σ7 := by rw [eσ7]; exact MIs_au (a := 107) mσ rfl rfl
          have fσ7 : Fr [74, 107, 108] [1] σ0 σ7 := by rw [eσ7]; exact Fr_si fσ (by decide +kernel) (fun h9 => absurd h9 (by decide +kernel))
          have k_12 : (gi σ7 74 0).toInt = (gi σ 74 0).toInt := gk_l eσ7 rfl
          have k_13 : (gi σ7 74 1).toInt = (gi σ 74 1).toInt := gk_l eσ7 rfl
          refine ⟨hv_10, ?_⟩
          refine kF_X12_most mσ7  (fun r10 σ9 mσ9 cσ9 (pσ9_0 : (0 : Int) ≤ r10.toInt ∧ ((gi σ7 108 x2.toNatClampNeg) - x1).toInt ≤ r10.toInt ∧ (r10.toInt = (0 : Int) ∨ r10.toInt = ((gi σ7 108 x2.toNatClampNeg) - x1).toInt)) hσ9 => ?_)
          obtain rfl := Fr_nil cσ9
          replace H := f_b hσ9 H
          refine ⟨hv_10, ?_⟩
          intro σ12 eσ12
          replace H := f_l eσ12 H
          have mσ12 : MI σ12 := by rw [eσ12]; exact MIs_au (a := 108) mσ7 rfl rfl
          have fσ12 : Fr [74, 107, 108] [1] σ0 σ12 := by rw [eσ12]; exact Fr_si fσ7 (by decide +kernel) (fun h9 => absurd h9 (by decide +kernel))
          have k_14 : (gi σ12 74 0).toInt = (gi σ7 74 0).toInt := gk_l eσ12 rfl
          have k_15 : (gi σ12 74 1).toInt = (gi σ7 74 1).toInt := gk_l eσ12 rfl
          intro v13 ev13
          replace H := f_l ev13 H
          have t_16 : (x2 + (1 : Int32)).toInt = x2.toInt + 1 := i_add (x := x2) (y := (1 : Int32)) (by show (_ : Int) ≤ x2.toInt + 1; omega) (by show x2.toInt + 1 ≤ (_ : Int); omega)
          have t_17 : v13.toInt = (x2 + (1 : Int32)).toInt := congrArg Int32.toInt ev13
          exact ih2 x1 v13 σ12 mσ12 fσ12 (by omega) (by omega) (by omega) (by omega) (by first | with_reducible assumption | with_reducible rfl | omega | assumption | rfl) (by first | with_reducible assumption | with_reducible rfl | omega | assumption | rfl) H (by omega)
  have U2 := T 9
  have f0 : Fr [74, 107, 108] [1] σ0 σ0 := Fr_rf
  have H := H0
  unfold F_X12_goPause at H
  refine s_X12_goPause_0 C hN ?_
  have z_18 : (0 : Int32).toInt = 0 := rfl
  exact U2 a1 (0 : Int32) σ0 m0 f0 (by omega) (by omega) (by omega) (by omega) (by first | with_reducible assumption | with_reducible rfl | omega | assumption | rfl) (by first | with_reducible assumption | with_reducible rfl | omega | assumption | rfl) H (by omega)
set_option maxRecDepth 100000 in
set_option maxHeartbeats 4000000 in
theorem kF_X12_isDone {l : Launch} {V : Vx} {σ0 : Sg} {Qk : Int32 → Sg → Prop} (m0 : MI σ0) (h9ret : ∀ (r : Int32) (σ' : Sg), MI σ' → Fr [] [] σ0 σ' → (0 ≤ r.toInt) → (r.toInt ≤ 1) → (F_X12_isDone σ0 = (r, σ')) → Qk r σ') : K_X12_isDone l V σ0 Qk := by
  refine e_X12_isDone (fun M hl hV hN C => ?_)
  subst hl
  subst hV
  obtain ⟨R9, H0⟩ : ∃ R9, F_X12_isDone σ0 = R9 := ⟨_, rfl⟩
  have T : ∀ n : Nat, (∀ (x1 : Int32) (σ : Sg), MI σ → Fr [] [] σ0 σ → (0 ≤ x1.toInt) → (x1.toInt ≤ 6) → (LF_X12_isDone n x1 σ = R9) → (7 - x1.toInt).toNat < n → PS M 2 [(0, .ref 74), (1, .int x1)] [] σ (0, 0)) := by
    intro n
    induction n with
    | zero => exact fun _ _ _ _ _ _ _ h8 => absurd h8 (Nat.not_lt_zero _)
    | succ n ih =>
      have ih2 := ih
      · intro x1 σ mσ fσ lx1 ux1 H hmu
        replace H : LB_X12_isDone_2 (LF_X12_isDone n) x1 σ = R9 := H
        unfold LB_X12_isDone_2 at H
        refine s_X12_isDone_2 C hN ?_
        refine ⟨?_, ?_⟩
        · intro q_1
          replace H := f_t q_1 H
          have t_2 := MI_f0 mσ
          have b_3 : (gi σ 74 0).toInt ≤ x1.toInt := Int32.le_iff_toInt_le.mp q_1
          have z_4 : (1 : Int32).toInt = 1 := rfl
          exact h9ret (1 : Int32) σ mσ fσ (by omega) (by omega) (H0.trans H.symm)
        · intro q_1
          replace H := f_f q_1 H
          have t_5 := MI_f0 mσ
          have b_6 : ¬ (gi σ 74 0).toInt ≤ x1.toInt := fun h9 => q_1 (Int32.le_iff_toInt_le.mpr h9)
          have hv_7 : vp_in x1 6 := vp_in_iff.mpr ⟨by omega, by omega⟩
          refine ⟨hv_7, ?_⟩
          refine kF_X12_fieldLong mσ  (fun r4 σ3 mσ3 cσ3 hσ3 => ?_)
          obtain rfl := Fr_nil cσ3
          replace H := f_b hσ3 H
          refine ⟨?_, ?_⟩
          · intro q_8
            replace H := f_t q_8 H
            have w_9 := Int32.toInt_lt r4
            have w_10 := Int32.le_toInt r4
            have t_11 := MI_a105 mσ hv_7
            have b_12 : r4.toInt ≤ (gi σ 105 x1.toNatClampNeg).toInt := Int32.le_iff_toInt_le.mp q_8
            intro v6 ev6
            replace H := f_l ev6 H
            have t_13 : (x1 + (1 : Int32)).toInt = x1.toInt + 1 := i_add (x := x1) (y := (1 : Int32)) (by show (_ : Int) ≤ x1.toInt + 1; omega) (by show x1.toInt + 1 ≤ (_ : Int); omega)
            have t_14 : v6.toInt = (x1 + (1 : Int32)).toInt := congrArg Int32.toInt ev6
            exact ih2 v6 σ mσ fσ (by omega) (by omega) H (by omega)
          · intro q_8
            replace H := f_f q_8 H
            have w_15 := Int32.toInt_lt r4
            have w_16 := Int32.le_toInt r4
            have t_17 := MI_a105 mσ hv_7
            have b_18 : ¬ r4.toInt ≤ (gi σ 105 x1.toNatClampNeg).toInt := fun h9 => q_8 (Int32.le_iff_toInt_le.mpr h9)
            have z_19 : (0 : Int32).toInt = 0 := rfl
            exact h9ret (0 : Int32) σ mσ fσ (by omega) (by omega) (H0.trans H.symm)
  have U2 := T 9
  have f0 : Fr [] [] σ0 σ0 := Fr_rf
  have H := H0
  unfold F_X12_isDone at H
  refine s_X12_isDone_0 C hN ?_
  have z_20 : (0 : Int32).toInt = 0 := rfl
  exact U2 (0 : Int32) σ0 m0 f0 (by omega) (by omega) H (by omega)
set_option maxRecDepth 100000 in
set_option maxHeartbeats 4000000 in
theorem kF_X12_holds {l : Launch} {V : Vx} {a1 : Int32} {a2 : Int32} {σ0 : Sg} {Qk : Int32 → Sg → Prop} (m0 : MI σ0) (l_a1 : 0 ≤ a1.toInt) (u_a1 : a1.toInt ≤ 59) (l_a2 : 0 ≤ a2.toInt) (u_a2 : a2.toInt ≤ 5) (pre0 : ∃ f : Nat, f < 6 ∧ okCl σ0 f a1.toNatClampNeg) (h9ret : ∀ (r : Int32) (σ' : Sg), MI σ' → Fr [129] [] σ0 σ' → (0 ≤ r.toInt) → (r.toInt ≤ 1) → (F_X12_holds a1 a2 σ0 = (r, σ')) → Qk r σ') : K_X12_holds l V a1 a2 σ0 Qk := by
  refine e_X12_holds (fun M hl hV hN C => ?_)
  subst hl
  subst hV
  obtain ⟨R9, H0⟩ : ∃ R9, F_X12_holds a1 a2 σ0 = R9 := ⟨_, rfl⟩
  obtain ⟨fd, hfd, lo, hi, e1, e2, b1, b2, b3, hseg⟩ := pre0
  obtain ⟨G, hG0, hG⟩ := okSegG hseg
  have T : ∀ n : Nat, (∀ (x1 : Int32) (x2 : Int32) (x3 : Int32) (x4 : Int32) (σ : Sg), MI σ → Fr [129] [] σ0 σ → (0 ≤ x1.toInt) → (x1.toInt ≤ 59) → (0 ≤ x2.toInt) → (x2.toInt ≤ 5) → (0 ≤ x3.toInt) → (x3.toInt ≤ 100) → (0 ≤ x4.toInt) → (x4.toInt ≤ 600) → (x1 = a1) → ((lo : Int) ≤ x4.toInt) → (x4.toInt ≤ hi) → (x3.toInt = G x4.toInt) → (LF_X12_holds n x1 x2 x3 x4 σ = R9) → (601 - x4.toInt).toNat < n → PS M 10 [(0, .ref 74), (1, .int x1), (2, .int x2), (3, .int x3), (4, .int x4)] [] σ (0, 0)) := by
    intro n
    induction n with
    | zero => exact fun _ _ _ _ _ _ _ _ _ _ _ _ _ _ _ _ _ _ _ _ h8 => absurd h8 (Nat.not_lt_zero _)
    | succ n ih =>
      have ih10 := ih
      · intro x1 x2 x3 x4 σ mσ fσ lx1 ux1 lx2 ux2 lx3 ux3 lx4 ux4 i0 i1 i2 i3 H hmu
        replace H : LB_X12_holds_10 (LF_X12_holds n) x1 x2 x3 x4 σ = R9 := H
        unfold LB_X12_holds_10 at H
        subst i0
        have g1 : (gi σ 121 x1.toNatClampNeg).toInt = hi := by rw [show gi σ 121 x1.toNatClampNeg = gi σ0 121 x1.toNatClampNeg from congrFun (fσ.1 121 (by decide +kernel)).1 _]; exact e2
        have g2 : ∀ j, gi σ 122 j = gi σ0 122 j := fun j => congrFun (fσ.1 122 (by decide +kernel)).1 j
        obtain ⟨gb, egb⟩ : ∃ n : Int, G x4.toInt = n := ⟨_, rfl⟩
        obtain ⟨ga, ega⟩ : ∃ n : Int, G (x4.toInt + 1) = n := ⟨_, rfl⟩
        rw [egb] at i3
        have g3 : ∀ w : Int32, w.toInt = x4.toInt + 1 → G w.toInt = ga := fun w hw => by rw [hw]; exact ega
        have hS := hG x4.toInt
        rw [egb, ega] at hS
        have hS : hid _ := hS
        clear egb ega
        refine s_X12_holds_10 C hN ?_
        have hv_1 : vp_in x1 60 := vp_in_iff.mpr ⟨by omega, by omega⟩
        refine ⟨hv_1, ?_⟩
        refine ⟨?_, ?_⟩
        · intro q_2
          replace H := f_t q_2 H
          have b_3 : (gi σ 121 x1.toNatClampNeg).toInt ≤ x4.toInt := Int32.le_iff_toInt_le.mp q_2
          have z_4 : (0 : Int32).toInt = 0 := rfl
          have hv_5 : vp_in (0 : Int32) 100 := vp_in_iff.mpr ⟨by omega, by omega⟩
          refine ⟨hv_5, ?_⟩
          have t_6 := MI_a129 mσ hv_5
          refine ⟨i_bool (by omega) (by omega), ?_⟩
          exact h9ret (gi σ 129 (0 : Int32).toNatClampNeg) σ mσ fσ (by omega) (by omega) (H0.trans H.symm)
        · intro q_2
          replace H := f_f q_2 H
          have b_7 : ¬ (gi σ 121 x1.toNatClampNeg).toInt ≤ x4.toInt := fun h9 => q_2 (Int32.le_iff_toInt_le.mpr h9)
          have hv_8 : vp_in x4 600 := vp_in_iff.mpr ⟨by omega, by omega⟩
          refine ⟨hv_8, ?_⟩
          intro v5 ev5
          replace H := f_l ev5 H
          have hk := un hS (by omega) (by omega)
          have e5 : v5 = gi σ0 122 x4.toInt.toNat := by rw [ev5]; exact g2 _
          rw [← e5] at hk
          have k1 : hid _ := hk.1
          have k2 : hid _ := hk.2.1
          have k3 : hid _ := hk.2.2
          clear hk
          refine ⟨?_, ?_⟩
          · intro q_9
            replace H := f_f q_9 H
            have w_10 := Int32.toInt_lt v5
            have w_11 := Int32.le_toInt v5
            have b_12 : ¬ v5.toInt = (-33) := fun h9 => q_9 (Int32.toInt_inj.mp h9)
            have nn := q_9
            refine ⟨?_, ?_⟩
            · intro q_13
              replace H := f_t q_13 H
              have b_14 : (0 : Int) ≤ v5.toInt := Int32.le_iff_toInt_le.mp q_13
              obtain ⟨j1, j2⟩ := un k3 (by omega)
              refine kF_X12_factOf mσ (by omega) (by omega) (fun r9 σ8 mσ8 cσ8 hσ8 => ?_)
              obtain rfl := Fr_nil cσ8
              replace H := f_b hσ8 H
              intro v10 ev10
              replace H := f_l ev10 H
              refine ⟨?_, ?_⟩
              · intro q_15
                replace H := f_f q_15 H
                have w_16 := Int32.toInt_lt v10
                have w_17 := Int32.le_toInt v10
                have b_18 : ¬ v10.toInt = 0 := fun h9 => q_15 (Int32.toInt_inj.mp h9)
                refine ⟨?_, ?_⟩
                · intro q_19
                  replace H := f_f q_19 H
                  have b_20 : ¬ v10.toInt = 1 := fun h9 => q_19 (Int32.toInt_inj.mp h9)
                  refine ⟨?_, ?_⟩
                  · intro q_21
                    replace H := f_t q_21 H
                    have w_22 := Int32.toInt_lt r9
                    have w_23 := Int32.le_toInt r9
                    try have t_24 : (v5 - ((v5 / (100 : Int32)) * (100 : Int32))).toInt = v5.toInt % 100 := i_rem (by omega) (by decide +kernel) rfl
                    have b_25 : r9.toInt ≤ (v5 - ((v5 / (100 : Int32)) * (100 : Int32))).toInt := Int32.le_iff_toInt_le.mp q_21
                    have hv_26 : vp_in x3 100 := vp_in_iff.mpr ⟨by omega, by omega⟩
                    refine ⟨hv_26, ?_⟩
                    intro σ15 eσ15
                    replace H := f_l eσ15 H
                    have mσ15 : MI σ15 := by rw [eσ15]; exact MIs_z129 mσ
                    have fσ15 : Fr [129] [] σ0 σ15 := by rw [eσ15]; exact Fr_si fσ (by decide +kernel) (fun h9 => absurd h9 (by decide +kernel))
                    intro v16 ev16
                    replace H := f_l ev16 H
                    have t_27 : (x3 + (1 : Int32)).toInt = x3.toInt + 1 := i_add (x := x3) (y := (1 : Int32)) (by show (_ : Int) ≤ x3.toInt + 1; omega) (by show x3.toInt + 1 ≤ (_ : Int); omega)
                    have t_28 : v16.toInt = (x3 + (1 : Int32)).toInt := congrArg Int32.toInt ev16
                    intro v17 ev17
                    replace H := f_l ev17 H
                    have t_29 : (x4 + (1 : Int32)).toInt = x4.toInt + 1 := i_add (x := x4) (y := (1 : Int32)) (by show (_ : Int) ≤ x4.toInt + 1; omega) (by show x4.toInt + 1 ≤ (_ : Int); omega)
                    have t_30 : v17.toInt = (x4 + (1 : Int32)).toInt := congrArg Int32.toInt ev17
                    exact ih10 x1 x2 v16 v17 σ15 mσ15 fσ15 (by omega) (by omega) (by omega) (by omega) (by omega) (by omega) (by omega) (by omega) (by first | with_reducible assumption | with_reducible rfl | omega | assumption | rfl) (by first | with_reducible assumption | with_reducible rfl | omega | assumption | rfl) (by first | with_reducible assumption | with_reducible rfl | omega | assumption | rfl) (by first | (rw [g3 _ (by omega)]; omega) | omega) H (by omega)
                  · intro q_21
                    replace H := f_f q_21 H
                    have w_31 := Int32.toInt_lt r9
                    have w_32 := Int32.le_toInt r9
                    try have t_33 : (v5 - ((v5 / (100 : Int32)) * (100 : Int32))).toInt = v5.toInt % 100 := i_rem (by omega) (by decide +kernel) rfl
                    have b_34 : ¬ r9.toInt ≤ (v5 - ((v5 / (100 : Int32)) * (100 : Int32))).toInt := fun h9 => q_21 (Int32.le_iff_toInt_le.mpr h9)
                    have hv_35 : vp_in x3 100 := vp_in_iff.mpr ⟨by omega, by omega⟩
                    refine ⟨hv_35, ?_⟩
                    intro σ19 eσ19
                    replace H := f_l eσ19 H
                    have mσ19 : MI σ19 := by rw [eσ19]; exact MIs_z129 mσ
                    have fσ19 : Fr [129] [] σ0 σ19 := by rw [eσ19]; exact Fr_si fσ (by decide +kernel) (fun h9 => absurd h9 (by decide +kernel))
                    intro v20 ev20
                    replace H := f_l ev20 H
                    have t_36 : (x3 + (1 : Int32)).toInt = x3.toInt + 1 := i_add (x := x3) (y := (1 : Int32)) (by show (_ : Int) ≤ x3.toInt + 1; omega) (by show x3.toInt + 1 ≤ (_ : Int); omega)
                    have t_37 : v20.toInt = (x3 + (1 : Int32)).toInt := congrArg Int32.toInt ev20
                    intro v21 ev21
                    replace H := f_l ev21 H
                    have t_38 : (x4 + (1 : Int32)).toInt = x4.toInt + 1 := i_add (x := x4) (y := (1 : Int32)) (by show (_ : Int) ≤ x4.toInt + 1; omega) (by show x4.toInt + 1 ≤ (_ : Int); omega)
                    have t_39 : v21.toInt = (x4 + (1 : Int32)).toInt := congrArg Int32.toInt ev21
                    exact ih10 x1 x2 v20 v21 σ19 mσ19 fσ19 (by omega) (by omega) (by omega) (by omega) (by omega) (by omega) (by omega) (by omega) (by first | with_reducible assumption | with_reducible rfl | omega | assumption | rfl) (by first | with_reducible assumption | with_reducible rfl | omega | assumption | rfl) (by first | with_reducible assumption | with_reducible rfl | omega | assumption | rfl) (by first | (rw [g3 _ (by omega)]; omega) | omega) H (by omega)
                · intro q_19
                  replace H := f_t q_19 H
                  have b_40 : v10.toInt = 1 := congrArg Int32.toInt q_19
                  refine ⟨?_, ?_⟩
                  · intro q_41
                    replace H := f_f q_41 H
                    have w_42 := Int32.toInt_lt r9
                    have w_43 := Int32.le_toInt r9
                    try have t_44 : (v5 - ((v5 / (100 : Int32)) * (100 : Int32))).toInt = v5.toInt % 100 := i_rem (by omega) (by decide +kernel) rfl
                    have b_45 : ¬ r9.toInt = (v5 - ((v5 / (100 : Int32)) * (100 : Int32))).toInt := fun h9 => q_41 (Int32.toInt_inj.mp h9)
                    have hv_46 : vp_in x3 100 := vp_in_iff.mpr ⟨by omega, by omega⟩
                    refine ⟨hv_46, ?_⟩
                    intro σ24 eσ24
                    replace H := f_l eσ24 H
                    have mσ24 : MI σ24 := by rw [eσ24]; exact MIs_z129 mσ
                    have fσ24 : Fr [129] [] σ0 σ24 := by rw [eσ24]; exact Fr_si fσ (by decide +kernel) (fun h9 => absurd h9 (by decide +kernel))
                    intro v25 ev25
                    replace H := f_l ev25 H
                    have t_47 : (x3 + (1 : Int32)).toInt = x3.toInt + 1 := i_add (x := x3) (y := (1 : Int32)) (by show (_ : Int) ≤ x3.toInt + 1; omega) (by show x3.toInt + 1 ≤ (_ : Int); omega)
                    have t_48 : v25.toInt = (x3 + (1 : Int32)).toInt := congrArg Int32.toInt ev25
                    intro v26 ev26
                    replace H := f_l ev26 H
                    have t_49 : (x4 + (1 : Int32)).toInt = x4.toInt + 1 := i_add (x := x4) (y := (1 : Int32)) (by show (_ : Int) ≤ x4.toInt + 1; omega) (by show x4.toInt + 1 ≤ (_ : Int); omega)
                    have t_50 : v26.toInt = (x4 + (1 : Int32)).toInt := congrArg Int32.toInt ev26
                    exact ih10 x1 x2 v25 v26 σ24 mσ24 fσ24 (by omega) (by omega) (by omega) (by omega) (by omega) (by omega) (by omega) (by omega) (by first | with_reducible assumption | with_reducible rfl | omega | assumption | rfl) (by first | with_reducible assumption | with_reducible rfl | omega | assumption | rfl) (by first | with_reducible assumption | with_reducible rfl | omega | assumption | rfl) (by first | (rw [g3 _ (by omega)]; omega) | omega) H (by omega)
                  · intro q_41
                    replace H := f_t q_41 H
                    have w_51 := Int32.toInt_lt r9
                    have w_52 := Int32.le_toInt r9
                    try have t_53 : (v5 - ((v5 / (100 : Int32)) * (100 : Int32))).toInt = v5.toInt % 100 := i_rem (by omega) (by decide +kernel) rfl
                    have b_54 : r9.toInt = (v5 - ((v5 / (100 : Int32)) * (100 : Int32))).toInt := congrArg Int32.toInt q_41
                    have hv_55 : vp_in x3 100 := vp_in_iff.mpr ⟨by omega, by omega⟩
                    refine ⟨hv_55, ?_⟩
                    intro σ28 eσ28
                    replace H := f_l eσ28 H
                    have mσ28 : MI σ28 := by rw [eσ28]; exact MIs_z129 mσ
                    have fσ28 : Fr [129] [] σ0 σ28 := by rw [eσ28]; exact Fr_si fσ (by decide +kernel) (fun h9 => absurd h9 (by decide +kernel))
                    intro v29 ev29
                    replace H := f_l ev29 H
                    have t_56 : (x3 + (1 : Int32)).toInt = x3.toInt + 1 := i_add (x := x3) (y := (1 : Int32)) (by show (_ : Int) ≤ x3.toInt + 1; omega) (by show x3.toInt + 1 ≤ (_ : Int); omega)
                    have t_57 : v29.toInt = (x3 + (1 : Int32)).toInt := congrArg Int32.toInt ev29
                    intro v30 ev30
                    replace H := f_l ev30 H
                    have t_58 : (x4 + (1 : Int32)).toInt = x4.toInt + 1 := i_add (x := x4) (y := (1 : Int32)) (by show (_ : Int) ≤ x4.toInt + 1; omega) (by show x4.toInt + 1 ≤ (_ : Int); omega)
                    have t_59 : v30.toInt = (x4 + (1 : Int32)).toInt := congrArg Int32.toInt ev30
                    exact ih10 x1 x2 v29 v30 σ28 mσ28 fσ28 (by omega) (by omega) (by omega) (by omega) (by omega) (by omega) (by omega) (by omega) (by first | with_reducible assumption | with_reducible rfl | omega | assumption | rfl) (by first | with_reducible assumption | with_reducible rfl | omega | assumption | rfl) (by first | with_reducible assumption | with_reducible rfl | omega | assumption | rfl) (by first | (rw [g3 _ (by omega)]; omega) | omega) H (by omega)
              · intro q_15
                replace H := f_t q_15 H
                have w_60 := Int32.toInt_lt v10
                have w_61 := Int32.le_toInt v10
                have b_62 : v10.toInt = 0 := congrArg Int32.toInt q_15
                refine ⟨?_, ?_⟩
                · intro q_63
                  replace H := f_t q_63 H
                  try have t_64 : (v5 - ((v5 / (100 : Int32)) * (100 : Int32))).toInt = v5.toInt % 100 := i_rem (by omega) (by decide +kernel) rfl
                  have w_65 := Int32.toInt_lt r9
                  have w_66 := Int32.le_toInt r9
                  have b_67 : (v5 - ((v5 / (100 : Int32)) * (100 : Int32))).toInt ≤ r9.toInt := Int32.le_iff_toInt_le.mp q_63
                  have hv_68 : vp_in x3 100 := vp_in_iff.mpr ⟨by omega, by omega⟩
                  refine ⟨hv_68, ?_⟩
                  intro σ33 eσ33
                  replace H := f_l eσ33 H
                  have mσ33 : MI σ33 := by rw [eσ33]; exact MIs_z129 mσ
                  have fσ33 : Fr [129] [] σ0 σ33 := by rw [eσ33]; exact Fr_si fσ (by decide +kernel) (fun h9 => absurd h9 (by decide +kernel))
                  intro v34 ev34
                  replace H := f_l ev34 H
                  have t_69 : (x3 + (1 : Int32)).toInt = x3.toInt + 1 := i_add (x := x3) (y := (1 : Int32)) (by show (_ : Int) ≤ x3.toInt + 1; omega) (by show x3.toInt + 1 ≤ (_ : Int); omega)
                  have t_70 : v34.toInt = (x3 + (1 : Int32)).toInt := congrArg Int32.toInt ev34
                  intro v35 ev35
                  replace H := f_l ev35 H
                  have t_71 : (x4 + (1 : Int32)).toInt = x4.toInt + 1 := i_add (x := x4) (y := (1 : Int32)) (by show (_ : Int) ≤ x4.toInt + 1; omega) (by show x4.toInt + 1 ≤ (_ : Int); omega)
                  have t_72 : v35.toInt = (x4 + (1 : Int32)).toInt := congrArg Int32.toInt ev35
                  exact ih10 x1 x2 v34 v35 σ33 mσ33 fσ33 (by omega) (by omega) (by omega) (by omega) (by omega) (by omega) (by omega) (by omega) (by first | with_reducible assumption | with_reducible rfl | omega | assumption | rfl) (by first | with_reducible assumption | with_reducible rfl | omega | assumption | rfl) (by first | with_reducible assumption | with_reducible rfl | omega | assumption | rfl) (by first | (rw [g3 _ (by omega)]; omega) | omega) H (by omega)
                · intro q_63
                  replace H := f_f q_63 H
                  try have t_73 : (v5 - ((v5 / (100 : Int32)) * (100 : Int32))).toInt = v5.toInt % 100 := i_rem (by omega) (by decide +kernel) rfl
                  have w_74 := Int32.toInt_lt r9
                  have w_75 := Int32.le_toInt r9
                  have b_76 : ¬ (v5 - ((v5 / (100 : Int32)) * (100 : Int32))).toInt ≤ r9.toInt := fun h9 => q_63 (Int32.le_iff_toInt_le.mpr h9)
                  have hv_77 : vp_in x3 100 := vp_in_iff.mpr ⟨by omega, by omega⟩
                  refine ⟨hv_77, ?_⟩
                  intro σ37 eσ37
                  replace H := f_l eσ37 H
                  have mσ37 : MI σ37 := by rw [eσ37]; exact MIs_z129 mσ
                  have fσ37 : Fr [129] [] σ0 σ37 := by rw [eσ37]; exact Fr_si fσ (by decide +kernel) (fun h9 => absurd h9 (by decide +kernel))
                  intro v38 ev38
                  replace H := f_l ev38 H
                  have t_78 : (x3 + (1 : Int32)).toInt = x3.toInt + 1 := i_add (x := x3) (y := (1 : Int32)) (by show (_ : Int) ≤ x3.toInt + 1; omega) (by show x3.toInt + 1 ≤ (_ : Int); omega)
                  have t_79 : v38.toInt = (x3 + (1 : Int32)).toInt := congrArg Int32.toInt ev38
                  intro v39 ev39
                  replace H := f_l ev39 H
                  have t_80 : (x4 + (1 : Int32)).toInt = x4.toInt + 1 := i_add (x := x4) (y := (1 : Int32)) (by show (_ : Int) ≤ x4.toInt + 1; omega) (by show x4.toInt + 1 ≤ (_ : Int); omega)
                  have t_81 : v39.toInt = (x4 + (1 : Int32)).toInt := congrArg Int32.toInt ev39
                  exact ih10 x1 x2 v38 v39 σ37 mσ37 fσ37 (by omega) (by omega) (by omega) (by omega) (by omega) (by omega) (by omega) (by omega) (by first | with_reducible assumption | with_reducible rfl | omega | assumption | rfl) (by first | with_reducible assumption | with_reducible rfl | omega | assumption | rfl) (by first | with_reducible assumption | with_reducible rfl | omega | assumption | rfl) (by first | (rw [g3 _ (by omega)]; omega) | omega) H (by omega)
            · intro q_13
              replace H := f_f q_13 H
              have b_82 : ¬ (0 : Int) ≤ v5.toInt := fun h9 => q_13 (Int32.le_iff_toInt_le.mpr h9)
              obtain ⟨j1, j2⟩ := un k2 nn (by omega)
              intro v40 ev40
              replace H := f_l ev40 H
              have t_83 : (x3 - (1 : Int32)).toInt = x3.toInt - 1 := i_sub (x := x3) (y := (1 : Int32)) (by show (_ : Int) ≤ x3.toInt - 1; omega) (by show x3.toInt - 1 ≤ (_ : Int); omega)
              have t_84 : v40.toInt = (x3 - (1 : Int32)).toInt := congrArg Int32.toInt ev40
              refine ⟨?_, ?_⟩
              · intro q_85
                replace H := f_f q_85 H
                have b_86 : ¬ v5.toInt = (-38) := fun h9 => q_85 (Int32.toInt_inj.mp h9)
                have t_87 : (v40 - (1 : Int32)).toInt = v40.toInt - 1 := i_sub (x := v40) (y := (1 : Int32)) (by show (_ : Int) ≤ v40.toInt - 1; omega) (by show v40.toInt - 1 ≤ (_ : Int); omega)
                have hv_88 : vp_in (v40 - (1 : Int32)) 100 := vp_in_iff.mpr ⟨by omega, by omega⟩
                refine ⟨hv_88, ?_⟩
                refine ⟨?_, ?_⟩
                · intro q_89
                  replace H := f_f q_89 H
                  have t_90 := MI_a129 mσ hv_88
                  have b_91 : ¬ (gi σ 129 (v40 - (1 : Int32)).toNatClampNeg).toInt = 0 := fun h9 => q_89 (Int32.toInt_inj.mp h9)
                  refine ⟨hv_88, ?_⟩
                  intro σ45 eσ45
                  replace H := f_l eσ45 H
                  have mσ45 : MI σ45 := by rw [eσ45]; exact MIs_z129 mσ
                  have fσ45 : Fr [129] [] σ0 σ45 := by rw [eσ45]; exact Fr_si fσ (by decide +kernel) (fun h9 => absurd h9 (by decide +kernel))
                  intro v46 ev46
                  replace H := f_l ev46 H
                  have t_92 : (x4 + (1 : Int32)).toInt = x4.toInt + 1 := i_add (x := x4) (y := (1 : Int32)) (by show (_ : Int) ≤ x4.toInt + 1; omega) (by show x4.toInt + 1 ≤ (_ : Int); omega)
                  have t_93 : v46.toInt = (x4 + (1 : Int32)).toInt := congrArg Int32.toInt ev46
                  exact ih10 x1 x2 v40 v46 σ45 mσ45 fσ45 (by omega) (by omega) (by omega) (by omega) (by omega) (by omega) (by omega) (by omega) (by first | with_reducible assumption | with_reducible rfl | omega | assumption | rfl) (by first | with_reducible assumption | with_reducible rfl | omega | assumption | rfl) (by first | with_reducible assumption | with_reducible rfl | omega | assumption | rfl) (by first | (rw [g3 _ (by omega)]; omega) | omega) H (by omega)
                · intro q_89
                  replace H := f_t q_89 H
                  have t_94 := MI_a129 mσ hv_88
                  have b_95 : (gi σ 129 (v40 - (1 : Int32)).toNatClampNeg).toInt = 0 := congrArg Int32.toInt q_89
                  have hv_96 : vp_in v40 100 := vp_in_iff.mpr ⟨by omega, by omega⟩
                  refine ⟨hv_96, ?_⟩
                  refine ⟨?_, ?_⟩
                  · intro q_97
                    replace H := f_t q_97 H
                    have t_98 := MI_a129 mσ hv_96
                    have b_99 : (gi σ 129 v40.toNatClampNeg).toInt = 0 := congrArg Int32.toInt q_97
                    refine ⟨hv_88, ?_⟩
                    intro σ50 eσ50
                    replace H := f_l eσ50 H
                    have mσ50 : MI σ50 := by rw [eσ50]; exact MIs_z129 mσ
                    have fσ50 : Fr [129] [] σ0 σ50 := by rw [eσ50]; exact Fr_si fσ (by decide +kernel) (fun h9 => absurd h9 (by decide +kernel))
                    intro v51 ev51
                    replace H := f_l ev51 H
                    have t_100 : (x4 + (1 : Int32)).toInt = x4.toInt + 1 := i_add (x := x4) (y := (1 : Int32)) (by show (_ : Int) ≤ x4.toInt + 1; omega) (by show x4.toInt + 1 ≤ (_ : Int); omega)
                    have t_101 : v51.toInt = (x4 + (1 : Int32)).toInt := congrArg Int32.toInt ev51
                    exact ih10 x1 x2 v40 v51 σ50 mσ50 fσ50 (by omega) (by omega) (by omega) (by omega) (by omega) (by omega) (by omega) (by omega) (by first | with_reducible assumption | with_reducible rfl | omega | assumption | rfl) (by first | with_reducible assumption | with_reducible rfl | omega | assumption | rfl) (by first | with_reducible assumption | with_reducible rfl | omega | assumption | rfl) (by first | (rw [g3 _ (by omega)]; omega) | omega) H (by omega)
                  · intro q_97
                    replace H := f_f q_97 H
                    have t_102 := MI_a129 mσ hv_96
                    have b_103 : ¬ (gi σ 129 v40.toNatClampNeg).toInt = 0 := fun h9 => q_97 (Int32.toInt_inj.mp h9)
                    refine ⟨hv_88, ?_⟩
                    intro σ53 eσ53
                    replace H := f_l eσ53 H
                    have mσ53 : MI σ53 := by rw [eσ53]; exact MIs_z129 mσ
                    have fσ53 : Fr [129] [] σ0 σ53 := by rw [eσ53]; exact Fr_si fσ (by decide +kernel) (fun h9 => absurd h9 (by decide +kernel))
                    intro v54 ev54
                    replace H := f_l ev54 H
                    have t_104 : (x4 + (1 : Int32)).toInt = x4.toInt + 1 := i_add (x := x4) (y := (1 : Int32)) (by show (_ : Int) ≤ x4.toInt + 1; omega) (by show x4.toInt + 1 ≤ (_ : Int); omega)
                    have t_105 : v54.toInt = (x4 + (1 : Int32)).toInt := congrArg Int32.toInt ev54
                    exact ih10 x1 x2 v40 v54 σ53 mσ53 fσ53 (by omega) (by omega) (by omega) (by omega) (by omega) (by omega) (by omega) (by omega) (by first | with_reducible assumption | with_reducible rfl | omega | assumption | rfl) (by first | with_reducible assumption | with_reducible rfl | omega | assumption | rfl) (by first | with_reducible assumption | with_reducible rfl | omega | assumption | rfl) (by first | (rw [g3 _ (by omega)]; omega) | omega) H (by omega)
              · intro q_85
                replace H := f_t q_85 H
                have b_106 : v5.toInt = (-38) := congrArg Int32.toInt q_85
                have t_107 : (v40 - (1 : Int32)).toInt = v40.toInt - 1 := i_sub (x := v40) (y := (1 : Int32)) (by show (_ : Int) ≤ v40.toInt - 1; omega) (by show v40.toInt - 1 ≤ (_ : Int); omega)
                have hv_108 : vp_in (v40 - (1 : Int32)) 100 := vp_in_iff.mpr ⟨by omega, by omega⟩
                refine ⟨hv_108, ?_⟩
                refine ⟨?_, ?_⟩
                · intro q_109
                  replace H := f_t q_109 H
                  have t_110 := MI_a129 mσ hv_108
                  have b_111 : (gi σ 129 (v40 - (1 : Int32)).toNatClampNeg).toInt = 0 := congrArg Int32.toInt q_109
                  refine ⟨hv_108, ?_⟩
                  intro σ58 eσ58
                  replace H := f_l eσ58 H
                  have mσ58 : MI σ58 := by rw [eσ58]; exact MIs_z129 mσ
                  have fσ58 : Fr [129] [] σ0 σ58 := by rw [eσ58]; exact Fr_si fσ (by decide +kernel) (fun h9 => absurd h9 (by decide +kernel))
                  intro v59 ev59
                  replace H := f_l ev59 H
                  have t_112 : (x4 + (1 : Int32)).toInt = x4.toInt + 1 := i_add (x := x4) (y := (1 : Int32)) (by show (_ : Int) ≤ x4.toInt + 1; omega) (by show x4.toInt + 1 ≤ (_ : Int); omega)
                  have t_113 : v59.toInt = (x4 + (1 : Int32)).toInt := congrArg Int32.toInt ev59
                  exact ih10 x1 x2 v40 v59 σ58 mσ58 fσ58 (by omega) (by omega) (by omega) (by omega) (by omega) (by omega) (by omega) (by omega) (by first | with_reducible assumption | with_reducible rfl | omega | assumption | rfl) (by first | with_reducible assumption | with_reducible rfl | omega | assumption | rfl) (by first | with_reducible assumption | with_reducible rfl | omega | assumption | rfl) (by first | (rw [g3 _ (by omega)]; omega) | omega) H (by omega)
                · intro q_109
                  replace H := f_f q_109 H
                  have t_114 := MI_a129 mσ hv_108
                  have b_115 : ¬ (gi σ 129 (v40 - (1 : Int32)).toNatClampNeg).toInt = 0 := fun h9 => q_109 (Int32.toInt_inj.mp h9)
                  have hv_116 : vp_in v40 100 := vp_in_iff.mpr ⟨by omega, by omega⟩
                  refine ⟨hv_116, ?_⟩
                  refine ⟨?_, ?_⟩
                  · intro q_117
                    replace H := f_t q_117 H
                    have t_118 := MI_a129 mσ hv_116
                    have b_119 : (gi σ 129 v40.toNatClampNeg).toInt = 0 := congrArg Int32.toInt q_117
                    refine ⟨hv_108, ?_⟩
                    intro σ63 eσ63
                    replace H := f_l eσ63 H
                    have mσ63 : MI σ63 := by rw [eσ63]; exact MIs_z129 mσ
                    have fσ63 : Fr [129] [] σ0 σ63 := by rw [eσ63]; exact Fr_si fσ (by decide +kernel) (fun h9 => absurd h9 (by decide +kernel))
                    intro v64 ev64
                    replace H := f_l ev64 H
                    have t_120 : (x4 + (1 : Int32)).toInt = x4.toInt + 1 := i_add (x := x4) (y := (1 : Int32)) (by show (_ : Int) ≤ x4.toInt + 1; omega) (by show x4.toInt + 1 ≤ (_ : Int); omega)
                    have t_121 : v64.toInt = (x4 + (1 : Int32)).toInt := congrArg Int32.toInt ev64
                    exact ih10 x1 x2 v40 v64 σ63 mσ63 fσ63 (by omega) (by omega) (by omega) (by omega) (by omega) (by omega) (by omega) (by omega) (by first | with_reducible assumption | with_reducible rfl | omega | assumption | rfl) (by first | with_reducible assumption | with_reducible rfl | omega | assumption | rfl) (by first | with_reducible assumption | with_reducible rfl | omega | assumption | rfl) (by first | (rw [g3 _ (by omega)]; omega) | omega) H (by omega)
                  · intro q_117
                    replace H := f_f q_117 H
                    have t_122 := MI_a129 mσ hv_116
                    have b_123 : ¬ (gi σ 129 v40.toNatClampNeg).toInt = 0 := fun h9 => q_117 (Int32.toInt_inj.mp h9)
                    refine ⟨hv_108, ?_⟩
                    intro σ66 eσ66
                    replace H := f_l eσ66 H
                    have mσ66 : MI σ66 := by rw [eσ66]; exact MIs_z129 mσ
                    have fσ66 : Fr [129] [] σ0 σ66 := by rw [eσ66]; exact Fr_si fσ (by decide +kernel) (fun h9 => absurd h9 (by decide +kernel))
                    intro v67 ev67
                    replace H := f_l ev67 H
                    have t_124 : (x4 + (1 : Int32)).toInt = x4.toInt + 1 := i_add (x := x4) (y := (1 : Int32)) (by show (_ : Int) ≤ x4.toInt + 1; omega) (by show x4.toInt + 1 ≤ (_ : Int); omega)
                    have t_125 : v67.toInt = (x4 + (1 : Int32)).toInt := congrArg Int32.toInt ev67
                    exact ih10 x1 x2 v40 v67 σ66 mσ66 fσ66 (by omega) (by omega) (by omega) (by omega) (by omega) (by omega) (by omega) (by omega) (by first | with_reducible assumption | with_reducible rfl | omega | assumption | rfl) (by first | with_reducible assumption | with_reducible rfl | omega | assumption | rfl) (by first | with_reducible assumption | with_reducible rfl | omega | assumption | rfl) (by first | (rw [g3 _ (by omega)]; omega) | omega) H (by omega)
          · intro q_9
            replace H := f_t q_9 H
            have w_126 := Int32.toInt_lt v5
            have w_127 := Int32.le_toInt v5
            have b_128 : v5.toInt = (-33) := congrArg Int32.toInt q_9
            obtain ⟨j1, j2⟩ := un k1 q_9
            have t_129 : (x3 - (1 : Int32)).toInt = x3.toInt - 1 := i_sub (x := x3) (y := (1 : Int32)) (by show (_ : Int) ≤ x3.toInt - 1; omega) (by show x3.toInt - 1 ≤ (_ : Int); omega)
            have hv_130 : vp_in (x3 - (1 : Int32)) 100 := vp_in_iff.mpr ⟨by omega, by omega⟩
            refine ⟨hv_130, ?_⟩
            refine ⟨?_, ?_⟩
            · intro q_131
              replace H := f_f q_131 H
              have t_132 := MI_a129 mσ hv_130
              have b_133 : ¬ (gi σ 129 (x3 - (1 : Int32)).toNatClampNeg).toInt = 0 := fun h9 => q_131 (Int32.toInt_inj.mp h9)
              refine ⟨hv_130, ?_⟩
              intro σ71 eσ71
              replace H := f_l eσ71 H
              have mσ71 : MI σ71 := by rw [eσ71]; exact MIs_z129 mσ
              have fσ71 : Fr [129] [] σ0 σ71 := by rw [eσ71]; exact Fr_si fσ (by decide +kernel) (fun h9 => absurd h9 (by decide +kernel))
              intro v72 ev72
              replace H := f_l ev72 H
              have t_134 : (x4 + (1 : Int32)).toInt = x4.toInt + 1 := i_add (x := x4) (y := (1 : Int32)) (by show (_ : Int) ≤ x4.toInt + 1; omega) (by show x4.toInt + 1 ≤ (_ : Int); omega)
              have t_135 : v72.toInt = (x4 + (1 : Int32)).toInt := congrArg Int32.toInt ev72
              exact ih10 x1 x2 x3 v72 σ71 mσ71 fσ71 (by omega) (by omega) (by omega) (by omega) (by omega) (by omega) (by omega) (by omega) (by first | with_reducible assumption | with_reducible rfl | omega | assumption | rfl) (by first | with_reducible assumption | with_reducible rfl | omega | assumption | rfl) (by first | with_reducible assumption | with_reducible rfl | omega | assumption | rfl) (by first | (rw [g3 _ (by omega)]; omega) | omega) H (by omega)
            · intro q_131
              replace H := f_t q_131 H
              have t_136 := MI_a129 mσ hv_130
              have b_137 : (gi σ 129 (x3 - (1 : Int32)).toNatClampNeg).toInt = 0 := congrArg Int32.toInt q_131
              refine ⟨hv_130, ?_⟩
              intro σ74 eσ74
              replace H := f_l eσ74 H
              have mσ74 : MI σ74 := by rw [eσ74]; exact MIs_z129 mσ
              have fσ74 : Fr [129] [] σ0 σ74 := by rw [eσ74]; exact Fr_si fσ (by decide +kernel) (fun h9 => absurd h9 (by decide +kernel))
              intro v75 ev75
              replace H := f_l ev75 H
              have t_138 : (x4 + (1 : Int32)).toInt = x4.toInt + 1 := i_add (x := x4) (y := (1 : Int32)) (by show (_ : Int) ≤ x4.toInt + 1; omega) (by show x4.toInt + 1 ≤ (_ : Int); omega)
              have t_139 : v75.toInt = (x4 + (1 : Int32)).toInt := congrArg Int32.toInt ev75
              exact ih10 x1 x2 x3 v75 σ74 mσ74 fσ74 (by omega) (by omega) (by omega) (by omega) (by omega) (by omega) (by omega) (by omega) (by first | with_reducible assumption | with_reducible rfl | omega | assumption | rfl) (by first | with_reducible assumption | with_reducible rfl | omega | assumption | rfl) (by first | with_reducible assumption | with_reducible rfl | omega | assumption | rfl) (by first | (rw [g3 _ (by omega)]; omega) | omega) H (by omega)
  have U10 := T 700
  have f0 : Fr [129] [] σ0 σ0 := Fr_rf
  have H := H0
  unfold F_X12_holds at H
  refine s_X12_holds_0 C hN ?_
  have hv_140 : vp_in a1 60 := vp_in_iff.mpr ⟨by omega, by omega⟩
  refine ⟨hv_140, ?_⟩
  intro v2 ev2
  replace H := f_l ev2 H
  have e9 : v2.toInt = lo := by rw [ev2]; exact e1
  have e10 : G v2.toInt = 0 := by rw [e9]; exact hG0
  have z_141 : (0 : Int32).toInt = 0 := rfl
  exact U10 a1 a2 (0 : Int32) v2 σ0 m0 f0 (by omega) (by omega) (by omega) (by omega) (by omega) (by omega) (by omega) (by omega) (by first | with_reducible assumption | with_reducible rfl | omega | assumption | rfl) (by first | with_reducible assumption | with_reducible rfl | omega | assumption | rfl) (by first | with_reducible assumption | with_reducible rfl | omega | assumption | rfl) (by first | (rw [g3 _ (by omega)]; omega) | omega) H (by omega)
set_option maxRecDepth 100000 in
set_option maxHeartbeats 4000000 in
theorem kF_X12_paceAt {l : Launch} {V : Vx} {a1 : Int32} {σ0 : Sg} {Qk : Int32 → Sg → Prop} (m0 : MI σ0) (l_a1 : 0 ≤ a1.toInt) (u_a1 : a1.toInt ≤ 5) (h9ret : ∀ (r : Int32) (σ' : Sg), MI σ' → Fr [74, 129] [30] σ0 σ' → (F_X12_paceAt a1 σ0 = (r, σ')) → Qk r σ') : K_X12_paceAt l V a1 σ0 Qk := by
  refine e_X12_paceAt (fun M hl hV hN C => ?_)
  subst hl
  subst hV
  obtain ⟨R9, H0⟩ : ∃ R9, F_X12_paceAt a1 σ0 = R9 := ⟨_, rfl⟩
  have T : ∀ n : Nat, (∀ (x1 : Int32) (x2 : Int32) (x3 : Int32) (σ : Sg), MI σ → Fr [74, 129] [30] σ0 σ → (0 ≤ x1.toInt) → (x1.toInt ≤ 5) → (0 ≤ x3.toInt) → (x3.toInt ≤ 60) → ((gi σ 74 12).toInt = (gi σ0 74 12).toInt) → ((gi σ0 74 12).toInt < 0 ∨ (0 ≤ (gi σ0 74 12).toInt ∧ 10 * (gi σ0 74 12).toInt ≤ x3.toInt)) → (LF_X12_paceAt n x1 x2 x3 σ = R9) → (61 - x3.toInt).toNat < n → PS M 13 [(0, .ref 74), (1, .int x1), (2, .int x2), (3, .int x3)] [] σ (0, 0)) := by
    intro n
    induction n with
    | zero => exact fun _ _ _ _ _ _ _ _ _ _ _ _ _ h8 => absurd h8 (Nat.not_lt_zero _)
    | succ n ih =>
      have ih13 := ih
      · intro x1 x2 x3 σ mσ fσ lx1 ux1 lx3 ux3 i0 i1 H hmu
        replace H : LB_X12_paceAt_13 (LF_X12_paceAt n) x1 x2 x3 σ = R9 := H
        unfold LB_X12_paceAt_13 at H
        refine s_X12_paceAt_13 C hN ?_
        refine kF_X12_behind mσ  (fun r2 σ1 mσ1 cσ1 plσ1 phσ1 (pσ1_0 : ((gi σ 74 12).toInt < 0 ∧ r2.toInt = 0) ∨ (0 ≤ (gi σ 74 12).toInt ∧ r2.toInt = 10 * (gi σ 74 12).toInt + (gi σ 117 (gi σ 74 12).toNatClampNeg).toInt)) hσ1 => ?_)
        obtain rfl := Fr_nil cσ1
        replace H := f_b hσ1 H
        have t_1 := MI_f12 mσ
        refine ⟨?_, ?_⟩
        · intro q_2
          replace H := f_t q_2 H
          have b_3 : r2.toInt ≤ x3.toInt := Int32.le_iff_toInt_le.mp q_2
          refine kF_X12_most mσ  (fun r5 σ4 mσ4 cσ4 (pσ4_0 : (0 : Int) ≤ r5.toInt ∧ x2.toInt ≤ r5.toInt ∧ (r5.toInt = (0 : Int) ∨ r5.toInt = x2.toInt)) hσ4 => ?_)
          obtain rfl := Fr_nil cσ4
          replace H := f_b hσ4 H
          exact h9ret r5 σ mσ fσ (H0.trans H.symm)
        · intro q_2
          replace H := f_f q_2 H
          have b_4 : ¬ r2.toInt ≤ x3.toInt := fun h9 => q_2 (Int32.le_iff_toInt_le.mpr h9)
          have hv_5 : vp_in x3 60 := vp_in_iff.mpr ⟨by omega, by omega⟩
          refine ⟨hv_5, ?_⟩
          refine ⟨?_, ?_⟩
          · intro q_6
            replace H := f_t q_6 H
            have b_7 : (1 : Int) < (gi σ 118 x3.toNatClampNeg).toInt := Int32.lt_iff_toInt_lt.mp q_6
            intro v8 ev8
            replace H := f_l ev8 H
            have t_8 : (x3 + (1 : Int32)).toInt = x3.toInt + 1 := i_add (x := x3) (y := (1 : Int32)) (by show (_ : Int) ≤ x3.toInt + 1; omega) (by show x3.toInt + 1 ≤ (_ : Int); omega)
            have t_9 : v8.toInt = (x3 + (1 : Int32)).toInt := congrArg Int32.toInt ev8
            exact ih13 x1 x2 v8 σ mσ fσ (by omega) (by omega) (by omega) (by omega) (by first | with_reducible assumption | with_reducible rfl | omega | assumption | rfl) (by first | with_reducible assumption | with_reducible rfl | omega | assumption | rfl) H (by omega)
          · intro q_6
            replace H := f_f q_6 H
            have b_10 : ¬ (1 : Int) < (gi σ 118 x3.toNatClampNeg).toInt := fun h9 => q_6 (Int32.lt_iff_toInt_lt.mpr h9)
            have hv_11 : vp_in x1 6 := vp_in_iff.mpr ⟨by omega, by omega⟩
            refine ⟨hv_11, ?_⟩
            have t_12 := MI_a110 mσ hv_11
            refine kF_X12_holds mσ (by omega) (by omega) (by omega) (by omega) (okCl_of mσ (by omega) (by omega) (by omega) (by omega)) (fun r11 σ10 mσ10 cσ10 plσ10 phσ10 hσ10 => ?_)
            replace H := f_b hσ10 H
            have fσ10 : Fr [74, 129] [30] σ0 σ10 := Fr_tr fσ cσ10 (by decide +kernel) (by decide +kernel)
            have k_13 : (gi σ10 74 12).toInt = (gi σ 74 12).toInt := congrArg Int32.toInt (cσ10.2.1 12 (by decide +kernel))
            refine ⟨?_, ?_⟩
            · intro q_14
              replace H := f_f q_14 H
              have b_15 : ¬ r11.toInt = 0 := fun h9 => q_14 (Int32.toInt_inj.mp h9)
              refine ⟨hv_5, ?_⟩
              refine ⟨?_, ?_⟩
              · intro q_16
                replace H := f_f q_16 H
                have b_17 : ¬ (gi σ10 118 x3.toNatClampNeg).toInt = 0 := fun h9 => q_16 (Int32.toInt_inj.mp h9)
                refine ⟨hv_5, ?_⟩
                intro v16 ev16
                replace H := f_l ev16 H
                intro v17 ev17
                replace H := f_l ev17 H
                have t_18 : (x3 + (1 : Int32)).toInt = x3.toInt + 1 := i_add (x := x3) (y := (1 : Int32)) (by show (_ : Int) ≤ x3.toInt + 1; omega) (by show x3.toInt + 1 ≤ (_ : Int); omega)
                have t_19 : v17.toInt = (x3 + (1 : Int32)).toInt := congrArg Int32.toInt ev17
                exact ih13 x1 v16 v17 σ10 mσ10 fσ10 (by omega) (by omega) (by omega) (by omega) (by first | with_reducible assumption | with_reducible rfl | omega | assumption | rfl) (by first | with_reducible assumption | with_reducible rfl | omega | assumption | rfl) H (by omega)
              · intro q_16
                replace H := f_t q_16 H
                have b_20 : (gi σ10 118 x3.toNatClampNeg).toInt = 0 := congrArg Int32.toInt q_16
                refine ⟨hv_5, ?_⟩
                intro v19 ev19
                replace H := f_l ev19 H
                intro v20 ev20
                replace H := f_l ev20 H
                have t_21 : (x3 + (1 : Int32)).toInt = x3.toInt + 1 := i_add (x := x3) (y := (1 : Int32)) (by show (_ : Int) ≤ x3.toInt + 1; omega) (by show x3.toInt + 1 ≤ (_ : Int); omega)
                have t_22 : v20.toInt = (x3 + (1 : Int32)).toInt := congrArg Int32.toInt ev20
                exact ih13 x1 v19 v20 σ10 mσ10 fσ10 (by omega) (by omega) (by omega) (by omega) (by first | with_reducible assumption | with_reducible rfl | omega | assumption | rfl) (by first | with_reducible assumption | with_reducible rfl | omega | assumption | rfl) H (by omega)
            · intro q_14
              replace H := f_t q_14 H
              have b_23 : r11.toInt = 0 := congrArg Int32.toInt q_14
              intro v21 ev21
              replace H := f_l ev21 H
              have t_24 : (x3 + (1 : Int32)).toInt = x3.toInt + 1 := i_add (x := x3) (y := (1 : Int32)) (by show (_ : Int) ≤ x3.toInt + 1; omega) (by show x3.toInt + 1 ≤ (_ : Int); omega)
              have t_25 : v21.toInt = (x3 + (1 : Int32)).toInt := congrArg Int32.toInt ev21
              exact ih13 x1 x2 v21 σ10 mσ10 fσ10 (by omega) (by omega) (by omega) (by omega) (by first | with_reducible assumption | with_reducible rfl | omega | assumption | rfl) (by first | with_reducible assumption | with_reducible rfl | omega | assumption | rfl) H (by omega)
  have U13 := T 90
  have f0 : Fr [74, 129] [30] σ0 σ0 := Fr_rf
  have H := H0
  unfold F_X12_paceAt at H
  refine s_X12_paceAt_0 C hN ?_
  intro σ1 eσ1
  replace H := f_l eσ1 H
  have mσ1 : MI σ1 := by rw [eσ1]; exact MIs_f30 m0 (by omega) (by omega)
  have fσ1 : Fr [74, 129] [30] σ0 σ1 := by rw [eσ1]; exact Fr_si f0 (by decide +kernel) (fun _ => by decide +kernel)
  have k_26 : (gi σ1 74 12).toInt = (gi σ0 74 12).toInt := gk_r eσ1 rfl
  refine kF_X12_begin mσ1  (fun r3 σ2 mσ2 cσ2 plσ2 phσ2 (pσ2_0 : ((gi σ1 74 12).toInt < 0 ∧ r3.toInt = 0) ∨ (0 ≤ (gi σ1 74 12).toInt ∧ r3.toInt = 10 * (gi σ1 74 12).toInt)) hσ2 => ?_)
  obtain rfl := Fr_nil cσ2
  replace H := f_b hσ2 H
  have t_27 := MI_f12 mσ1
  have z_28 : (6 : Int32).toInt = 6 := rfl
  exact U13 a1 (6 : Int32) r3 σ1 mσ1 fσ1 (by omega) (by omega) (by omega) (by omega) (by first | with_reducible assumption | with_reducible rfl | omega | assumption | rfl) (by first | with_reducible assumption | with_reducible rfl | omega | assumption | rfl) H (by omega)
set_option maxRecDepth 100000 in
set_option maxHeartbeats 4000000 in
theorem kF_X12_strideAt {l : Launch} {V : Vx} {a1 : Int32} {σ0 : Sg} {Qk : Int32 → Sg → Prop} (m0 : MI σ0) (l_a1 : 0 ≤ a1.toInt) (u_a1 : a1.toInt ≤ 5) (h9ret : ∀ (r : Int32) (σ' : Sg), MI σ' → Fr [74, 129] [30] σ0 σ' → ((gi σ' 74 1).toInt = (gi σ0 74 1).toInt) → (F_X12_strideAt a1 σ0 = (r, σ')) → Qk r σ') : K_X12_strideAt l V a1 σ0 Qk := by
  refine e_X12_strideAt (fun M hl hV hN C => ?_)
  subst hl
  subst hV
  obtain ⟨R9, H0⟩ : ∃ R9, F_X12_strideAt a1 σ0 = R9 := ⟨_, rfl⟩
  have f0 : Fr [74, 129] [30] σ0 σ0 := Fr_rf
  have H := H0
  unfold F_X12_strideAt at H
  refine s_X12_strideAt_0 C hN ?_
  have hv_1 : vp_in a1 6 := vp_in_iff.mpr ⟨by omega, by omega⟩
  refine ⟨hv_1, ?_⟩
  intro v2 ev2
  replace H := f_l ev2 H
  have t_2 := MI_a110 m0 hv_1
  have t_3 : v2.toInt = (gi σ0 110 a1.toNatClampNeg).toInt := congrArg Int32.toInt ev2
  refine kF_X12_paceAt m0 (by omega) (by omega) (fun r4 σ3 mσ3 cσ3 hσ3 => ?_)
  replace H := f_b hσ3 H
  have fσ3 : Fr [74, 129] [30] σ0 σ3 := Fr_tr f0 cσ3 (by decide +kernel) (by decide +kernel)
  have k_4 : (gi σ3 74 1).toInt = (gi σ0 74 1).toInt := congrArg Int32.toInt (cσ3.2.1 1 (by decide +kernel))
  refine kF_X12_strideOf mσ3 (by omega) (by omega) (by omega) (by omega) (fun r6 σ5 mσ5 cσ5 hσ5 => ?_)
  obtain rfl := Fr_nil cσ5
  replace H := f_b hσ5 H
  refine kF_X12_most mσ3  (fun r8 σ7 mσ7 cσ7 (pσ7_0 : (0 : Int) ≤ r8.toInt ∧ r6.toInt ≤ r8.toInt ∧ (r8.toInt = (0 : Int) ∨ r8.toInt = r6.toInt)) hσ7 => ?_)
  obtain rfl := Fr_nil cσ7
  replace H := f_b hσ7 H
  have hv_5 : vp_in v2 6 := vp_in_iff.mpr ⟨by omega, by omega⟩
  refine ⟨hv_5, ?_⟩
  refine ⟨?_, ?_⟩
  · intro q_6
    replace H := f_f q_6 H
    have b_7 : ¬ (gi σ3 106 v2.toNatClampNeg).toInt = 0 := fun h9 => q_6 (Int32.toInt_inj.mp h9)
    exact h9ret r8 σ3 mσ3 fσ3 (by first | with_reducible assumption | with_reducible rfl | omega | assumption | rfl) (H0.trans H.symm)
  · intro q_6
    replace H := f_t q_6 H
    have b_8 : (gi σ3 106 v2.toNatClampNeg).toInt = 0 := congrArg Int32.toInt q_6
    exact h9ret (r8 / (2 : Int32)) σ3 mσ3 fσ3 (by first | with_reducible assumption | with_reducible rfl | omega | assumption | rfl) (H0.trans H.symm)
set_option maxRecDepth 100000 in
set_option maxHeartbeats 4000000 in
theorem kF_X12_goes {l : Launch} {V : Vx} {a1 : Int32} {σ0 : Sg} {Qk : Int32 → Sg → Prop} (m0 : MI σ0) (l_a1 : 0 ≤ a1.toInt) (u_a1 : a1.toInt ≤ 5) (h9ret : ∀ (r : Int32) (σ' : Sg), MI σ' → Fr [105, 106, 107, 108] [] σ0 σ' → (0 ≤ r.toInt) → (r.toInt ≤ 1) → (F_X12_goes a1 σ0 = (r, σ')) → Qk r σ') : K_X12_goes l V a1 σ0 Qk := by
  refine e_X12_goes (fun M hl hV hN C => ?_)
  subst hl
  subst hV
  obtain ⟨R9, H0⟩ : ∃ R9, F_X12_goes a1 σ0 = R9 := ⟨_, rfl⟩
  have T : ∀ n : Nat, (∀ (x1 : Int32) (x2 : Int32) (z0 : Int32) (σ : Sg), MI σ → Fr [105, 106, 107, 108] [] σ0 σ → (0 ≤ x1.toInt) → (x1.toInt ≤ 5) → (0 ≤ x2.toInt) → (x2.toInt ≤ 5) → (z0.toInt ≤ 9999) → (LF_X12_goes n 0 x1 x2 z0 0 σ = R9) → 2 < n → PS M 82 [(0, .ref 74), (1, .int x1), (2, .int x2)] [.int z0] σ (0, 0)) ∧ (∀ (x1 : Int32) (x5 : Int32) (σ : Sg), MI σ → Fr [105, 106, 107, 108] [] σ0 σ → (0 ≤ x1.toInt) → (x1.toInt ≤ 5) → (LF_X12_goes n 1 x1 0 0 x5 σ = R9) → 1 < n → PS M 203 [(0, .ref 74), (1, .int x1), (5, .int x5)] [] σ (0, 0)) := by
    intro n
    induction n with
    | zero => exact ⟨fun _ _ _ _ _ _ _ _ _ _ _ _ h8 => absurd h8 (Nat.not_lt_zero _), fun _ _ _ _ _ _ _ _ h8 => absurd h8 (Nat.not_lt_zero _)⟩
    | succ n ih =>
      obtain ⟨ih82, ih203⟩ := ih
      refine ⟨?_, ?_⟩
      · intro x1 x2 z0 σ mσ fσ lx1 ux1 lx2 ux2 i0 H hmu
        replace H : LB_X12_goes_82 (LF_X12_goes n) x1 x2 z0 σ = R9 := H
        unfold LB_X12_goes_82 at H
        refine s_X12_goes_82 C hN ?_
        have hv_1 : vp_in x2 6 := vp_in_iff.mpr ⟨by omega, by omega⟩
        refine ⟨hv_1, ?_⟩
        refine ⟨hv_1, ?_⟩
        have hv_2 : vp_in x1 6 := vp_in_iff.mpr ⟨by omega, by omega⟩
        refine ⟨hv_2, ?_⟩
        have t_3 := MI_a105 mσ hv_1
        refine kF_X12_least mσ  (fun r5 σ4 mσ4 cσ4 (pσ4_0 : r5.toInt ≤ z0.toInt ∧ r5.toInt ≤ ((gi σ 105 x2.toNatClampNeg) + (gi σ 131 x1.toNatClampNeg)).toInt ∧ (r5.toInt = z0.toInt ∨ r5.toInt = ((gi σ 105 x2.toNatClampNeg) + (gi σ 131 x1.toNatClampNeg)).toInt)) hσ4 => ?_)
        obtain rfl := Fr_nil cσ4
        replace H := f_b hσ4 H
        refine kF_X12_most mσ  (fun r7 σ6 mσ6 cσ6 (pσ6_0 : (gi σ 105 x2.toNatClampNeg).toInt ≤ r7.toInt ∧ r5.toInt ≤ r7.toInt ∧ (r7.toInt = (gi σ 105 x2.toNatClampNeg).toInt ∨ r7.toInt = r5.toInt)) hσ6 => ?_)
        obtain rfl := Fr_nil cσ6
        replace H := f_b hσ6 H
        refine ⟨hv_1, ?_⟩
        intro v9 ev9
        replace H := f_l ev9 H
        refine ⟨hv_1, ?_⟩
        intro σ11 eσ11
        replace H := f_l eσ11 H
        have w_4 := Int32.toInt_lt r7
        have w_5 := Int32.le_toInt r7
        have mσ11 : MI σ11 := by rw [eσ11]; exact MIs_a105 mσ (by omega) (by omega)
        have fσ11 : Fr [105, 106, 107, 108] [] σ0 σ11 := by rw [eσ11]; exact Fr_si fσ (by decide +kernel) (fun h9 => absurd h9 (by decide +kernel))
        refine ⟨?_, ?_⟩
        · intro q_6
          replace H := f_t q_6 H
          have w_7 := Int32.toInt_lt v9
          have w_8 := Int32.le_toInt v9
          have b_9 : v9.toInt ≤ 0 := Int32.le_iff_toInt_le.mp q_6
          refine ⟨hv_1, ?_⟩
          refine kF_X12_most mσ11  (fun r15 σ14 mσ14 cσ14 (pσ14_0 : (0 : Int) ≤ r15.toInt ∧ ((gi σ11 107 x2.toNatClampNeg) - (2 : Int32)).toInt ≤ r15.toInt ∧ (r15.toInt = (0 : Int) ∨ r15.toInt = ((gi σ11 107 x2.toNatClampNeg) - (2 : Int32)).toInt)) hσ14 => ?_)
          obtain rfl := Fr_nil cσ14
          replace H := f_b hσ14 H
          refine ⟨hv_1, ?_⟩
          intro σ17 eσ17
          replace H := f_l eσ17 H
          have mσ17 : MI σ17 := by rw [eσ17]; exact MIs_au (a := 107) mσ11 rfl rfl
          have fσ17 : Fr [105, 106, 107, 108] [] σ0 σ17 := by rw [eσ17]; exact Fr_si fσ11 (by decide +kernel) (fun h9 => absurd h9 (by decide +kernel))
          exact ih203 x1 v9 σ17 mσ17 fσ17 (by omega) (by omega) H (by omega)
        · intro q_6
          replace H := f_f q_6 H
          have w_10 := Int32.toInt_lt v9
          have w_11 := Int32.le_toInt v9
          have b_12 : ¬ v9.toInt ≤ 0 := fun h9 => q_6 (Int32.le_iff_toInt_le.mpr h9)
          refine ⟨hv_1, ?_⟩
          refine kF_X12_most mσ11  (fun r20 σ19 mσ19 cσ19 (pσ19_0 : (0 : Int) ≤ r20.toInt ∧ ((gi σ11 106 x2.toNatClampNeg) - (1 : Int32)).toInt ≤ r20.toInt ∧ (r20.toInt = (0 : Int) ∨ r20.toInt = ((gi σ11 106 x2.toNatClampNeg) - (1 : Int32)).toInt)) hσ19 => ?_)
          obtain rfl := Fr_nil cσ19
          replace H := f_b hσ19 H
          refine ⟨hv_1, ?_⟩
          intro σ22 eσ22
          replace H := f_l eσ22 H
          have mσ22 : MI σ22 := by rw [eσ22]; exact MIs_au (a := 106) mσ11 rfl rfl
          have fσ22 : Fr [105, 106, 107, 108] [] σ0 σ22 := by rw [eσ22]; exact Fr_si fσ11 (by decide +kernel) (fun h9 => absurd h9 (by decide +kernel))
          refine ⟨hv_1, ?_⟩
          refine kF_X12_lastOf mσ22  (fun r25 σ24 mσ24 cσ24 hσ24 => ?_)
          obtain rfl := Fr_nil cσ24
          replace H := f_b hσ24 H
          refine kF_X12_least mσ22  (fun r27 σ26 mσ26 cσ26 (pσ26_0 : r27.toInt ≤ (99 : Int) ∧ r27.toInt ≤ ((gi σ22 107 x2.toNatClampNeg) + r25).toInt ∧ (r27.toInt = (99 : Int) ∨ r27.toInt = ((gi σ22 107 x2.toNatClampNeg) + r25).toInt)) hσ26 => ?_)
          obtain rfl := Fr_nil cσ26
          replace H := f_b hσ26 H
          refine ⟨hv_1, ?_⟩
          intro σ29 eσ29
          replace H := f_l eσ29 H
          have mσ29 : MI σ29 := by rw [eσ29]; exact MIs_au (a := 107) mσ22 rfl rfl
          have fσ29 : Fr [105, 106, 107, 108] [] σ0 σ29 := by rw [eσ29]; exact Fr_si fσ22 (by decide +kernel) (fun h9 => absurd h9 (by decide +kernel))
          exact ih203 x1 v9 σ29 mσ29 fσ29 (by omega) (by omega) H (by omega)
      · intro x1 x5 σ mσ fσ lx1 ux1 H hmu
        replace H : LB_X12_goes_203 (LF_X12_goes n) x1 x5 σ = R9 := H
        unfold LB_X12_goes_203 at H
        refine s_X12_goes_203 C hN ?_
        have hv_13 : vp_in x1 6 := vp_in_iff.mpr ⟨by omega, by omega⟩
        refine ⟨hv_13, ?_⟩
        refine ⟨?_, ?_⟩
        · intro q_14
          replace H := f_t q_14 H
          have w_15 := Int32.toInt_lt x5
          have w_16 := Int32.le_toInt x5
          have b_17 : (gi σ 131 x1.toNatClampNeg).toInt ≤ x5.toInt := Int32.le_iff_toInt_le.mp q_14
          have z_18 : (0 : Int32).toInt = 0 := rfl
          exact h9ret (0 : Int32) σ mσ fσ (by omega) (by omega) (H0.trans H.symm)
        · intro q_14
          replace H := f_f q_14 H
          have w_19 := Int32.toInt_lt x5
          have w_20 := Int32.le_toInt x5
          have b_21 : ¬ (gi σ 131 x1.toNatClampNeg).toInt ≤ x5.toInt := fun h9 => q_14 (Int32.le_iff_toInt_le.mpr h9)
          have z_22 : (1 : Int32).toInt = 1 := rfl
          exact h9ret (1 : Int32) σ mσ fσ (by omega) (by omega) (H0.trans H.symm)
  obtain ⟨U82, U203⟩ := T 9
  have f0 : Fr [105, 106, 107, 108] [] σ0 σ0 := Fr_rf
  have H := H0
  unfold F_X12_goes at H
  refine s_X12_goes_0 C hN ?_
  have hv_23 : vp_in a1 6 := vp_in_iff.mpr ⟨by omega, by omega⟩
  refine ⟨hv_23, ?_⟩
  intro v2 ev2
  replace H := f_l ev2 H
  have t_24 := MI_a110 m0 hv_23
  have t_25 : v2.toInt = (gi σ0 110 a1.toNatClampNeg).toInt := congrArg Int32.toInt ev2
  have hv_26 : vp_in v2 6 := vp_in_iff.mpr ⟨by omega, by omega⟩
  refine ⟨hv_26, ?_⟩
  refine ⟨?_, ?_⟩
  · intro q_27
    replace H := f_t q_27 H
    have b_28 : (gi σ0 108 v2.toNatClampNeg).toInt ≤ 0 := Int32.le_iff_toInt_le.mp q_27
    refine ⟨?_, ?_⟩
    · intro q_29
      replace H := f_f q_29 H
      have b_30 : ¬ a1.toInt = 0 := fun h9 => q_29 (Int32.toInt_inj.mp h9)
      have t_31 : (a1 - (1 : Int32)).toInt = a1.toInt - 1 := i_sub (x := a1) (y := (1 : Int32)) (by show (_ : Int) ≤ a1.toInt - 1; omega) (by show a1.toInt - 1 ≤ (_ : Int); omega)
      have hv_32 : vp_in (a1 - (1 : Int32)) 6 := vp_in_iff.mpr ⟨by omega, by omega⟩
      refine ⟨hv_32, ?_⟩
      have t_33 := MI_a110 m0 hv_32
      have hv_34 : vp_in (gi σ0 110 (a1 - (1 : Int32)).toNatClampNeg) 6 := vp_in_iff.mpr ⟨by omega, by omega⟩
      refine ⟨hv_34, ?_⟩
      refine kF_X12_gap m0  (fun r9 σ8 mσ8 cσ8 hσ8 => ?_)
      obtain rfl := Fr_nil cσ8
      replace H := f_b hσ8 H
      have t_35 := MI_a105 m0 hv_34
      refine kF_X12_least m0  (fun r11 σ10 mσ10 cσ10 (pσ10_0 : r11.toInt ≤ (9999 : Int) ∧ r11.toInt ≤ ((gi σ0 105 (gi σ0 110 (a1 - (1 : Int32)).toNatClampNeg).toNatClampNeg) - r9).toInt ∧ (r11.toInt = (9999 : Int) ∨ r11.toInt = ((gi σ0 105 (gi σ0 110 (a1 - (1 : Int32)).toNatClampNeg).toNatClampNeg) - r9).toInt)) hσ10 => ?_)
      obtain rfl := Fr_nil cσ10
      replace H := f_b hσ10 H
      exact U82 a1 v2 r11 σ0 m0 f0 (by omega) (by omega) (by omega) (by omega) (by first | with_reducible assumption | with_reducible rfl | omega | assumption | rfl) H (by omega)
    · intro q_29
      replace H := f_t q_29 H
      have b_36 : a1.toInt = 0 := congrArg Int32.toInt q_29
      have z_37 : (9999 : Int32).toInt = 9999 := rfl
      exact U82 a1 v2 (9999 : Int32) σ0 m0 f0 (by omega) (by omega) (by omega) (by omega) (by first | with_reducible assumption | with_reducible rfl | omega | assumption | rfl) H (by omega)
  · intro q_27
    replace H := f_f q_27 H
    have b_38 : ¬ (gi σ0 108 v2.toNatClampNeg).toInt ≤ 0 := fun h9 => q_27 (Int32.le_iff_toInt_le.mpr h9)
    refine ⟨hv_26, ?_⟩
    refine ⟨hv_26, ?_⟩
    intro σ14 eσ14
    replace H := f_l eσ14 H
    have mσ14 : MI σ14 := by rw [eσ14]; exact MIs_au (a := 108) m0 rfl rfl
    have fσ14 : Fr [105, 106, 107, 108] [] σ0 σ14 := by rw [eσ14]; exact Fr_si f0 (by decide +kernel) (fun h9 => absurd h9 (by decide +kernel))
    refine ⟨hv_26, ?_⟩
    refine kF_X12_most mσ14  (fun r17 σ16 mσ16 cσ16 (pσ16_0 : (0 : Int) ≤ r17.toInt ∧ ((gi σ14 107 v2.toNatClampNeg) - (2 : Int32)).toInt ≤ r17.toInt ∧ (r17.toInt = (0 : Int) ∨ r17.toInt = ((gi σ14 107 v2.toNatClampNeg) - (2 : Int32)).toInt)) hσ16 => ?_)
    obtain rfl := Fr_nil cσ16
    replace H := f_b hσ16 H
    refine ⟨hv_26, ?_⟩
    intro σ19 eσ19
    replace H := f_l eσ19 H
    have mσ19 : MI σ19 := by rw [eσ19]; exact MIs_au (a := 107) mσ14 rfl rfl
    have fσ19 : Fr [105, 106, 107, 108] [] σ0 σ19 := by rw [eσ19]; exact Fr_si fσ14 (by decide +kernel) (fun h9 => absurd h9 (by decide +kernel))
    have z_39 : (0 : Int32).toInt = 0 := rfl
    exact h9ret (0 : Int32) σ19 mσ19 fσ19 (by omega) (by omega) (H0.trans H.symm)
set_option maxRecDepth 100000 in
set_option maxHeartbeats 4000000 in
theorem kF_X12_goMinute {l : Launch} {V : Vx} {σ0 : Sg} {Qk : Int32 → Sg → Prop} (m0 : MI σ0) (pre0 : (gi σ0 74 1).toInt ≤ 19000) (h9ret : ∀ (r : Int32) (σ' : Sg), MI σ' → Fr [74, 105, 106, 107, 108, 129, 131, 132] [1, 30] σ0 σ' → ((gi σ' 74 1).toInt = (gi σ0 74 1).toInt + 1) → (F_X12_goMinute σ0 = (r, σ')) → Qk r σ') : K_X12_goMinute l V σ0 Qk := by
  refine e_X12_goMinute (fun M hl hV hN C => ?_)
  subst hl
  subst hV
  obtain ⟨R9, H0⟩ : ∃ R9, F_X12_goMinute σ0 = R9 := ⟨_, rfl⟩
  have T : ∀ n : Nat, (∀ (x1 : Int32) (σ : Sg), MI σ → Fr [74, 105, 106, 107, 108, 129, 131, 132] [1, 30] σ0 σ → (0 ≤ x1.toInt) → (x1.toInt ≤ 6) → ((gi σ 74 1).toInt = (gi σ0 74 1).toInt) → (LF_X12_goMinute n 0 x1 0 σ = R9) → (7 - x1.toInt).toNat + 100 < n → PS M 2 [(0, .ref 74), (1, .int x1)] [] σ (0, 0)) ∧ (∀ (x1 : Int32) (x2 : Int32) (σ : Sg), MI σ → Fr [74, 105, 106, 107, 108, 129, 131, 132] [1, 30] σ0 σ → (0 ≤ x2.toInt) → (x2.toInt ≤ 6) → ((gi σ 74 1).toInt = (gi σ0 74 1).toInt) → (LF_X12_goMinute n 1 x1 x2 σ = R9) → (7 - x2.toInt).toNat < n → PS M 31 [(0, .ref 74), (1, .int x1), (2, .int x2)] [] σ (0, 0)) := by
    intro n
    induction n with
    | zero => exact ⟨fun _ _ _ _ _ _ _ _ h8 => absurd h8 (Nat.not_lt_zero _), fun _ _ _ _ _ _ _ _ _ h8 => absurd h8 (Nat.not_lt_zero _)⟩
    | succ n ih =>
      obtain ⟨ih2, ih31⟩ := ih
      refine ⟨?_, ?_⟩
      · intro x1 σ mσ fσ lx1 ux1 i0 H hmu
        replace H : LB_X12_goMinute_2 (LF_X12_goMinute n) x1 σ = R9 := H
        unfold LB_X12_goMinute_2 at H
        refine s_X12_goMinute_2 C hN ?_
        refine ⟨?_, ?_⟩
        · intro q_1
          replace H := f_t q_1 H
          have t_2 := MI_f2 mσ
          have b_3 : (gi σ 74 2).toInt ≤ x1.toInt := Int32.le_iff_toInt_le.mp q_1
          have z_4 : (0 : Int32).toInt = 0 := rfl
          exact ih31 (0 : Int32) (0 : Int32) σ mσ fσ (by omega) (by omega) (by first | with_reducible assumption | with_reducible rfl | omega | assumption | rfl) H (by omega)
        · intro q_1
          replace H := f_f q_1 H
          have t_5 := MI_f2 mσ
          have b_6 : ¬ (gi σ 74 2).toInt ≤ x1.toInt := fun h9 => q_1 (Int32.le_iff_toInt_le.mpr h9)
          refine kF_X12_strideAt mσ (by omega) (by omega) (fun r3 σ2 mσ2 cσ2 (pσ2_0 : (gi σ2 74 1).toInt = (gi σ 74 1).toInt) hσ2 => ?_)
          replace H := f_b hσ2 H
          have fσ2 : Fr [74, 105, 106, 107, 108, 129, 131, 132] [1, 30] σ0 σ2 := Fr_tr fσ cσ2 (by decide +kernel) (by decide +kernel)
          have k_7 : (gi σ2 74 1).toInt = (gi σ 74 1).toInt := congrArg Int32.toInt (cσ2.2.1 1 (by decide +kernel))
          have k_8 : (gi σ2 74 2).toInt = (gi σ 74 2).toInt := congrArg Int32.toInt (cσ2.2.1 2 (by decide +kernel))
          have hv_9 : vp_in x1 6 := vp_in_iff.mpr ⟨by omega, by omega⟩
          refine ⟨hv_9, ?_⟩
          intro σ5 eσ5
          replace H := f_l eσ5 H
          have mσ5 : MI σ5 := by rw [eσ5]; exact MIs_au (a := 131) mσ2 rfl rfl
          have fσ5 : Fr [74, 105, 106, 107, 108, 129, 131, 132] [1, 30] σ0 σ5 := by rw [eσ5]; exact Fr_si fσ2 (by decide +kernel) (fun h9 => absurd h9 (by decide +kernel))
          have k_10 : (gi σ5 74 1).toInt = (gi σ2 74 1).toInt := gk_l eσ5 rfl
          have k_11 : (gi σ5 74 2).toInt = (gi σ2 74 2).toInt := gk_l eσ5 rfl
          intro v6 ev6
          replace H := f_l ev6 H
          have t_12 : (x1 + (1 : Int32)).toInt = x1.toInt + 1 := i_add (x := x1) (y := (1 : Int32)) (by show (_ : Int) ≤ x1.toInt + 1; omega) (by show x1.toInt + 1 ≤ (_ : Int); omega)
          have t_13 : v6.toInt = (x1 + (1 : Int32)).toInt := congrArg Int32.toInt ev6
          exact ih2 v6 σ5 mσ5 fσ5 (by omega) (by omega) (by first | with_reducible assumption | with_reducible rfl | omega | assumption | rfl) H (by omega)
      · intro x1 x2 σ mσ fσ lx2 ux2 i0 H hmu
        replace H : LB_X12_goMinute_31 (LF_X12_goMinute n) x1 x2 σ = R9 := H
        unfold LB_X12_goMinute_31 at H
        refine s_X12_goMinute_31 C hN ?_
        refine ⟨?_, ?_⟩
        · intro q_14
          replace H := f_t q_14 H
          have t_15 := MI_f2 mσ
          have b_16 : (gi σ 74 2).toInt ≤ x2.toInt := Int32.le_iff_toInt_le.mp q_14
          intro σ2 eσ2
          replace H := f_l eσ2 H
          have t_17 := MI_f1 mσ
          have t_18 : ((gi σ 74 1) + (1 : Int32)).toInt = (gi σ 74 1).toInt + 1 := i_add (x := (gi σ 74 1)) (y := (1 : Int32)) (by show (_ : Int) ≤ (gi σ 74 1).toInt + 1; omega) (by show (gi σ 74 1).toInt + 1 ≤ (_ : Int); omega)
          have mσ2 : MI σ2 := by rw [eσ2]; exact MIs_f1 mσ (by omega) (by omega)
          have fσ2 : Fr [74, 105, 106, 107, 108, 129, 131, 132] [1, 30] σ0 σ2 := by rw [eσ2]; exact Fr_si fσ (by decide +kernel) (fun _ => by decide +kernel)
          have k_19 : (gi σ2 74 1).toInt = ((gi σ 74 1) + (1 : Int32)).toInt := by rw [eσ2]; exact congrArg Int32.toInt gi_si_eq
          have k_20 : (gi σ2 74 2).toInt = (gi σ 74 2).toInt := gk_r eσ2 rfl
          exact h9ret x1 σ2 mσ2 fσ2 (by first | with_reducible assumption | with_reducible rfl | omega | assumption | rfl) (H0.trans H.symm)
        · intro q_14
          replace H := f_f q_14 H
          have t_21 := MI_f2 mσ
          have b_22 : ¬ (gi σ 74 2).toInt ≤ x2.toInt := fun h9 => q_14 (Int32.le_iff_toInt_le.mpr h9)
          refine kF_X12_goes mσ (by omega) (by omega) (fun r4 σ3 mσ3 cσ3 plσ3 phσ3 hσ3 => ?_)
          replace H := f_b hσ3 H
          have fσ3 : Fr [74, 105, 106, 107, 108, 129, 131, 132] [1, 30] σ0 σ3 := Fr_tr fσ cσ3 (by decide +kernel) (by decide +kernel)
          have k_23 : (gi σ3 74 1).toInt = (gi σ 74 1).toInt := congrArg Int32.toInt (cσ3.2.1 1 (by decide +kernel))
          have k_24 : (gi σ3 74 2).toInt = (gi σ 74 2).toInt := congrArg Int32.toInt (cσ3.2.1 2 (by decide +kernel))
          refine ⟨?_, ?_⟩
          · intro q_25
            replace H := f_f q_25 H
            have b_26 : ¬ r4.toInt = 0 := fun h9 => q_25 (Int32.toInt_inj.mp h9)
            have hv_27 : vp_in x2 6 := vp_in_iff.mpr ⟨by omega, by omega⟩
            refine ⟨hv_27, ?_⟩
            intro v7 ev7
            replace H := f_l ev7 H
            have t_28 := MI_a110 mσ3 hv_27
            refine ⟨hv_27, ?_⟩
            have hv_29 : vp_in (gi σ3 110 x2.toNatClampNeg) 6 := vp_in_iff.mpr ⟨by omega, by omega⟩
            refine ⟨hv_29, ?_⟩
            refine ⟨hv_29, ?_⟩
            intro σ11 eσ11
            replace H := f_l eσ11 H
            have mσ11 : MI σ11 := by rw [eσ11]; exact MIs_au (a := 132) mσ3 rfl rfl
            have fσ11 : Fr [74, 105, 106, 107, 108, 129, 131, 132] [1, 30] σ0 σ11 := by rw [eσ11]; exact Fr_si fσ3 (by decide +kernel) (fun h9 => absurd h9 (by decide +kernel))
            have k_30 : (gi σ11 74 1).toInt = (gi σ3 74 1).toInt := gk_l eσ11 rfl
            have k_31 : (gi σ11 74 2).toInt = (gi σ3 74 2).toInt := gk_l eσ11 rfl
            intro v12 ev12
            replace H := f_l ev12 H
            have t_32 : (x2 + (1 : Int32)).toInt = x2.toInt + 1 := i_add (x := x2) (y := (1 : Int32)) (by show (_ : Int) ≤ x2.toInt + 1; omega) (by show x2.toInt + 1 ≤ (_ : Int); omega)
            have t_33 : v12.toInt = (x2 + (1 : Int32)).toInt := congrArg Int32.toInt ev12
            exact ih31 v7 v12 σ11 mσ11 fσ11 (by omega) (by omega) (by first | with_reducible assumption | with_reducible rfl | omega | assumption | rfl) H (by omega)
          · intro q_25
            replace H := f_t q_25 H
            have b_34 : r4.toInt = 0 := congrArg Int32.toInt q_25
            intro v13 ev13
            replace H := f_l ev13 H
            have t_35 : (x2 + (1 : Int32)).toInt = x2.toInt + 1 := i_add (x := x2) (y := (1 : Int32)) (by show (_ : Int) ≤ x2.toInt + 1; omega) (by show x2.toInt + 1 ≤ (_ : Int); omega)
            have t_36 : v13.toInt = (x2 + (1 : Int32)).toInt := congrArg Int32.toInt ev13
            exact ih31 x1 v13 σ3 mσ3 fσ3 (by omega) (by omega) (by first | with_reducible assumption | with_reducible rfl | omega | assumption | rfl) H (by omega)
  obtain ⟨U2, U31⟩ := T 900
  have f0 : Fr [74, 105, 106, 107, 108, 129, 131, 132] [1, 30] σ0 σ0 := Fr_rf
  have H := H0
  unfold F_X12_goMinute at H
  refine s_X12_goMinute_0 C hN ?_
  have z_37 : (0 : Int32).toInt = 0 := rfl
  exact U2 (0 : Int32) σ0 m0 f0 (by omega) (by omega) (by first | with_reducible assumption | with_reducible rfl | omega | assumption | rfl) H (by omega)
set_option maxRecDepth 100000 in
set_option maxHeartbeats 4000000 in
theorem kF_X12_goMinutes {l : Launch} {V : Vx} {a1 : Int32} {σ0 : Sg} {Qk : Sg → Prop} (m0 : MI σ0) (l_a1 : -100 ≤ a1.toInt) (u_a1 : a1.toInt ≤ 200) (pre0 : (gi σ0 74 1).toInt ≤ 18000) (h9ret : ∀ (σ' : Sg), MI σ' → Fr [74, 105, 106, 107, 108, 129, 131, 132] [1, 30] σ0 σ' → ((a1.toInt ≤ 0 ∧ (gi σ' 74 1).toInt = (gi σ0 74 1).toInt) ∨ (0 ≤ a1.toInt ∧ (gi σ' 74 1).toInt = (gi σ0 74 1).toInt + a1.toInt)) → (F_X12_goMinutes a1 σ0 = σ') → Qk σ') : K_X12_goMinutes l V a1 σ0 Qk := by
  refine e_X12_goMinutes (fun M hl hV hN C => ?_)
  subst hl
  subst hV
  obtain ⟨R9, H0⟩ : ∃ R9, F_X12_goMinutes a1 σ0 = R9 := ⟨_, rfl⟩
  have T : ∀ n : Nat, (∀ (x1 : Int32) (x2 : Int32) (σ : Sg), MI σ → Fr [74, 105, 106, 107, 108, 129, 131, 132] [1, 30] σ0 σ → (-100 ≤ x1.toInt) → (x1.toInt ≤ 200) → (0 ≤ x2.toInt) → (x2.toInt ≤ 200) → (x1.toInt = a1.toInt) → ((gi σ 74 1).toInt = (gi σ0 74 1).toInt + x2.toInt) → (x2.toInt ≤ 0 ∨ x2.toInt ≤ a1.toInt) → (LF_X12_goMinutes n x1 x2 σ = R9) → (201 - x2.toInt).toNat < n → PS M 2 [(0, .ref 74), (1, .int x1), (2, .int x2)] [] σ (0, 0)) := by
    intro n
    induction n with
    | zero => exact fun _ _ _ _ _ _ _ _ _ _ _ _ _ h8 => absurd h8 (Nat.not_lt_zero _)
    | succ n ih =>
      have ih2 := ih
      · intro x1 x2 σ mσ fσ lx1 ux1 lx2 ux2 i0 i1 i2 H hmu
        replace H : LB_X12_goMinutes_2 (LF_X12_goMinutes n) x1 x2 σ = R9 := H
        unfold LB_X12_goMinutes_2 at H
        refine s_X12_goMinutes_2 C hN ?_
        refine ⟨?_, ?_⟩
        · intro q_1
          replace H := f_t q_1 H
          have b_2 : x1.toInt ≤ x2.toInt := Int32.le_iff_toInt_le.mp q_1
          exact h9ret σ mσ fσ (by first | with_reducible assumption | with_reducible rfl | omega | assumption | rfl) (H0.trans H.symm)
        · intro q_1
          replace H := f_f q_1 H
          have b_3 : ¬ x1.toInt ≤ x2.toInt := fun h9 => q_1 (Int32.le_iff_toInt_le.mpr h9)
          refine kF_X12_goMinute mσ (by first | with_reducible assumption | with_reducible rfl | omega | assumption | rfl) (fun r3 σ2 mσ2 cσ2 (pσ2_0 : (gi σ2 74 1).toInt = (gi σ 74 1).toInt + 1) hσ2 => ?_)
          replace H := f_b hσ2 H
          have fσ2 : Fr [74, 105, 106, 107, 108, 129, 131, 132] [1, 30] σ0 σ2 := Fr_tr fσ cσ2 (by decide +kernel) (by decide +kernel)
          intro v4 ev4
          replace H := f_l ev4 H
          have t_4 : (x2 + (1 : Int32)).toInt = x2.toInt + 1 := i_add (x := x2) (y := (1 : Int32)) (by show (_ : Int) ≤ x2.toInt + 1; omega) (by show x2.toInt + 1 ≤ (_ : Int); omega)
          have t_5 : v4.toInt = (x2 + (1 : Int32)).toInt := congrArg Int32.toInt ev4
          exact ih2 x1 v4 σ2 mσ2 fσ2 (by omega) (by omega) (by omega) (by omega) (by first | with_reducible assumption | with_reducible rfl | omega | assumption | rfl) (by first | with_reducible assumption | with_reducible rfl | omega | assumption | rfl) (by first | with_reducible assumption | with_reducible rfl | omega | assumption | rfl) H (by omega)
  have U2 := T 300
  have f0 : Fr [74, 105, 106, 107, 108, 129, 131, 132] [1, 30] σ0 σ0 := Fr_rf
  have H := H0
  unfold F_X12_goMinutes at H
  refine s_X12_goMinutes_0 C hN ?_
  have z_6 : (0 : Int32).toInt = 0 := rfl
  exact U2 a1 (0 : Int32) σ0 m0 f0 (by omega) (by omega) (by omega) (by omega) (by first | with_reducible assumption | with_reducible rfl | omega | assumption | rfl) (by first | with_reducible assumption | with_reducible rfl | omega | assumption | rfl) (by first | with_reducible assumption | with_reducible rfl | omega | assumption | rfl) H (by omega)
set_option maxRecDepth 100000 in
set_option maxHeartbeats 4000000 in
theorem kF_X12_allBehind {l : Launch} {V : Vx} {a1 : Int32} {σ0 : Sg} {Qk : Int32 → Sg → Prop} (m0 : MI σ0) (l_a1 : 0 ≤ a1.toInt) (u_a1 : a1.toInt ≤ 200) (pre0 : (gi σ0 74 1).toInt ≤ 9999) (h9ret : ∀ (r : Int32) (σ' : Sg), MI σ' → Fr [74, 105, 106, 107, 108, 129, 131, 132, 134, 135, 136, 137] [1, 30, 33] σ0 σ' → (0 ≤ r.toInt) → (r.toInt ≤ 59994) → ((gi σ' 74 1).toInt = (gi σ0 74 1).toInt) → (F_X12_allBehind a1 σ0 = (r, σ')) → Qk r σ') : K_X12_allBehind l V a1 σ0 Qk := by
  refine e_X12_allBehind (fun M hl hV hN C => ?_)
  subst hl
  subst hV
  obtain ⟨R9, H0⟩ : ∃ R9, F_X12_allBehind a1 σ0 = R9 := ⟨_, rfl⟩
  have f0 : Fr [74, 105, 106, 107, 108, 129, 131, 132, 134, 135, 136, 137] [1, 30, 33] σ0 σ0 := Fr_rf
  have H := H0
  unfold F_X12_allBehind at H
  refine s_X12_allBehind_0 C hN ?_
  refine kF_X12_save m0  (fun σ1 mσ1 cσ1 (pσ1_0 : (gi σ1 74 33).toInt = (gi σ0 74 1).toInt) hσ1 => ?_)
  replace H := f_v hσ1 H
  have fσ1 : Fr [74, 105, 106, 107, 108, 129, 131, 132, 134, 135, 136, 137] [1, 30, 33] σ0 σ1 := Fr_tr f0 cσ1 (by decide +kernel) (by decide +kernel)
  have k_1 : (gi σ1 74 1).toInt = (gi σ0 74 1).toInt := congrArg Int32.toInt (cσ1.2.1 1 (by decide +kernel))
  refine kF_X12_goMinutes mσ1 (by omega) (by omega) (by first | with_reducible assumption | with_reducible rfl | omega | assumption | rfl) (fun σ2 mσ2 cσ2 (pσ2_0 : (a1.toInt ≤ 0 ∧ (gi σ2 74 1).toInt = (gi σ1 74 1).toInt) ∨ (0 ≤ a1.toInt ∧ (gi σ2 74 1).toInt = (gi σ1 74 1).toInt + a1.toInt)) hσ2 => ?_)
  replace H := f_v hσ2 H
  have fσ2 : Fr [74, 105, 106, 107, 108, 129, 131, 132, 134, 135, 136, 137] [1, 30, 33] σ0 σ2 := Fr_tr fσ1 cσ2 (by decide +kernel) (by decide +kernel)
  have k_2 : (gi σ2 74 33).toInt = (gi σ1 74 33).toInt := congrArg Int32.toInt (cσ2.2.1 33 (by decide +kernel))
  refine kF_X12_all mσ2  (fun r4 σ3 mσ3 cσ3 plσ3 phσ3 hσ3 => ?_)
  obtain rfl := Fr_nil cσ3
  replace H := f_b hσ3 H
  refine kF_X12_putBack mσ2  (fun σ5 mσ5 cσ5 (pσ5_0 : (gi σ5 74 1).toInt = (gi σ2 74 33).toInt) hσ5 => ?_)
  replace H := f_v hσ5 H
  have fσ5 : Fr [74, 105, 106, 107, 108, 129, 131, 132, 134, 135, 136, 137] [1, 30, 33] σ0 σ5 := Fr_tr fσ2 cσ5 (by decide +kernel) (by decide +kernel)
  have k_3 : (gi σ5 74 33).toInt = (gi σ2 74 33).toInt := congrArg Int32.toInt (cσ5.2.1 33 (by decide +kernel))
  exact h9ret r4 σ5 mσ5 fσ5 (by omega) (by omega) (by first | with_reducible assumption | with_reducible rfl | omega | assumption | rfl) (H0.trans H.symm)
set_option maxRecDepth 100000 in
set_option maxHeartbeats 4000000 in
theorem kF_X12_minute {l : Launch} {V : Vx} {σ0 : Sg} {Qk : Int32 → Sg → Prop} (m0 : MI σ0) (pre0 : (gi σ0 74 1).toInt ≤ 9999) (h9ret : ∀ (r : Int32) (σ' : Sg), MI σ' → Fr [74, 105, 106, 107, 108, 129, 131, 132] [1, 30] σ0 σ' → ((gi σ' 74 1).toInt ≤ 9999) → (F_X12_minute σ0 = (r, σ')) → Qk r σ') : K_X12_minute l V σ0 Qk := by
  refine e_X12_minute (fun M hl hV hN C => ?_)
  subst hl
  subst hV
  obtain ⟨R9, H0⟩ : ∃ R9, F_X12_minute σ0 = R9 := ⟨_, rfl⟩
  have f0 : Fr [74, 105, 106, 107, 108, 129, 131, 132] [1, 30] σ0 σ0 := Fr_rf
  have H := H0
  unfold F_X12_minute at H
  refine s_X12_minute_0 C hN ?_
  refine ⟨?_, ?_⟩
  · intro q_1
    replace H := f_f q_1 H
    have t_2 := MI_f1 m0
    have b_3 : ¬ (gi σ0 74 1).toInt = 9999 := fun h9 => q_1 (Int32.toInt_inj.mp h9)
    refine kF_X12_goMinute m0 (by first | with_reducible assumption | with_reducible rfl | omega | assumption | rfl) (fun r3 σ2 mσ2 cσ2 (pσ2_0 : (gi σ2 74 1).toInt = (gi σ0 74 1).toInt + 1) hσ2 => ?_)
    replace H := f_b hσ2 H
    have fσ2 : Fr [74, 105, 106, 107, 108, 129, 131, 132] [1, 30] σ0 σ2 := Fr_tr f0 cσ2 (by decide +kernel) (by decide +kernel)
    exact h9ret r3 σ2 mσ2 fσ2 (by first | with_reducible assumption | with_reducible rfl | omega | assumption | rfl) (H0.trans H.symm)
  · intro q_1
    replace H := f_t q_1 H
    have t_4 := MI_f1 m0
    have b_5 : (gi σ0 74 1).toInt = 9999 := congrArg Int32.toInt q_1
    have z_6 : (-3 : Int32).toInt = -3 := rfl
    exact h9ret (-3 : Int32) σ0 m0 f0 (by first | with_reducible assumption | with_reducible rfl | omega | assumption | rfl) (H0.trans H.symm)
set_option maxRecDepth 100000 in
set_option maxHeartbeats 4000000 in
theorem kF_X12_whet {l : Launch} {V : Vx} {σ0 : Sg} {Qk : Int32 → Sg → Prop} (m0 : MI σ0) (pre0 : (gi σ0 74 1).toInt ≤ 9999) (h9ret : ∀ (r : Int32) (σ' : Sg), MI σ' → Fr [74, 106, 107, 108] [1] σ0 σ' → ((gi σ' 74 1).toInt ≤ 9999) → (F_X12_whet σ0 = (r, σ')) → Qk r σ') : K_X12_whet l V σ0 Qk := by
  refine e_X12_whet (fun M hl hV hN C => ?_)
  subst hl
  subst hV
  obtain ⟨R9, H0⟩ : ∃ R9, F_X12_whet σ0 = R9 := ⟨_, rfl⟩
  have f0 : Fr [74, 106, 107, 108] [1] σ0 σ0 := Fr_rf
  have H := H0
  unfold F_X12_whet at H
  refine s_X12_whet_0 C hN ?_
  refine ⟨?_, ?_⟩
  · intro q_1
    replace H := f_f q_1 H
    have t_2 := MI_f1 m0
    have b_3 : ¬ (gi σ0 74 1).toInt = 9999 := fun h9 => q_1 (Int32.toInt_inj.mp h9)
    refine kF_X12_goWhet m0 (by first | with_reducible assumption | with_reducible rfl | omega | assumption | rfl) (fun σ2 mσ2 cσ2 (pσ2_0 : (gi σ2 74 1).toInt = (gi σ0 74 1).toInt + 1) hσ2 => ?_)
    replace H := f_v hσ2 H
    have fσ2 : Fr [74, 106, 107, 108] [1] σ0 σ2 := Fr_tr f0 cσ2 (by decide +kernel) (by decide +kernel)
    have t_4 := MI_f1 mσ2
    exact h9ret (gi σ2 74 1) σ2 mσ2 fσ2 (by first | with_reducible assumption | with_reducible rfl | omega | assumption | rfl) (H0.trans H.symm)
  · intro q_1
    replace H := f_t q_1 H
    have t_5 := MI_f1 m0
    have b_6 : (gi σ0 74 1).toInt = 9999 := congrArg Int32.toInt q_1
    have z_7 : (-3 : Int32).toInt = -3 := rfl
    exact h9ret (-3 : Int32) σ0 m0 f0 (by first | with_reducible assumption | with_reducible rfl | omega | assumption | rfl) (H0.trans H.symm)
set_option maxRecDepth 100000 in
set_option maxHeartbeats 4000000 in
theorem kF_X12_pause {l : Launch} {V : Vx} {a1 : Int32} {σ0 : Sg} {Qk : Int32 → Sg → Prop} (m0 : MI σ0) (pre0 : (gi σ0 74 1).toInt ≤ 9999) (h9ret : ∀ (r : Int32) (σ' : Sg), MI σ' → Fr [74, 107, 108] [1] σ0 σ' → ((gi σ' 74 1).toInt ≤ 9999) → (F_X12_pause a1 σ0 = (r, σ')) → Qk r σ') : K_X12_pause l V a1 σ0 Qk := by
  refine e_X12_pause (fun M hl hV hN C => ?_)
  subst hl
  subst hV
  obtain ⟨R9, H0⟩ : ∃ R9, F_X12_pause a1 σ0 = R9 := ⟨_, rfl⟩
  have f0 : Fr [74, 107, 108] [1] σ0 σ0 := Fr_rf
  have H := H0
  unfold F_X12_pause at H
  refine s_X12_pause_0 C hN ?_
  refine kF_X12_in m0  (fun r2 σ1 mσ1 cσ1 plσ1 phσ1 (pσ1_0 : (r2.toInt = 1 ∧ (1 : Int) ≤ a1.toInt ∧ a1.toInt ≤ (60 : Int)) ∨ (r2.toInt = 0 ∧ (a1.toInt < (1 : Int) ∨ (60 : Int) < a1.toInt))) hσ1 => ?_)
  obtain rfl := Fr_nil cσ1
  replace H := f_b hσ1 H
  refine ⟨?_, ?_⟩
  · intro q_1
    replace H := f_f q_1 H
    have b_2 : ¬ r2.toInt = 0 := fun h9 => q_1 (Int32.toInt_inj.mp h9)
    refine ⟨?_, ?_⟩
    · intro q_3
      replace H := f_t q_3 H
      have t_4 := MI_f1 m0
      have w_5 := Int32.toInt_lt a1
      have w_6 := Int32.le_toInt a1
      try have t_7 : ((gi σ0 74 1) + a1).toInt = (gi σ0 74 1).toInt + a1.toInt := i_add (x := (gi σ0 74 1)) (y := a1) (by show (_ : Int) ≤ (gi σ0 74 1).toInt + a1.toInt; omega) (by show (gi σ0 74 1).toInt + a1.toInt ≤ (_ : Int); omega)
      have b_8 : ((gi σ0 74 1) + a1).toInt ≤ 9999 := Int32.le_iff_toInt_le.mp q_3
      refine kF_X12_goPause m0 (by omega) (by omega) (by first | with_reducible assumption | with_reducible rfl | omega | assumption | rfl) (fun σ5 mσ5 cσ5 (pσ5_0 : (gi σ5 74 1).toInt = (gi σ0 74 1).toInt + a1.toInt) hσ5 => ?_)
      replace H := f_v hσ5 H
      have fσ5 : Fr [74, 107, 108] [1] σ0 σ5 := Fr_tr f0 cσ5 (by decide +kernel) (by decide +kernel)
      have t_9 := MI_f1 mσ5
      exact h9ret (gi σ5 74 1) σ5 mσ5 fσ5 (by first | with_reducible assumption | with_reducible rfl | omega | assumption | rfl) (H0.trans H.symm)
    · intro q_3
      replace H := f_f q_3 H
      have t_10 := MI_f1 m0
      have w_11 := Int32.toInt_lt a1
      have w_12 := Int32.le_toInt a1
      try have t_13 : ((gi σ0 74 1) + a1).toInt = (gi σ0 74 1).toInt + a1.toInt := i_add (x := (gi σ0 74 1)) (y := a1) (by show (_ : Int) ≤ (gi σ0 74 1).toInt + a1.toInt; omega) (by show (gi σ0 74 1).toInt + a1.toInt ≤ (_ : Int); omega)
      have b_14 : ¬ ((gi σ0 74 1) + a1).toInt ≤ 9999 := fun h9 => q_3 (Int32.le_iff_toInt_le.mpr h9)
      have z_15 : (-3 : Int32).toInt = -3 := rfl
      exact h9ret (-3 : Int32) σ0 m0 f0 (by first | with_reducible assumption | with_reducible rfl | omega | assumption | rfl) (H0.trans H.symm)
  · intro q_1
    replace H := f_t q_1 H
    have b_16 : r2.toInt = 0 := congrArg Int32.toInt q_1
    have z_17 : (-2 : Int32).toInt = -2 := rfl
    exact h9ret (-2 : Int32) σ0 m0 f0 (by first | with_reducible assumption | with_reducible rfl | omega | assumption | rfl) (H0.trans H.symm)
set_option maxRecDepth 100000 in
set_option maxHeartbeats 4000000 in
theorem kF_X12_apart {l : Launch} {V : Vx} {a1 : Int32} {a2 : Int32} {σ0 : Sg} {Qk : Int32 → Sg → Prop} (m0 : MI σ0) (pre0 : (gi σ0 74 1).toInt ≤ 9999) (h9ret : ∀ (r : Int32) (σ' : Sg), MI σ' → Fr [74, 105, 106, 107, 108, 129, 131, 132, 134, 135, 136, 137] [1, 28, 30, 33] σ0 σ' → ((gi σ' 74 1).toInt = (gi σ0 74 1).toInt) → (F_X12_apart a1 a2 σ0 = (r, σ')) → Qk r σ') : K_X12_apart l V a1 a2 σ0 Qk := by
  refine e_X12_apart (fun M hl hV hN C => ?_)
  subst hl
  subst hV
  obtain ⟨R9, H0⟩ : ∃ R9, F_X12_apart a1 a2 σ0 = R9 := ⟨_, rfl⟩
  have T : ∀ n : Nat, (∀ (x1 : Int32) (x2 : Int32) (x3 : Int32) (x4 : Int32) (x5 : Int32) (σ : Sg), MI σ → Fr [74, 105, 106, 107, 108, 129, 131, 132, 134, 135, 136, 137] [1, 28, 30, 33] σ0 σ → (1 ≤ x1.toInt) → (x1.toInt ≤ 60) → (0 ≤ x5.toInt) → (x5.toInt ≤ 10) → ((gi σ 74 1).toInt = (gi σ0 74 1).toInt) → (LF_X12_apart n x1 x2 x3 x4 x5 σ = R9) → (11 - x5.toInt).toNat < n → PS M 34 [(0, .ref 74), (1, .int x1), (2, .int x2), (3, .int x3), (4, .int x4), (5, .int x5)] [] σ (0, 0)) := by
    intro n
    induction n with
    | zero => exact fun _ _ _ _ _ _ _ _ _ _ _ _ _ _ h8 => absurd h8 (Nat.not_lt_zero _)
    | succ n ih =>
      have ih34 := ih
      · intro x1 x2 x3 x4 x5 σ mσ fσ lx1 ux1 lx5 ux5 i0 H hmu
        replace H : LB_X12_apart_34 (LF_X12_apart n) x1 x2 x3 x4 x5 σ = R9 := H
        unfold LB_X12_apart_34 at H
        refine s_X12_apart_34 C hN ?_
        refine ⟨?_, ?_⟩
        · intro q_1
          replace H := f_t q_1 H
          have b_2 : (10 : Int) ≤ x5.toInt := Int32.le_iff_toInt_le.mp q_1
          intro σ2 eσ2
          replace H := f_l eσ2 H
          have mσ2 : MI σ2 := by rw [eσ2]; exact MIs_fu mσ (by decide +kernel)
          have fσ2 : Fr [74, 105, 106, 107, 108, 129, 131, 132, 134, 135, 136, 137] [1, 28, 30, 33] σ0 σ2 := by rw [eσ2]; exact Fr_si fσ (by decide +kernel) (fun _ => by decide +kernel)
          have k_3 : (gi σ2 74 1).toInt = (gi σ 74 1).toInt := gk_r eσ2 rfl
          refine ⟨?_, ?_⟩
          · intro q_4
            replace H := f_f q_4 H
            have w_5 := Int32.toInt_lt x2
            have w_6 := Int32.le_toInt x2
            have b_7 : ¬ x2.toInt = 0 := fun h9 => q_4 (Int32.toInt_inj.mp h9)
            exact h9ret x4 σ2 mσ2 fσ2 (by first | with_reducible assumption | with_reducible rfl | omega | assumption | rfl) (H0.trans H.symm)
          · intro q_4
            replace H := f_t q_4 H
            have w_8 := Int32.toInt_lt x2
            have w_9 := Int32.le_toInt x2
            have b_10 : x2.toInt = 0 := congrArg Int32.toInt q_4
            exact h9ret x3 σ2 mσ2 fσ2 (by first | with_reducible assumption | with_reducible rfl | omega | assumption | rfl) (H0.trans H.symm)
        · intro q_1
          replace H := f_f q_1 H
          have b_11 : ¬ (10 : Int) ≤ x5.toInt := fun h9 => q_1 (Int32.le_iff_toInt_le.mpr h9)
          intro σ4 eσ4
          replace H := f_l eσ4 H
          have mσ4 : MI σ4 := by rw [eσ4]; exact MIs_fu mσ (by decide +kernel)
          have fσ4 : Fr [74, 105, 106, 107, 108, 129, 131, 132, 134, 135, 136, 137] [1, 28, 30, 33] σ0 σ4 := by rw [eσ4]; exact Fr_si fσ (by decide +kernel) (fun _ => by decide +kernel)
          have k_12 : (gi σ4 74 1).toInt = (gi σ 74 1).toInt := gk_r eσ4 rfl
          refine kF_X12_allBehind mσ4 (by omega) (by omega) (by first | with_reducible assumption | with_reducible rfl | omega | assumption | rfl) (fun r6 σ5 mσ5 cσ5 plσ5 phσ5 (pσ5_0 : (gi σ5 74 1).toInt = (gi σ4 74 1).toInt) hσ5 => ?_)
          replace H := f_b hσ5 H
          have fσ5 : Fr [74, 105, 106, 107, 108, 129, 131, 132, 134, 135, 136, 137] [1, 28, 30, 33] σ0 σ5 := Fr_tr fσ4 cσ5 (by decide +kernel) (by decide +kernel)
          refine ⟨?_, ?_⟩
          · intro q_13
            replace H := f_t q_13 H
            have w_14 := Int32.toInt_lt x4
            have w_15 := Int32.le_toInt x4
            have b_16 : x4.toInt < r6.toInt := Int32.lt_iff_toInt_lt.mp q_13
            intro v8 ev8
            replace H := f_l ev8 H
            have t_17 : (x5 + (1 : Int32)).toInt = x5.toInt + 1 := i_add (x := x5) (y := (1 : Int32)) (by show (_ : Int) ≤ x5.toInt + 1; omega) (by show x5.toInt + 1 ≤ (_ : Int); omega)
            have t_18 : v8.toInt = (x5 + (1 : Int32)).toInt := congrArg Int32.toInt ev8
            exact ih34 x1 x2 x5 r6 v8 σ5 mσ5 fσ5 (by omega) (by omega) (by omega) (by omega) (by first | with_reducible assumption | with_reducible rfl | omega | assumption | rfl) H (by omega)
          · intro q_13
            replace H := f_f q_13 H
            have w_19 := Int32.toInt_lt x4
            have w_20 := Int32.le_toInt x4
            have b_21 : ¬ x4.toInt < r6.toInt := fun h9 => q_13 (Int32.lt_iff_toInt_lt.mpr h9)
            intro v9 ev9
            replace H := f_l ev9 H
            have t_22 : (x5 + (1 : Int32)).toInt = x5.toInt + 1 := i_add (x := x5) (y := (1 : Int32)) (by show (_ : Int) ≤ x5.toInt + 1; omega) (by show x5.toInt + 1 ≤ (_ : Int); omega)
            have t_23 : v9.toInt = (x5 + (1 : Int32)).toInt := congrArg Int32.toInt ev9
            exact ih34 x1 x2 x3 x4 v9 σ5 mσ5 fσ5 (by omega) (by omega) (by omega) (by omega) (by first | with_reducible assumption | with_reducible rfl | omega | assumption | rfl) H (by omega)
  have U34 := T 20
  have f0 : Fr [74, 105, 106, 107, 108, 129, 131, 132, 134, 135, 136, 137] [1, 28, 30, 33] σ0 σ0 := Fr_rf
  have H := H0
  unfold F_X12_apart at H
  refine s_X12_apart_0 C hN ?_
  refine kF_X12_in m0  (fun r2 σ1 mσ1 cσ1 plσ1 phσ1 (pσ1_0 : (r2.toInt = 1 ∧ (0 : Int) ≤ a2.toInt ∧ a2.toInt ≤ (1 : Int)) ∨ (r2.toInt = 0 ∧ (a2.toInt < (0 : Int) ∨ (1 : Int) < a2.toInt))) hσ1 => ?_)
  obtain rfl := Fr_nil cσ1
  replace H := f_b hσ1 H
  refine ⟨?_, ?_⟩
  · intro q_24
    replace H := f_f q_24 H
    have b_25 : ¬ r2.toInt = 0 := fun h9 => q_24 (Int32.toInt_inj.mp h9)
    refine kF_X12_in m0  (fun r5 σ4 mσ4 cσ4 plσ4 phσ4 (pσ4_0 : (r5.toInt = 1 ∧ (1 : Int) ≤ a1.toInt ∧ a1.toInt ≤ (60 : Int)) ∨ (r5.toInt = 0 ∧ (a1.toInt < (1 : Int) ∨ (60 : Int) < a1.toInt))) hσ4 => ?_)
    obtain rfl := Fr_nil cσ4
    replace H := f_b hσ4 H
    refine ⟨?_, ?_⟩
    · intro q_26
      replace H := f_f q_26 H
      have b_27 : ¬ r5.toInt = 0 := fun h9 => q_26 (Int32.toInt_inj.mp h9)
      have z_28 : (0 : Int32).toInt = 0 := rfl
      have z_29 : (-1 : Int32).toInt = -1 := rfl
      exact U34 a1 a2 (0 : Int32) (-1 : Int32) (0 : Int32) σ0 m0 f0 (by omega) (by omega) (by omega) (by omega) (by first | with_reducible assumption | with_reducible rfl | omega | assumption | rfl) H (by omega)
    · intro q_26
      replace H := f_t q_26 H
      have b_30 : r5.toInt = 0 := congrArg Int32.toInt q_26
      have z_31 : (-2 : Int32).toInt = -2 := rfl
      exact h9ret (-2 : Int32) σ0 m0 f0 (by first | with_reducible assumption | with_reducible rfl | omega | assumption | rfl) (H0.trans H.symm)
  · intro q_24
    replace H := f_t q_24 H
    have b_32 : r2.toInt = 0 := congrArg Int32.toInt q_24
    have z_33 : (-1 : Int32).toInt = -1 := rfl
    exact h9ret (-1 : Int32) σ0 m0 f0 (by first | with_reducible assumption | with_reducible rfl | omega | assumption | rfl) (H0.trans H.symm)
set_option maxRecDepth 100000 in
set_option maxHeartbeats 4000000 in
theorem kF_X12_looked {l : Launch} {V : Vx} {σ0 : Sg} {Qk : Int32 → Sg → Prop} (m0 : MI σ0) (pre0 : (gi σ0 74 1).toInt ≤ 9999) (h9ret : ∀ (r : Int32) (σ' : Sg), MI σ' → Fr [74, 105, 106, 107, 108, 129, 131, 132, 134, 135, 136, 137] [1, 30, 33] σ0 σ' → ((gi σ' 74 1).toInt = (gi σ0 74 1).toInt) → (F_X12_looked σ0 = (r, σ')) → Qk r σ') : K_X12_looked l V σ0 Qk := by
  refine e_X12_looked (fun M hl hV hN C => ?_)
  subst hl
  subst hV
  obtain ⟨R9, H0⟩ : ∃ R9, F_X12_looked σ0 = R9 := ⟨_, rfl⟩
  have T : ∀ n : Nat, (∀ (x1 : Int32) (x2 : Int32) (σ : Sg), MI σ → Fr [74, 105, 106, 107, 108, 129, 131, 132, 134, 135, 136, 137] [1, 30, 33] σ0 σ → (0 ≤ x2.toInt) → (x2.toInt ≤ 8) → ((gi σ 74 1).toInt = (gi σ0 74 1).toInt) → (LF_X12_looked n x1 x2 σ = R9) → (9 - x2.toInt).toNat < n → PS M 15 [(0, .ref 74), (1, .int x1), (2, .int x2)] [] σ (0, 0)) := by
    intro n
    induction n with
    | zero => exact fun _ _ _ _ _ _ _ _ _ h8 => absurd h8 (Nat.not_lt_zero _)
    | succ n ih =>
      have ih15 := ih
      · intro x1 x2 σ mσ fσ lx2 ux2 i0 H hmu
        replace H : LB_X12_looked_15 (LF_X12_looked n) x1 x2 σ = R9 := H
        unfold LB_X12_looked_15 at H
        refine s_X12_looked_15 C hN ?_
        refine ⟨?_, ?_⟩
        · intro q_1
          replace H := f_t q_1 H
          have t_2 := MI_f46 mσ
          have b_3 : (gi σ 74 46).toInt ≤ x2.toInt := Int32.le_iff_toInt_le.mp q_1
          have z_4 : (-5 : Int32).toInt = -5 := rfl
          exact h9ret (-5 : Int32) σ mσ fσ (by first | with_reducible assumption | with_reducible rfl | omega | assumption | rfl) (H0.trans H.symm)
        · intro q_1
          replace H := f_f q_1 H
          have t_5 := MI_f46 mσ
          have b_6 : ¬ (gi σ 74 46).toInt ≤ x2.toInt := fun h9 => q_1 (Int32.le_iff_toInt_le.mpr h9)
          have hv_7 : vp_in x2 8 := vp_in_iff.mpr ⟨by omega, by omega⟩
          refine ⟨hv_7, ?_⟩
          refine kF_X12_has mσ  (fun r4 σ3 mσ3 cσ3 plσ3 phσ3 (pσ3_0 : BQ r4 x1 (gi σ 148 x2.toNatClampNeg)) hσ3 => ?_)
          obtain rfl := Fr_nil cσ3
          replace H := f_b hσ3 H
          refine ⟨?_, ?_⟩
          · intro q_8
            replace H := f_f q_8 H
            have b_9 : ¬ r4.toInt = 0 := fun h9 => q_8 (Int32.toInt_inj.mp h9)
            intro v6 ev6
            replace H := f_l ev6 H
            have t_10 : (x2 + (1 : Int32)).toInt = x2.toInt + 1 := i_add (x := x2) (y := (1 : Int32)) (by show (_ : Int) ≤ x2.toInt + 1; omega) (by show x2.toInt + 1 ≤ (_ : Int); omega)
            have t_11 : v6.toInt = (x2 + (1 : Int32)).toInt := congrArg Int32.toInt ev6
            exact ih15 x1 v6 σ mσ fσ (by omega) (by omega) (by first | with_reducible assumption | with_reducible rfl | omega | assumption | rfl) H (by omega)
          · intro q_8
            replace H := f_t q_8 H
            have b_12 : r4.toInt = 0 := congrArg Int32.toInt q_8
            exact h9ret x2 σ mσ fσ (by first | with_reducible assumption | with_reducible rfl | omega | assumption | rfl) (H0.trans H.symm)
  have U15 := T 20
  have f0 : Fr [74, 105, 106, 107, 108, 129, 131, 132, 134, 135, 136, 137] [1, 30, 33] σ0 σ0 := Fr_rf
  have H := H0
  unfold F_X12_looked at H
  refine s_X12_looked_0 C hN ?_
  refine kF_X12_save m0  (fun σ1 mσ1 cσ1 (pσ1_0 : (gi σ1 74 33).toInt = (gi σ0 74 1).toInt) hσ1 => ?_)
  replace H := f_v hσ1 H
  have fσ1 : Fr [74, 105, 106, 107, 108, 129, 131, 132, 134, 135, 136, 137] [1, 30, 33] σ0 σ1 := Fr_tr f0 cσ1 (by decide +kernel) (by decide +kernel)
  have k_13 : (gi σ1 74 1).toInt = (gi σ0 74 1).toInt := congrArg Int32.toInt (cσ1.2.1 1 (by decide +kernel))
  refine kF_X12_goMinute mσ1 (by first | with_reducible assumption | with_reducible rfl | omega | assumption | rfl) (fun r3 σ2 mσ2 cσ2 (pσ2_0 : (gi σ2 74 1).toInt = (gi σ1 74 1).toInt + 1) hσ2 => ?_)
  replace H := f_b hσ2 H
  have fσ2 : Fr [74, 105, 106, 107, 108, 129, 131, 132, 134, 135, 136, 137] [1, 30, 33] σ0 σ2 := Fr_tr fσ1 cσ2 (by decide +kernel) (by decide +kernel)
  have k_14 : (gi σ2 74 33).toInt = (gi σ1 74 33).toInt := congrArg Int32.toInt (cσ2.2.1 33 (by decide +kernel))
  refine kF_X12_putBack mσ2  (fun σ4 mσ4 cσ4 (pσ4_0 : (gi σ4 74 1).toInt = (gi σ2 74 33).toInt) hσ4 => ?_)
  replace H := f_v hσ4 H
  have fσ4 : Fr [74, 105, 106, 107, 108, 129, 131, 132, 134, 135, 136, 137] [1, 30, 33] σ0 σ4 := Fr_tr fσ2 cσ4 (by decide +kernel) (by decide +kernel)
  have k_15 : (gi σ4 74 33).toInt = (gi σ2 74 33).toInt := congrArg Int32.toInt (cσ4.2.1 33 (by decide +kernel))
  have z_16 : (0 : Int32).toInt = 0 := rfl
  exact U15 r3 (0 : Int32) σ4 mσ4 fσ4 (by omega) (by omega) (by first | with_reducible assumption | with_reducible rfl | omega | assumption | rfl) H (by omega)
set_option maxRecDepth 100000 in
set_option maxHeartbeats 4000000 in
theorem kF_X12_allStopped {l : Launch} {V : Vx} {a1 : Int32} {a2 : Int32} {a3 : Int32} {σ0 : Sg} {Qk : Int32 → Sg → Prop} (m0 : MI σ0) (l_a1 : 0 ≤ a1.toInt) (u_a1 : a1.toInt ≤ 5) (l_a3 : 0 ≤ a3.toInt) (u_a3 : a3.toInt ≤ 60) (pre0 : (gi σ0 74 1).toInt ≤ 9999) (h9ret : ∀ (r : Int32) (σ' : Sg), MI σ' → Fr [74, 105, 106, 107, 108, 129, 131, 132, 134, 135, 136, 137] [1, 30, 33] σ0 σ' → ((gi σ' 74 1).toInt = (gi σ0 74 1).toInt) → (F_X12_allStopped a1 a2 a3 σ0 = (r, σ')) → Qk r σ') : K_X12_allStopped l V a1 a2 a3 σ0 Qk := by
  refine e_X12_allStopped (fun M hl hV hN C => ?_)
  subst hl
  subst hV
  obtain ⟨R9, H0⟩ : ∃ R9, F_X12_allStopped a1 a2 a3 σ0 = R9 := ⟨_, rfl⟩
  have f0 : Fr [74, 105, 106, 107, 108, 129, 131, 132, 134, 135, 136, 137] [1, 30, 33] σ0 σ0 := Fr_rf
  have H := H0
  unfold F_X12_allStopped at H
  refine s_X12_allStopped_0 C hN ?_
  refine kF_X12_save m0  (fun σ1 mσ1 cσ1 (pσ1_0 : (gi σ1 74 33).toInt = (gi σ0 74 1).toInt) hσ1 => ?_)
  replace H := f_v hσ1 H
  have fσ1 : Fr [74, 105, 106, 107, 108, 129, 131, 132, 134, 135, 136, 137] [1, 30, 33] σ0 σ1 := Fr_tr f0 cσ1 (by decide +kernel) (by decide +kernel)
  have k_1 : (gi σ1 74 1).toInt = (gi σ0 74 1).toInt := congrArg Int32.toInt (cσ1.2.1 1 (by decide +kernel))
  have hv_2 : vp_in a1 6 := vp_in_iff.mpr ⟨by omega, by omega⟩
  refine ⟨hv_2, ?_⟩
  refine ⟨hv_2, ?_⟩
  intro σ4 eσ4
  replace H := f_l eσ4 H
  have mσ4 : MI σ4 := by rw [eσ4]; exact MIs_au (a := 108) mσ1 rfl rfl
  have fσ4 : Fr [74, 105, 106, 107, 108, 129, 131, 132, 134, 135, 136, 137] [1, 30, 33] σ0 σ4 := by rw [eσ4]; exact Fr_si fσ1 (by decide +kernel) (fun h9 => absurd h9 (by decide +kernel))
  have k_3 : (gi σ4 74 1).toInt = (gi σ1 74 1).toInt := gk_l eσ4 rfl
  have k_4 : (gi σ4 74 33).toInt = (gi σ1 74 33).toInt := gk_l eσ4 rfl
  refine kF_X12_goMinutes mσ4 (by omega) (by omega) (by first | with_reducible assumption | with_reducible rfl | omega | assumption | rfl) (fun σ5 mσ5 cσ5 (pσ5_0 : (a3.toInt ≤ 0 ∧ (gi σ5 74 1).toInt = (gi σ4 74 1).toInt) ∨ (0 ≤ a3.toInt ∧ (gi σ5 74 1).toInt = (gi σ4 74 1).toInt + a3.toInt)) hσ5 => ?_)
  replace H := f_v hσ5 H
  have fσ5 : Fr [74, 105, 106, 107, 108, 129, 131, 132, 134, 135, 136, 137] [1, 30, 33] σ0 σ5 := Fr_tr fσ4 cσ5 (by decide +kernel) (by decide +kernel)
  have k_5 : (gi σ5 74 33).toInt = (gi σ4 74 33).toInt := congrArg Int32.toInt (cσ5.2.1 33 (by decide +kernel))
  refine kF_X12_all mσ5  (fun r7 σ6 mσ6 cσ6 plσ6 phσ6 hσ6 => ?_)
  obtain rfl := Fr_nil cσ6
  replace H := f_b hσ6 H
  refine kF_X12_putBack mσ5  (fun σ8 mσ8 cσ8 (pσ8_0 : (gi σ8 74 1).toInt = (gi σ5 74 33).toInt) hσ8 => ?_)
  replace H := f_v hσ8 H
  have fσ8 : Fr [74, 105, 106, 107, 108, 129, 131, 132, 134, 135, 136, 137] [1, 30, 33] σ0 σ8 := Fr_tr fσ5 cσ8 (by decide +kernel) (by decide +kernel)
  have k_6 : (gi σ8 74 33).toInt = (gi σ5 74 33).toInt := congrArg Int32.toInt (cσ8.2.1 33 (by decide +kernel))
  exact h9ret r7 σ8 mσ8 fσ8 (by first | with_reducible assumption | with_reducible rfl | omega | assumption | rfl) (H0.trans H.symm)
set_option maxRecDepth 100000 in
set_option maxHeartbeats 4000000 in
theorem kF_X12_rest {l : Launch} {V : Vx} {a1 : Int32} {a2 : Int32} {σ0 : Sg} {Qk : Int32 → Sg → Prop} (m0 : MI σ0) (pre0 : (gi σ0 74 1).toInt ≤ 9999) (h9ret : ∀ (r : Int32) (σ' : Sg), MI σ' → Fr [74, 105, 106, 107, 108, 129, 131, 132, 134, 135, 136, 137] [1, 30, 33] σ0 σ' → ((gi σ' 74 1).toInt = (gi σ0 74 1).toInt) → (F_X12_rest a1 a2 σ0 = (r, σ')) → Qk r σ') : K_X12_rest l V a1 a2 σ0 Qk := by
  refine e_X12_rest (fun M hl hV hN C => ?_)
  subst hl
  subst hV
  obtain ⟨R9, H0⟩ : ∃ R9, F_X12_rest a1 a2 σ0 = R9 := ⟨_, rfl⟩
  have T : ∀ n : Nat, (∀ (x1 : Int32) (x2 : Int32) (x3 : Int32) (x4 : Int32) (x5 : Int32) (σ : Sg), MI σ → Fr [74, 105, 106, 107, 108, 129, 131, 132, 134, 135, 136, 137] [1, 30, 33] σ0 σ → (1 ≤ x1.toInt) → (x1.toInt ≤ 60) → (0 ≤ x5.toInt) → (x5.toInt ≤ 6) → ((gi σ 74 1).toInt = (gi σ0 74 1).toInt) → (LF_X12_rest n x1 x2 x3 x4 x5 σ = R9) → (7 - x5.toInt).toNat < n → PS M 39 [(0, .ref 74), (1, .int x1), (2, .int x2), (3, .int x3), (4, .int x4), (5, .int x5)] [] σ (0, 0)) := by
    intro n
    induction n with
    | zero => exact fun _ _ _ _ _ _ _ _ _ _ _ _ _ _ h8 => absurd h8 (Nat.not_lt_zero _)
    | succ n ih =>
      have ih39 := ih
      · intro x1 x2 x3 x4 x5 σ mσ fσ lx1 ux1 lx5 ux5 i0 H hmu
        replace H : LB_X12_rest_39 (LF_X12_rest n) x1 x2 x3 x4 x5 σ = R9 := H
        unfold LB_X12_rest_39 at H
        refine s_X12_rest_39 C hN ?_
        refine ⟨?_, ?_⟩
        · intro q_1
          replace H := f_t q_1 H
          have t_2 := MI_f0 mσ
          have b_3 : (gi σ 74 0).toInt ≤ x5.toInt := Int32.le_iff_toInt_le.mp q_1
          refine ⟨?_, ?_⟩
          · intro q_4
            replace H := f_t q_4 H
            have w_5 := Int32.toInt_lt x4
            have w_6 := Int32.le_toInt x4
            have b_7 : x4.toInt < 0 := Int32.lt_iff_toInt_lt.mp q_4
            exact h9ret x4 σ mσ fσ (by first | with_reducible assumption | with_reducible rfl | omega | assumption | rfl) (H0.trans H.symm)
          · intro q_4
            replace H := f_f q_4 H
            have w_8 := Int32.toInt_lt x4
            have w_9 := Int32.le_toInt x4
            have b_10 : ¬ x4.toInt < 0 := fun h9 => q_4 (Int32.lt_iff_toInt_lt.mpr h9)
            refine ⟨?_, ?_⟩
            · intro q_11
              replace H := f_f q_11 H
              have w_12 := Int32.toInt_lt x2
              have w_13 := Int32.le_toInt x2
              have b_14 : ¬ x2.toInt = 0 := fun h9 => q_11 (Int32.toInt_inj.mp h9)
              exact h9ret x3 σ mσ fσ (by first | with_reducible assumption | with_reducible rfl | omega | assumption | rfl) (H0.trans H.symm)
            · intro q_11
              replace H := f_t q_11 H
              have w_15 := Int32.toInt_lt x2
              have w_16 := Int32.le_toInt x2
              have b_17 : x2.toInt = 0 := congrArg Int32.toInt q_11
              exact h9ret x4 σ mσ fσ (by first | with_reducible assumption | with_reducible rfl | omega | assumption | rfl) (H0.trans H.symm)
        · intro q_1
          replace H := f_f q_1 H
          have t_18 := MI_f0 mσ
          have b_19 : ¬ (gi σ 74 0).toInt ≤ x5.toInt := fun h9 => q_1 (Int32.le_iff_toInt_le.mpr h9)
          refine kF_X12_allStopped mσ (by omega) (by omega) (by omega) (by omega) (by first | with_reducible assumption | with_reducible rfl | omega | assumption | rfl) (fun r5 σ4 mσ4 cσ4 (pσ4_0 : (gi σ4 74 1).toInt = (gi σ 74 1).toInt) hσ4 => ?_)
          replace H := f_b hσ4 H
          have fσ4 : Fr [74, 105, 106, 107, 108, 129, 131, 132, 134, 135, 136, 137] [1, 30, 33] σ0 σ4 := Fr_tr fσ cσ4 (by decide +kernel) (by decide +kernel)
          have k_20 : (gi σ4 74 0).toInt = (gi σ 74 0).toInt := congrArg Int32.toInt (cσ4.2.1 0 (by decide +kernel))
          refine ⟨?_, ?_⟩
          · intro q_21
            replace H := f_t q_21 H
            have w_22 := Int32.toInt_lt x3
            have w_23 := Int32.le_toInt x3
            have w_24 := Int32.toInt_lt r5
            have w_25 := Int32.le_toInt r5
            have b_26 : x3.toInt < r5.toInt := Int32.lt_iff_toInt_lt.mp q_21
            intro v7 ev7
            replace H := f_l ev7 H
            have t_27 : (x5 + (1 : Int32)).toInt = x5.toInt + 1 := i_add (x := x5) (y := (1 : Int32)) (by show (_ : Int) ≤ x5.toInt + 1; omega) (by show x5.toInt + 1 ≤ (_ : Int); omega)
            have t_28 : v7.toInt = (x5 + (1 : Int32)).toInt := congrArg Int32.toInt ev7
            exact ih39 x1 x2 r5 x5 v7 σ4 mσ4 fσ4 (by omega) (by omega) (by omega) (by omega) (by first | with_reducible assumption | with_reducible rfl | omega | assumption | rfl) H (by omega)
          · intro q_21
            replace H := f_f q_21 H
            have w_29 := Int32.toInt_lt x3
            have w_30 := Int32.le_toInt x3
            have w_31 := Int32.toInt_lt r5
            have w_32 := Int32.le_toInt r5
            have b_33 : ¬ x3.toInt < r5.toInt := fun h9 => q_21 (Int32.lt_iff_toInt_lt.mpr h9)
            intro v8 ev8
            replace H := f_l ev8 H
            have t_34 : (x5 + (1 : Int32)).toInt = x5.toInt + 1 := i_add (x := x5) (y := (1 : Int32)) (by show (_ : Int) ≤ x5.toInt + 1; omega) (by show x5.toInt + 1 ≤ (_ : Int); omega)
            have t_35 : v8.toInt = (x5 + (1 : Int32)).toInt := congrArg Int32.toInt ev8
            exact ih39 x1 x2 x3 x4 v8 σ4 mσ4 fσ4 (by omega) (by omega) (by omega) (by omega) (by first | with_reducible assumption | with_reducible rfl | omega | assumption | rfl) H (by omega)
  have U39 := T 20
  have f0 : Fr [74, 105, 106, 107, 108, 129, 131, 132, 134, 135, 136, 137] [1, 30, 33] σ0 σ0 := Fr_rf
  have H := H0
  unfold F_X12_rest at H
  refine s_X12_rest_0 C hN ?_
  refine kF_X12_in m0  (fun r2 σ1 mσ1 cσ1 plσ1 phσ1 (pσ1_0 : (r2.toInt = 1 ∧ (0 : Int) ≤ a2.toInt ∧ a2.toInt ≤ (1 : Int)) ∨ (r2.toInt = 0 ∧ (a2.toInt < (0 : Int) ∨ (1 : Int) < a2.toInt))) hσ1 => ?_)
  obtain rfl := Fr_nil cσ1
  replace H := f_b hσ1 H
  refine ⟨?_, ?_⟩
  · intro q_36
    replace H := f_f q_36 H
    have b_37 : ¬ r2.toInt = 0 := fun h9 => q_36 (Int32.toInt_inj.mp h9)
    refine kF_X12_in m0  (fun r5 σ4 mσ4 cσ4 plσ4 phσ4 (pσ4_0 : (r5.toInt = 1 ∧ (1 : Int) ≤ a1.toInt ∧ a1.toInt ≤ (60 : Int)) ∨ (r5.toInt = 0 ∧ (a1.toInt < (1 : Int) ∨ (60 : Int) < a1.toInt))) hσ4 => ?_)
    obtain rfl := Fr_nil cσ4
    replace H := f_b hσ4 H
    refine ⟨?_, ?_⟩
    · intro q_38
      replace H := f_f q_38 H
      have b_39 : ¬ r5.toInt = 0 := fun h9 => q_38 (Int32.toInt_inj.mp h9)
      refine kF_X12_allBehind m0 (by omega) (by omega) (by first | with_reducible assumption | with_reducible rfl | omega | assumption | rfl) (fun r8 σ7 mσ7 cσ7 plσ7 phσ7 (pσ7_0 : (gi σ7 74 1).toInt = (gi σ0 74 1).toInt) hσ7 => ?_)
      replace H := f_b hσ7 H
      have fσ7 : Fr [74, 105, 106, 107, 108, 129, 131, 132, 134, 135, 136, 137] [1, 30, 33] σ0 σ7 := Fr_tr f0 cσ7 (by decide +kernel) (by decide +kernel)
      have z_40 : (-5 : Int32).toInt = -5 := rfl
      have z_41 : (0 : Int32).toInt = 0 := rfl
      exact U39 a1 a2 r8 (-5 : Int32) (0 : Int32) σ7 mσ7 fσ7 (by omega) (by omega) (by omega) (by omega) (by first | with_reducible assumption | with_reducible rfl | omega | assumption | rfl) H (by omega)
    · intro q_38
      replace H := f_t q_38 H
      have b_42 : r5.toInt = 0 := congrArg Int32.toInt q_38
      have z_43 : (-2 : Int32).toInt = -2 := rfl
      exact h9ret (-2 : Int32) σ0 m0 f0 (by first | with_reducible assumption | with_reducible rfl | omega | assumption | rfl) (H0.trans H.symm)
  · intro q_36
    replace H := f_t q_36 H
    have b_44 : r2.toInt = 0 := congrArg Int32.toInt q_36
    have z_45 : (-1 : Int32).toInt = -1 := rfl
    exact h9ret (-1 : Int32) σ0 m0 f0 (by first | with_reducible assumption | with_reducible rfl | omega | assumption | rfl) (H0.trans H.symm)
set_option maxRecDepth 100000 in
set_option maxHeartbeats 4000000 in
theorem kF_X12_isSeen {l : Launch} {V : Vx} {a1 : Int32} {a2 : Int32} {σ0 : Sg} {Qk : Int32 → Sg → Prop} (m0 : MI σ0) (l_a1 : 0 ≤ a1.toInt) (u_a1 : a1.toInt ≤ 5) (l_a2 : 0 ≤ a2.toInt) (u_a2 : a2.toInt ≤ 5) (pre0 : (gi σ0 74 1).toInt ≤ 9999) (h9ret : ∀ (r : Int32) (σ' : Sg), MI σ' → Fr [74, 105, 106, 107, 108, 129, 131, 132, 134, 135, 136, 137] [1, 30, 33] σ0 σ' → (0 ≤ r.toInt) → (r.toInt ≤ 1) → ((gi σ' 74 1).toInt = (gi σ0 74 1).toInt) → (F_X12_isSeen a1 a2 σ0 = (r, σ')) → Qk r σ') : K_X12_isSeen l V a1 a2 σ0 Qk := by
  refine e_X12_isSeen (fun M hl hV hN C => ?_)
  subst hl
  subst hV
  obtain ⟨R9, H0⟩ : ∃ R9, F_X12_isSeen a1 a2 σ0 = R9 := ⟨_, rfl⟩
  have f0 : Fr [74, 105, 106, 107, 108, 129, 131, 132, 134, 135, 136, 137] [1, 30, 33] σ0 σ0 := Fr_rf
  have H := H0
  unfold F_X12_isSeen at H
  refine s_X12_isSeen_0 C hN ?_
  refine kF_X12_save m0  (fun σ1 mσ1 cσ1 (pσ1_0 : (gi σ1 74 33).toInt = (gi σ0 74 1).toInt) hσ1 => ?_)
  replace H := f_v hσ1 H
  have fσ1 : Fr [74, 105, 106, 107, 108, 129, 131, 132, 134, 135, 136, 137] [1, 30, 33] σ0 σ1 := Fr_tr f0 cσ1 (by decide +kernel) (by decide +kernel)
  have k_1 : (gi σ1 74 1).toInt = (gi σ0 74 1).toInt := congrArg Int32.toInt (cσ1.2.1 1 (by decide +kernel))
  have hv_2 : vp_in a1 6 := vp_in_iff.mpr ⟨by omega, by omega⟩
  refine ⟨hv_2, ?_⟩
  refine ⟨hv_2, ?_⟩
  intro σ4 eσ4
  replace H := f_l eσ4 H
  have mσ4 : MI σ4 := by rw [eσ4]; exact MIs_au (a := 108) mσ1 rfl rfl
  have fσ4 : Fr [74, 105, 106, 107, 108, 129, 131, 132, 134, 135, 136, 137] [1, 30, 33] σ0 σ4 := by rw [eσ4]; exact Fr_si fσ1 (by decide +kernel) (fun h9 => absurd h9 (by decide +kernel))
  have k_3 : (gi σ4 74 1).toInt = (gi σ1 74 1).toInt := gk_l eσ4 rfl
  have k_4 : (gi σ4 74 33).toInt = (gi σ1 74 33).toInt := gk_l eσ4 rfl
  have hv_5 : vp_in a2 6 := vp_in_iff.mpr ⟨by omega, by omega⟩
  refine ⟨hv_5, ?_⟩
  have t_6 := MI_a143 mσ4 hv_5
  refine kF_X12_goMinutes mσ4 (by omega) (by omega) (by first | with_reducible assumption | with_reducible rfl | omega | assumption | rfl) (fun σ6 mσ6 cσ6 (pσ6_0 : ((gi σ4 143 a2.toNatClampNeg).toInt ≤ 0 ∧ (gi σ6 74 1).toInt = (gi σ4 74 1).toInt) ∨ (0 ≤ (gi σ4 143 a2.toNatClampNeg).toInt ∧ (gi σ6 74 1).toInt = (gi σ4 74 1).toInt + (gi σ4 143 a2.toNatClampNeg).toInt)) hσ6 => ?_)
  replace H := f_v hσ6 H
  have fσ6 : Fr [74, 105, 106, 107, 108, 129, 131, 132, 134, 135, 136, 137] [1, 30, 33] σ0 σ6 := Fr_tr fσ4 cσ6 (by decide +kernel) (by decide +kernel)
  have k_7 : (gi σ6 74 33).toInt = (gi σ4 74 33).toInt := congrArg Int32.toInt (cσ6.2.1 33 (by decide +kernel))
  refine ⟨hv_5, ?_⟩
  have t_8 := MI_a142 mσ6 hv_5
  have hv_9 : vp_in (gi σ6 142 a2.toNatClampNeg) 6 := vp_in_iff.mpr ⟨by omega, by omega⟩
  refine ⟨hv_9, ?_⟩
  refine ⟨hv_5, ?_⟩
  refine ⟨?_, ?_⟩
  · intro q_10
    replace H := f_f q_10 H
    have t_11 := MI_a105 mσ6 hv_9
    have b_12 : ¬ (gi σ6 105 (gi σ6 142 a2.toNatClampNeg).toNatClampNeg).toInt = (gi σ6 144 a2.toNatClampNeg).toInt := fun h9 => q_10 (Int32.toInt_inj.mp h9)
    refine kF_X12_putBack mσ6  (fun σ11 mσ11 cσ11 (pσ11_0 : (gi σ11 74 1).toInt = (gi σ6 74 33).toInt) hσ11 => ?_)
    replace H := f_v hσ11 H
    have fσ11 : Fr [74, 105, 106, 107, 108, 129, 131, 132, 134, 135, 136, 137] [1, 30, 33] σ0 σ11 := Fr_tr fσ6 cσ11 (by decide +kernel) (by decide +kernel)
    have k_13 : (gi σ11 74 33).toInt = (gi σ6 74 33).toInt := congrArg Int32.toInt (cσ11.2.1 33 (by decide +kernel))
    have z_14 : (0 : Int32).toInt = 0 := rfl
    exact h9ret (0 : Int32) σ11 mσ11 fσ11 (by omega) (by omega) (by first | with_reducible assumption | with_reducible rfl | omega | assumption | rfl) (H0.trans H.symm)
  · intro q_10
    replace H := f_t q_10 H
    have t_15 := MI_a105 mσ6 hv_9
    have b_16 : (gi σ6 105 (gi σ6 142 a2.toNatClampNeg).toNatClampNeg).toInt = (gi σ6 144 a2.toNatClampNeg).toInt := congrArg Int32.toInt q_10
    refine kF_X12_putBack mσ6  (fun σ12 mσ12 cσ12 (pσ12_0 : (gi σ12 74 1).toInt = (gi σ6 74 33).toInt) hσ12 => ?_)
    replace H := f_v hσ12 H
    have fσ12 : Fr [74, 105, 106, 107, 108, 129, 131, 132, 134, 135, 136, 137] [1, 30, 33] σ0 σ12 := Fr_tr fσ6 cσ12 (by decide +kernel) (by decide +kernel)
    have k_17 : (gi σ12 74 33).toInt = (gi σ6 74 33).toInt := congrArg Int32.toInt (cσ12.2.1 33 (by decide +kernel))
    have z_18 : (1 : Int32).toInt = 1 := rfl
    exact h9ret (1 : Int32) σ12 mσ12 fσ12 (by omega) (by omega) (by first | with_reducible assumption | with_reducible rfl | omega | assumption | rfl) (H0.trans H.symm)
set_option maxRecDepth 100000 in
set_option maxHeartbeats 4000000 in
theorem kF_X12_whetted {l : Launch} {V : Vx} {a1 : Int32} {a2 : Int32} {σ0 : Sg} {Qk : Int32 → Sg → Prop} (m0 : MI σ0) (l_a1 : 1 ≤ a1.toInt) (u_a1 : a1.toInt ≤ 60) (l_a2 : 1 ≤ a2.toInt) (u_a2 : a2.toInt ≤ 16) (pre0 : (gi σ0 74 1).toInt ≤ 9999) (h9ret : ∀ (r : Int32) (σ' : Sg), MI σ' → Fr [74, 105, 106, 107, 108, 129, 131, 132, 134, 135, 136, 137] [1, 30, 33] σ0 σ' → ((gi σ' 74 1).toInt = (gi σ0 74 1).toInt) → (F_X12_whetted a1 a2 σ0 = (r, σ')) → Qk r σ') : K_X12_whetted l V a1 a2 σ0 Qk := by
  refine e_X12_whetted (fun M hl hV hN C => ?_)
  subst hl
  subst hV
  obtain ⟨R9, H0⟩ : ∃ R9, F_X12_whetted a1 a2 σ0 = R9 := ⟨_, rfl⟩
  have T : ∀ n : Nat, (∀ (x1 : Int32) (x2 : Int32) (x3 : Int32) (σ : Sg), MI σ → Fr [74, 105, 106, 107, 108, 129, 131, 132, 134, 135, 136, 137] [1, 30, 33] σ0 σ → (1 ≤ x1.toInt) → (x1.toInt ≤ 60) → (1 ≤ x2.toInt) → (x2.toInt ≤ 16) → (1 ≤ x3.toInt) → (x3.toInt ≤ 61) → ((gi σ 74 1).toInt ≤ 9999 + 100 * x3.toInt) → ((gi σ 74 33).toInt = (gi σ0 74 1).toInt) → (LF_X12_whetted n x1 x2 x3 σ = R9) → (62 - x3.toInt).toNat < n → PS M 6 [(0, .ref 74), (1, .int x1), (2, .int x2), (3, .int x3)] [] σ (0, 0)) := by
    intro n
    induction n with
    | zero => exact fun _ _ _ _ _ _ _ _ _ _ _ _ _ _ _ h8 => absurd h8 (Nat.not_lt_zero _)
    | succ n ih =>
      have ih6 := ih
      · intro x1 x2 x3 σ mσ fσ lx1 ux1 lx2 ux2 lx3 ux3 i0 i1 H hmu
        replace H : LB_X12_whetted_6 (LF_X12_whetted n) x1 x2 x3 σ = R9 := H
        unfold LB_X12_whetted_6 at H
        refine s_X12_whetted_6 C hN ?_
        refine ⟨?_, ?_⟩
        · intro q_1
          replace H := f_t q_1 H
          have b_2 : x1.toInt < x3.toInt := Int32.lt_iff_toInt_lt.mp q_1
          refine kF_X12_all mσ  (fun r3 σ2 mσ2 cσ2 plσ2 phσ2 hσ2 => ?_)
          obtain rfl := Fr_nil cσ2
          replace H := f_b hσ2 H
          refine kF_X12_putBack mσ  (fun σ4 mσ4 cσ4 (pσ4_0 : (gi σ4 74 1).toInt = (gi σ 74 33).toInt) hσ4 => ?_)
          replace H := f_v hσ4 H
          have fσ4 : Fr [74, 105, 106, 107, 108, 129, 131, 132, 134, 135, 136, 137] [1, 30, 33] σ0 σ4 := Fr_tr fσ cσ4 (by decide +kernel) (by decide +kernel)
          have k_3 : (gi σ4 74 33).toInt = (gi σ 74 33).toInt := congrArg Int32.toInt (cσ4.2.1 33 (by decide +kernel))
          exact h9ret r3 σ4 mσ4 fσ4 (by first | with_reducible assumption | with_reducible rfl | omega | assumption | rfl) (H0.trans H.symm)
        · intro q_1
          replace H := f_f q_1 H
          have b_4 : ¬ x1.toInt < x3.toInt := fun h9 => q_1 (Int32.lt_iff_toInt_lt.mpr h9)
          refine ⟨?_, ?_⟩
          · intro q_5
            replace H := f_t q_5 H
            have b_6 : (16 : Int) ≤ x2.toInt := Int32.le_iff_toInt_le.mp q_5
            have z_7 : (1 : Int32).toInt = 1 := rfl
            refine kF_X12_goMinutes mσ (by omega) (by omega) (by first | with_reducible assumption | with_reducible rfl | omega | assumption | rfl) (fun σ6 mσ6 cσ6 (pσ6_0 : ((1 : Int) ≤ 0 ∧ (gi σ6 74 1).toInt = (gi σ 74 1).toInt) ∨ (0 ≤ (1 : Int) ∧ (gi σ6 74 1).toInt = (gi σ 74 1).toInt + (1 : Int))) hσ6 => ?_)
            replace H := f_v hσ6 H
            have fσ6 : Fr [74, 105, 106, 107, 108, 129, 131, 132, 134, 135, 136, 137] [1, 30, 33] σ0 σ6 := Fr_tr fσ cσ6 (by decide +kernel) (by decide +kernel)
            have k_8 : (gi σ6 74 33).toInt = (gi σ 74 33).toInt := congrArg Int32.toInt (cσ6.2.1 33 (by decide +kernel))
            intro v7 ev7
            replace H := f_l ev7 H
            have t_9 : (x3 + (1 : Int32)).toInt = x3.toInt + 1 := i_add (x := x3) (y := (1 : Int32)) (by show (_ : Int) ≤ x3.toInt + 1; omega) (by show x3.toInt + 1 ≤ (_ : Int); omega)
            have t_10 : v7.toInt = (x3 + (1 : Int32)).toInt := congrArg Int32.toInt ev7
            exact ih6 x1 x2 v7 σ6 mσ6 fσ6 (by omega) (by omega) (by omega) (by omega) (by omega) (by omega) (by first | with_reducible assumption | with_reducible rfl | omega | assumption | rfl) (by first | with_reducible assumption | with_reducible rfl | omega | assumption | rfl) H (by omega)
          · intro q_5
            replace H := f_f q_5 H
            have b_11 : ¬ (16 : Int) ≤ x2.toInt := fun h9 => q_5 (Int32.le_iff_toInt_le.mpr h9)
            refine ⟨fun h9 => ?_, ?_⟩
            · have h9 : x2.toInt = 0 := congrArg Int32.toInt h9
              omega
            refine ⟨?_, ?_⟩
            · intro q_12
              replace H := f_f q_12 H
              try have t_13 : (x3 - ((x3 / x2) * x2)).toInt = x3.toInt - ((x3 / x2) * x2).toInt := i_sub (x := x3) (y := ((x3 / x2) * x2)) (by show (_ : Int) ≤ x3.toInt - ((x3 / x2) * x2).toInt; omega) (by show x3.toInt - ((x3 / x2) * x2).toInt ≤ (_ : Int); omega)
              have b_14 : ¬ (x3 - ((x3 / x2) * x2)).toInt = 0 := fun h9 => q_12 (Int32.toInt_inj.mp h9)
              have z_15 : (1 : Int32).toInt = 1 := rfl
              refine kF_X12_goMinutes mσ (by omega) (by omega) (by first | with_reducible assumption | with_reducible rfl | omega | assumption | rfl) (fun σ10 mσ10 cσ10 (pσ10_0 : ((1 : Int) ≤ 0 ∧ (gi σ10 74 1).toInt = (gi σ 74 1).toInt) ∨ (0 ≤ (1 : Int) ∧ (gi σ10 74 1).toInt = (gi σ 74 1).toInt + (1 : Int))) hσ10 => ?_)
              replace H := f_v hσ10 H
              have fσ10 : Fr [74, 105, 106, 107, 108, 129, 131, 132, 134, 135, 136, 137] [1, 30, 33] σ0 σ10 := Fr_tr fσ cσ10 (by decide +kernel) (by decide +kernel)
              have k_16 : (gi σ10 74 33).toInt = (gi σ 74 33).toInt := congrArg Int32.toInt (cσ10.2.1 33 (by decide +kernel))
              intro v11 ev11
              replace H := f_l ev11 H
              have t_17 : (x3 + (1 : Int32)).toInt = x3.toInt + 1 := i_add (x := x3) (y := (1 : Int32)) (by show (_ : Int) ≤ x3.toInt + 1; omega) (by show x3.toInt + 1 ≤ (_ : Int); omega)
              have t_18 : v11.toInt = (x3 + (1 : Int32)).toInt := congrArg Int32.toInt ev11
              exact ih6 x1 x2 v11 σ10 mσ10 fσ10 (by omega) (by omega) (by omega) (by omega) (by omega) (by omega) (by first | with_reducible assumption | with_reducible rfl | omega | assumption | rfl) (by first | with_reducible assumption | with_reducible rfl | omega | assumption | rfl) H (by omega)
            · intro q_12
              replace H := f_t q_12 H
              try have t_19 : (x3 - ((x3 / x2) * x2)).toInt = x3.toInt - ((x3 / x2) * x2).toInt := i_sub (x := x3) (y := ((x3 / x2) * x2)) (by show (_ : Int) ≤ x3.toInt - ((x3 / x2) * x2).toInt; omega) (by show x3.toInt - ((x3 / x2) * x2).toInt ≤ (_ : Int); omega)
              have b_20 : (x3 - ((x3 / x2) * x2)).toInt = 0 := congrArg Int32.toInt q_12
              refine kF_X12_goWhet mσ (by first | with_reducible assumption | with_reducible rfl | omega | assumption | rfl) (fun σ12 mσ12 cσ12 (pσ12_0 : (gi σ12 74 1).toInt = (gi σ 74 1).toInt + 1) hσ12 => ?_)
              replace H := f_v hσ12 H
              have fσ12 : Fr [74, 105, 106, 107, 108, 129, 131, 132, 134, 135, 136, 137] [1, 30, 33] σ0 σ12 := Fr_tr fσ cσ12 (by decide +kernel) (by decide +kernel)
              have k_21 : (gi σ12 74 33).toInt = (gi σ 74 33).toInt := congrArg Int32.toInt (cσ12.2.1 33 (by decide +kernel))
              intro v13 ev13
              replace H := f_l ev13 H
              have t_22 : (x3 + (1 : Int32)).toInt = x3.toInt + 1 := i_add (x := x3) (y := (1 : Int32)) (by show (_ : Int) ≤ x3.toInt + 1; omega) (by show x3.toInt + 1 ≤ (_ : Int); omega)
              have t_23 : v13.toInt = (x3 + (1 : Int32)).toInt := congrArg Int32.toInt ev13
              exact ih6 x1 x2 v13 σ12 mσ12 fσ12 (by omega) (by omega) (by omega) (by omega) (by omega) (by omega) (by first | with_reducible assumption | with_reducible rfl | omega | assumption | rfl) (by first | with_reducible assumption | with_reducible rfl | omega | assumption | rfl) H (by omega)
  have U6 := T 90
  have f0 : Fr [74, 105, 106, 107, 108, 129, 131, 132, 134, 135, 136, 137] [1, 30, 33] σ0 σ0 := Fr_rf
  have H := H0
  unfold F_X12_whetted at H
  refine s_X12_whetted_0 C hN ?_
  refine kF_X12_save m0  (fun σ1 mσ1 cσ1 (pσ1_0 : (gi σ1 74 33).toInt = (gi σ0 74 1).toInt) hσ1 => ?_)
  replace H := f_v hσ1 H
  have fσ1 : Fr [74, 105, 106, 107, 108, 129, 131, 132, 134, 135, 136, 137] [1, 30, 33] σ0 σ1 := Fr_tr f0 cσ1 (by decide +kernel) (by decide +kernel)
  have k_24 : (gi σ1 74 1).toInt = (gi σ0 74 1).toInt := congrArg Int32.toInt (cσ1.2.1 1 (by decide +kernel))
  have z_25 : (1 : Int32).toInt = 1 := rfl
  exact U6 a1 a2 (1 : Int32) σ1 mσ1 fσ1 (by omega) (by omega) (by omega) (by omega) (by omega) (by omega) (by first | with_reducible assumption | with_reducible rfl | omega | assumption | rfl) (by first | with_reducible assumption | with_reducible rfl | omega | assumption | rfl) H (by omega)
set_option maxRecDepth 100000 in
set_option maxHeartbeats 4000000 in
theorem kF_X12_whets {l : Launch} {V : Vx} {a1 : Int32} {a2 : Int32} {σ0 : Sg} {Qk : Int32 → Sg → Prop} (m0 : MI σ0) (pre0 : (gi σ0 74 1).toInt ≤ 9999) (h9ret : ∀ (r : Int32) (σ' : Sg), MI σ' → Fr [74, 105, 106, 107, 108, 129, 131, 132, 134, 135, 136, 137] [1, 30, 33] σ0 σ' → ((gi σ' 74 1).toInt = (gi σ0 74 1).toInt) → (F_X12_whets a1 a2 σ0 = (r, σ')) → Qk r σ') : K_X12_whets l V a1 a2 σ0 Qk := by
  refine e_X12_whets (fun M hl hV hN C => ?_)
  subst hl
  subst hV
  obtain ⟨R9, H0⟩ : ∃ R9, F_X12_whets a1 a2 σ0 = R9 := ⟨_, rfl⟩
  have T : ∀ n : Nat, (∀ (x1 : Int32) (x2 : Int32) (x3 : Int32) (x4 : Int32) (x5 : Int32) (σ : Sg), MI σ → Fr [74, 105, 106, 107, 108, 129, 131, 132, 134, 135, 136, 137] [1, 30, 33] σ0 σ → (1 ≤ x1.toInt) → (x1.toInt ≤ 60) → (1 ≤ x5.toInt) → (x5.toInt ≤ 17) → ((gi σ 74 1).toInt = (gi σ0 74 1).toInt) → (LF_X12_whets n x1 x2 x3 x4 x5 σ = R9) → (18 - x5.toInt).toNat < n → PS M 34 [(0, .ref 74), (1, .int x1), (2, .int x2), (3, .int x3), (4, .int x4), (5, .int x5)] [] σ (0, 0)) := by
    intro n
    induction n with
    | zero => exact fun _ _ _ _ _ _ _ _ _ _ _ _ _ _ h8 => absurd h8 (Nat.not_lt_zero _)
    | succ n ih =>
      have ih34 := ih
      · intro x1 x2 x3 x4 x5 σ mσ fσ lx1 ux1 lx5 ux5 i0 H hmu
        replace H : LB_X12_whets_34 (LF_X12_whets n) x1 x2 x3 x4 x5 σ = R9 := H
        unfold LB_X12_whets_34 at H
        refine s_X12_whets_34 C hN ?_
        refine ⟨?_, ?_⟩
        · intro q_1
          replace H := f_t q_1 H
          have b_2 : (17 : Int) ≤ x5.toInt := Int32.le_iff_toInt_le.mp q_1
          refine ⟨?_, ?_⟩
          · intro q_3
            replace H := f_f q_3 H
            have w_4 := Int32.toInt_lt x2
            have w_5 := Int32.le_toInt x2
            have b_6 : ¬ x2.toInt = 0 := fun h9 => q_3 (Int32.toInt_inj.mp h9)
            exact h9ret x4 σ mσ fσ (by first | with_reducible assumption | with_reducible rfl | omega | assumption | rfl) (H0.trans H.symm)
          · intro q_3
            replace H := f_t q_3 H
            have w_7 := Int32.toInt_lt x2
            have w_8 := Int32.le_toInt x2
            have b_9 : x2.toInt = 0 := congrArg Int32.toInt q_3
            exact h9ret x3 σ mσ fσ (by first | with_reducible assumption | with_reducible rfl | omega | assumption | rfl) (H0.trans H.symm)
        · intro q_1
          replace H := f_f q_1 H
          have b_10 : ¬ (17 : Int) ≤ x5.toInt := fun h9 => q_1 (Int32.le_iff_toInt_le.mpr h9)
          refine kF_X12_whetted mσ (by omega) (by omega) (by omega) (by omega) (by first | with_reducible assumption | with_reducible rfl | omega | assumption | rfl) (fun r4 σ3 mσ3 cσ3 (pσ3_0 : (gi σ3 74 1).toInt = (gi σ 74 1).toInt) hσ3 => ?_)
          replace H := f_b hσ3 H
          have fσ3 : Fr [74, 105, 106, 107, 108, 129, 131, 132, 134, 135, 136, 137] [1, 30, 33] σ0 σ3 := Fr_tr fσ cσ3 (by decide +kernel) (by decide +kernel)
          refine ⟨?_, ?_⟩
          · intro q_11
            replace H := f_t q_11 H
            have w_12 := Int32.toInt_lt x4
            have w_13 := Int32.le_toInt x4
            have w_14 := Int32.toInt_lt r4
            have w_15 := Int32.le_toInt r4
            have b_16 : x4.toInt < r4.toInt := Int32.lt_iff_toInt_lt.mp q_11
            intro v6 ev6
            replace H := f_l ev6 H
            have t_17 : (x5 + (1 : Int32)).toInt = x5.toInt + 1 := i_add (x := x5) (y := (1 : Int32)) (by show (_ : Int) ≤ x5.toInt + 1; omega) (by show x5.toInt + 1 ≤ (_ : Int); omega)
            have t_18 : v6.toInt = (x5 + (1 : Int32)).toInt := congrArg Int32.toInt ev6
            exact ih34 x1 x2 x5 r4 v6 σ3 mσ3 fσ3 (by omega) (by omega) (by omega) (by omega) (by first | with_reducible assumption | with_reducible rfl | omega | assumption | rfl) H (by omega)
          · intro q_11
            replace H := f_f q_11 H
            have w_19 := Int32.toInt_lt x4
            have w_20 := Int32.le_toInt x4
            have w_21 := Int32.toInt_lt r4
            have w_22 := Int32.le_toInt r4
            have b_23 : ¬ x4.toInt < r4.toInt := fun h9 => q_11 (Int32.lt_iff_toInt_lt.mpr h9)
            intro v7 ev7
            replace H := f_l ev7 H
            have t_24 : (x5 + (1 : Int32)).toInt = x5.toInt + 1 := i_add (x := x5) (y := (1 : Int32)) (by show (_ : Int) ≤ x5.toInt + 1; omega) (by show x5.toInt + 1 ≤ (_ : Int); omega)
            have t_25 : v7.toInt = (x5 + (1 : Int32)).toInt := congrArg Int32.toInt ev7
            exact ih34 x1 x2 x3 x4 v7 σ3 mσ3 fσ3 (by omega) (by omega) (by omega) (by omega) (by first | with_reducible assumption | with_reducible rfl | omega | assumption | rfl) H (by omega)
  have U34 := T 20
  have f0 : Fr [74, 105, 106, 107, 108, 129, 131, 132, 134, 135, 136, 137] [1, 30, 33] σ0 σ0 := Fr_rf
  have H := H0
  unfold F_X12_whets at H
  refine s_X12_whets_0 C hN ?_
  refine kF_X12_in m0  (fun r2 σ1 mσ1 cσ1 plσ1 phσ1 (pσ1_0 : (r2.toInt = 1 ∧ (0 : Int) ≤ a2.toInt ∧ a2.toInt ≤ (1 : Int)) ∨ (r2.toInt = 0 ∧ (a2.toInt < (0 : Int) ∨ (1 : Int) < a2.toInt))) hσ1 => ?_)
  obtain rfl := Fr_nil cσ1
  replace H := f_b hσ1 H
  refine ⟨?_, ?_⟩
  · intro q_26
    replace H := f_f q_26 H
    have b_27 : ¬ r2.toInt = 0 := fun h9 => q_26 (Int32.toInt_inj.mp h9)
    refine kF_X12_in m0  (fun r5 σ4 mσ4 cσ4 plσ4 phσ4 (pσ4_0 : (r5.toInt = 1 ∧ (1 : Int) ≤ a1.toInt ∧ a1.toInt ≤ (60 : Int)) ∨ (r5.toInt = 0 ∧ (a1.toInt < (1 : Int) ∨ (60 : Int) < a1.toInt))) hσ4 => ?_)
    obtain rfl := Fr_nil cσ4
    replace H := f_b hσ4 H
    refine ⟨?_, ?_⟩
    · intro q_28
      replace H := f_f q_28 H
      have b_29 : ¬ r5.toInt = 0 := fun h9 => q_28 (Int32.toInt_inj.mp h9)
      have z_30 : (0 : Int32).toInt = 0 := rfl
      have z_31 : (-1 : Int32).toInt = -1 := rfl
      have z_32 : (1 : Int32).toInt = 1 := rfl
      exact U34 a1 a2 (0 : Int32) (-1 : Int32) (1 : Int32) σ0 m0 f0 (by omega) (by omega) (by omega) (by omega) (by first | with_reducible assumption | with_reducible rfl | omega | assumption | rfl) H (by omega)
    · intro q_28
      replace H := f_t q_28 H
      have b_33 : r5.toInt = 0 := congrArg Int32.toInt q_28
      have z_34 : (-2 : Int32).toInt = -2 := rfl
      exact h9ret (-2 : Int32) σ0 m0 f0 (by first | with_reducible assumption | with_reducible rfl | omega | assumption | rfl) (H0.trans H.symm)
  · intro q_26
    replace H := f_t q_26 H
    have b_35 : r2.toInt = 0 := congrArg Int32.toInt q_26
    have z_36 : (-1 : Int32).toInt = -1 := rfl
    exact h9ret (-1 : Int32) σ0 m0 f0 (by first | with_reducible assumption | with_reducible rfl | omega | assumption | rfl) (H0.trans H.symm)
set_option maxRecDepth 100000 in
set_option maxHeartbeats 4000000 in
theorem kF_X12_on {l : Launch} {V : Vx} {a1 : Int32} {a2 : Int32} {σ0 : Sg} {Qk : Int32 → Sg → Prop} (m0 : MI σ0) (pre0 : (gi σ0 74 1).toInt ≤ 9999) (h9ret : ∀ (r : Int32) (σ' : Sg), MI σ' → Fr [74, 105, 106, 107, 108, 129, 131, 132, 134, 135, 136, 137] [1, 30, 33] σ0 σ' → ((gi σ' 74 1).toInt = (gi σ0 74 1).toInt) → (F_X12_on a1 a2 σ0 = (r, σ')) → Qk r σ') : K_X12_on l V a1 a2 σ0 Qk := by
  refine e_X12_on (fun M hl hV hN C => ?_)
  subst hl
  subst hV
  obtain ⟨R9, H0⟩ : ∃ R9, F_X12_on a1 a2 σ0 = R9 := ⟨_, rfl⟩
  have T : ∀ n : Nat, (∀ (x1 : Int32) (x2 : Int32) (σ : Sg), MI σ → Fr [74, 105, 106, 107, 108, 129, 131, 132, 134, 135, 136, 137] [1, 30, 33] σ0 σ → (0 ≤ x2.toInt) → (x2.toInt ≤ 40) → (x2.toInt = 0 ∨ (10 ≤ x2.toInt ∧ x2.toInt ≤ 9 + (gi σ0 74 0).toInt) ∨ (20 ≤ x2.toInt ∧ x2.toInt ≤ 19 + (gi σ0 74 0).toInt)) → ((gi σ 74 1).toInt = (gi σ0 74 1).toInt) → ((gi σ 74 0).toInt = (gi σ0 74 0).toInt) → (LF_X12_on n x1 x2 σ = R9) → 1 < n → PS M 40 [(0, .ref 74), (1, .int x1), (2, .int x2)] [] σ (0, 0)) := by
    intro n
    induction n with
    | zero => exact fun _ _ _ _ _ _ _ _ _ _ _ h8 => absurd h8 (Nat.not_lt_zero _)
    | succ n ih =>
      have ih40 := ih
      · intro x1 x2 σ mσ fσ lx2 ux2 i0 i1 i2 H hmu
        replace H : LB_X12_on_40 (LF_X12_on n) x1 x2 σ = R9 := H
        unfold LB_X12_on_40 at H
        have mw := MI_f0 m0
        refine s_X12_on_40 C hN ?_
        refine kF_X12_in mσ  (fun r2 σ1 mσ1 cσ1 plσ1 phσ1 (pσ1_0 : (r2.toInt = 1 ∧ (0 : Int) ≤ x1.toInt ∧ x1.toInt ≤ (60 : Int)) ∨ (r2.toInt = 0 ∧ (x1.toInt < (0 : Int) ∨ (60 : Int) < x1.toInt))) hσ1 => ?_)
        obtain rfl := Fr_nil cσ1
        replace H := f_b hσ1 H
        refine ⟨?_, ?_⟩
        · intro q_1
          replace H := f_f q_1 H
          have b_2 : ¬ r2.toInt = 0 := fun h9 => q_1 (Int32.toInt_inj.mp h9)
          refine kF_X12_save mσ  (fun σ4 mσ4 cσ4 (pσ4_0 : (gi σ4 74 33).toInt = (gi σ 74 1).toInt) hσ4 => ?_)
          replace H := f_v hσ4 H
          have fσ4 : Fr [74, 105, 106, 107, 108, 129, 131, 132, 134, 135, 136, 137] [1, 30, 33] σ0 σ4 := Fr_tr fσ cσ4 (by decide +kernel) (by decide +kernel)
          have k_3 : (gi σ4 74 0).toInt = (gi σ 74 0).toInt := congrArg Int32.toInt (cσ4.2.1 0 (by decide +kernel))
          have k_4 : (gi σ4 74 1).toInt = (gi σ 74 1).toInt := congrArg Int32.toInt (cσ4.2.1 1 (by decide +kernel))
          refine kF_X12_goMinutes mσ4 (by omega) (by omega) (by first | with_reducible assumption | with_reducible rfl | omega | assumption | rfl) (fun σ5 mσ5 cσ5 (pσ5_0 : (x1.toInt ≤ 0 ∧ (gi σ5 74 1).toInt = (gi σ4 74 1).toInt) ∨ (0 ≤ x1.toInt ∧ (gi σ5 74 1).toInt = (gi σ4 74 1).toInt + x1.toInt)) hσ5 => ?_)
          replace H := f_v hσ5 H
          have fσ5 : Fr [74, 105, 106, 107, 108, 129, 131, 132, 134, 135, 136, 137] [1, 30, 33] σ0 σ5 := Fr_tr fσ4 cσ5 (by decide +kernel) (by decide +kernel)
          have k_5 : (gi σ5 74 0).toInt = (gi σ4 74 0).toInt := congrArg Int32.toInt (cσ5.2.1 0 (by decide +kernel))
          have k_6 : (gi σ5 74 33).toInt = (gi σ4 74 33).toInt := congrArg Int32.toInt (cσ5.2.1 33 (by decide +kernel))
          refine ⟨?_, ?_⟩
          · intro q_7
            replace H := f_f q_7 H
            have b_8 : ¬ x2.toInt = 0 := fun h9 => q_7 (Int32.toInt_inj.mp h9)
            refine ⟨?_, ?_⟩
            · intro q_9
              replace H := f_t q_9 H
              have b_10 : (20 : Int) ≤ x2.toInt := Int32.le_iff_toInt_le.mp q_9
              have t_11 : (x2 - (20 : Int32)).toInt = x2.toInt - 20 := i_sub (x := x2) (y := (20 : Int32)) (by show (_ : Int) ≤ x2.toInt - 20; omega) (by show x2.toInt - 20 ≤ (_ : Int); omega)
              have hv_12 : vp_in (x2 - (20 : Int32)) 6 := vp_in_iff.mpr ⟨by omega, by omega⟩
              refine ⟨hv_12, ?_⟩
              intro v9 ev9
              replace H := f_l ev9 H
              refine kF_X12_putBack mσ5  (fun σ10 mσ10 cσ10 (pσ10_0 : (gi σ10 74 1).toInt = (gi σ5 74 33).toInt) hσ10 => ?_)
              replace H := f_v hσ10 H
              have fσ10 : Fr [74, 105, 106, 107, 108, 129, 131, 132, 134, 135, 136, 137] [1, 30, 33] σ0 σ10 := Fr_tr fσ5 cσ10 (by decide +kernel) (by decide +kernel)
              have k_13 : (gi σ10 74 0).toInt = (gi σ5 74 0).toInt := congrArg Int32.toInt (cσ10.2.1 0 (by decide +kernel))
              have k_14 : (gi σ10 74 33).toInt = (gi σ5 74 33).toInt := congrArg Int32.toInt (cσ10.2.1 33 (by decide +kernel))
              exact h9ret v9 σ10 mσ10 fσ10 (by first | with_reducible assumption | with_reducible rfl | omega | assumption | rfl) (H0.trans H.symm)
            · intro q_9
              replace H := f_f q_9 H
              have b_15 : ¬ (20 : Int) ≤ x2.toInt := fun h9 => q_9 (Int32.le_iff_toInt_le.mpr h9)
              have t_16 : (x2 - (10 : Int32)).toInt = x2.toInt - 10 := i_sub (x := x2) (y := (10 : Int32)) (by show (_ : Int) ≤ x2.toInt - 10; omega) (by show x2.toInt - 10 ≤ (_ : Int); omega)
              have hv_17 : vp_in (x2 - (10 : Int32)) 6 := vp_in_iff.mpr ⟨by omega, by omega⟩
              refine ⟨hv_17, ?_⟩
              intro v12 ev12
              replace H := f_l ev12 H
              have t_18 := MI_a105 mσ5 hv_17
              have t_19 : v12.toInt = (gi σ5 105 (x2 - (10 : Int32)).toNatClampNeg).toInt := congrArg Int32.toInt ev12
              refine kF_X12_putBack mσ5  (fun σ13 mσ13 cσ13 (pσ13_0 : (gi σ13 74 1).toInt = (gi σ5 74 33).toInt) hσ13 => ?_)
              replace H := f_v hσ13 H
              have fσ13 : Fr [74, 105, 106, 107, 108, 129, 131, 132, 134, 135, 136, 137] [1, 30, 33] σ0 σ13 := Fr_tr fσ5 cσ13 (by decide +kernel) (by decide +kernel)
              have k_20 : (gi σ13 74 0).toInt = (gi σ5 74 0).toInt := congrArg Int32.toInt (cσ13.2.1 0 (by decide +kernel))
              have k_21 : (gi σ13 74 33).toInt = (gi σ5 74 33).toInt := congrArg Int32.toInt (cσ13.2.1 33 (by decide +kernel))
              exact h9ret v12 σ13 mσ13 fσ13 (by first | with_reducible assumption | with_reducible rfl | omega | assumption | rfl) (H0.trans H.symm)
          · intro q_7
            replace H := f_t q_7 H
            have b_22 : x2.toInt = 0 := congrArg Int32.toInt q_7
            refine kF_X12_all mσ5  (fun r15 σ14 mσ14 cσ14 plσ14 phσ14 hσ14 => ?_)
            obtain rfl := Fr_nil cσ14
            replace H := f_b hσ14 H
            refine kF_X12_putBack mσ5  (fun σ16 mσ16 cσ16 (pσ16_0 : (gi σ16 74 1).toInt = (gi σ5 74 33).toInt) hσ16 => ?_)
            replace H := f_v hσ16 H
            have fσ16 : Fr [74, 105, 106, 107, 108, 129, 131, 132, 134, 135, 136, 137] [1, 30, 33] σ0 σ16 := Fr_tr fσ5 cσ16 (by decide +kernel) (by decide +kernel)
            have k_23 : (gi σ16 74 0).toInt = (gi σ5 74 0).toInt := congrArg Int32.toInt (cσ16.2.1 0 (by decide +kernel))
            have k_24 : (gi σ16 74 33).toInt = (gi σ5 74 33).toInt := congrArg Int32.toInt (cσ16.2.1 33 (by decide +kernel))
            exact h9ret r15 σ16 mσ16 fσ16 (by first | with_reducible assumption | with_reducible rfl | omega | assumption | rfl) (H0.trans H.symm)
        · intro q_1
          replace H := f_t q_1 H
          have b_25 : r2.toInt = 0 := congrArg Int32.toInt q_1
          have z_26 : (-2 : Int32).toInt = -2 := rfl
          exact h9ret (-2 : Int32) σ mσ fσ (by first | with_reducible assumption | with_reducible rfl | omega | assumption | rfl) (H0.trans H.symm)
  have U40 := T 9
  have f0 : Fr [74, 105, 106, 107, 108, 129, 131, 132, 134, 135, 136, 137] [1, 30, 33] σ0 σ0 := Fr_rf
  have H := H0
  unfold F_X12_on at H
  refine s_X12_on_0 C hN ?_
  refine ⟨?_, ?_⟩
  · intro q_27
    replace H := f_t q_27 H
    have w_28 := Int32.toInt_lt a2
    have w_29 := Int32.le_toInt a2
    have b_30 : a2.toInt = 0 := congrArg Int32.toInt q_27
    exact U40 a1 a2 σ0 m0 f0 (by omega) (by omega) (by first | with_reducible assumption | with_reducible rfl | omega | assumption | rfl) (by first | with_reducible assumption | with_reducible rfl | omega | assumption | rfl) (by first | with_reducible assumption | with_reducible rfl | omega | assumption | rfl) H (by omega)
  · intro q_27
    replace H := f_f q_27 H
    have w_31 := Int32.toInt_lt a2
    have w_32 := Int32.le_toInt a2
    have b_33 : ¬ a2.toInt = 0 := fun h9 => q_27 (Int32.toInt_inj.mp h9)
    have t_34 := MI_f0 m0
    have t_35 : ((9 : Int32) + (gi σ0 74 0)).toInt = 9 + (gi σ0 74 0).toInt := i_add (x := (9 : Int32)) (y := (gi σ0 74 0)) (by show (_ : Int) ≤ 9 + (gi σ0 74 0).toInt; omega) (by show 9 + (gi σ0 74 0).toInt ≤ (_ : Int); omega)
    refine kF_X12_in m0  (fun r3 σ2 mσ2 cσ2 plσ2 phσ2 (pσ2_0 : (r3.toInt = 1 ∧ (10 : Int) ≤ a2.toInt ∧ a2.toInt ≤ ((9 : Int32) + (gi σ0 74 0)).toInt) ∨ (r3.toInt = 0 ∧ (a2.toInt < (10 : Int) ∨ ((9 : Int32) + (gi σ0 74 0)).toInt < a2.toInt))) hσ2 => ?_)
    obtain rfl := Fr_nil cσ2
    replace H := f_b hσ2 H
    refine ⟨?_, ?_⟩
    · intro q_36
      replace H := f_f q_36 H
      have b_37 : ¬ r3.toInt = 0 := fun h9 => q_36 (Int32.toInt_inj.mp h9)
      exact U40 a1 a2 σ0 m0 f0 (by omega) (by omega) (by first | with_reducible assumption | with_reducible rfl | omega | assumption | rfl) (by first | with_reducible assumption | with_reducible rfl | omega | assumption | rfl) (by first | with_reducible assumption | with_reducible rfl | omega | assumption | rfl) H (by omega)
    · intro q_36
      replace H := f_t q_36 H
      have b_38 : r3.toInt = 0 := congrArg Int32.toInt q_36
      have t_39 : ((19 : Int32) + (gi σ0 74 0)).toInt = 19 + (gi σ0 74 0).toInt := i_add (x := (19 : Int32)) (y := (gi σ0 74 0)) (by show (_ : Int) ≤ 19 + (gi σ0 74 0).toInt; omega) (by show 19 + (gi σ0 74 0).toInt ≤ (_ : Int); omega)
      refine kF_X12_in m0  (fun r6 σ5 mσ5 cσ5 plσ5 phσ5 (pσ5_0 : (r6.toInt = 1 ∧ (20 : Int) ≤ a2.toInt ∧ a2.toInt ≤ ((19 : Int32) + (gi σ0 74 0)).toInt) ∨ (r6.toInt = 0 ∧ (a2.toInt < (20 : Int) ∨ ((19 : Int32) + (gi σ0 74 0)).toInt < a2.toInt))) hσ5 => ?_)
      obtain rfl := Fr_nil cσ5
      replace H := f_b hσ5 H
      refine ⟨?_, ?_⟩
      · intro q_40
        replace H := f_f q_40 H
        have b_41 : ¬ r6.toInt = 0 := fun h9 => q_40 (Int32.toInt_inj.mp h9)
        exact U40 a1 a2 σ0 m0 f0 (by omega) (by omega) (by first | with_reducible assumption | with_reducible rfl | omega | assumption | rfl) (by first | with_reducible assumption | with_reducible rfl | omega | assumption | rfl) (by first | with_reducible assumption | with_reducible rfl | omega | assumption | rfl) H (by omega)
      · intro q_40
        replace H := f_t q_40 H
        have b_42 : r6.toInt = 0 := congrArg Int32.toInt q_40
        have z_43 : (-1 : Int32).toInt = -1 := rfl
        exact h9ret (-1 : Int32) σ0 m0 f0 (by first | with_reducible assumption | with_reducible rfl | omega | assumption | rfl) (H0.trans H.symm)
set_option maxRecDepth 100000 in
set_option maxHeartbeats 4000000 in
theorem kF_X12_done {l : Launch} {V : Vx} {σ0 : Sg} {Qk : Int32 → Sg → Prop} (m0 : MI σ0) (pre0 : (gi σ0 74 1).toInt ≤ 9999) (h9ret : ∀ (r : Int32) (σ' : Sg), MI σ' → Fr [74, 105, 106, 107, 108, 129, 131, 132, 134, 135, 136, 137] [1, 30, 33] σ0 σ' → ((gi σ' 74 1).toInt = (gi σ0 74 1).toInt) → (F_X12_done σ0 = (r, σ')) → Qk r σ') : K_X12_done l V σ0 Qk := by
  refine e_X12_done (fun M hl hV hN C => ?_)
  subst hl
  subst hV
  obtain ⟨R9, H0⟩ : ∃ R9, F_X12_done σ0 = R9 := ⟨_, rfl⟩
  have T : ∀ n : Nat, (∀ (x1 : Int32) (σ : Sg), MI σ → Fr [74, 105, 106, 107, 108, 129, 131, 132, 134, 135, 136, 137] [1, 30, 33] σ0 σ → (0 ≤ x1.toInt) → (x1.toInt ≤ 121) → ((gi σ 74 1).toInt ≤ 9999 + x1.toInt) → ((gi σ 74 33).toInt = (gi σ0 74 1).toInt) → (LF_X12_done n 0 x1 σ = R9) → (122 - x1.toInt).toNat + 5 < n → PS M 6 [(0, .ref 74), (1, .int x1)] [] σ (0, 0)) ∧ (∀ (x1 : Int32) (σ : Sg), MI σ → Fr [74, 105, 106, 107, 108, 129, 131, 132, 134, 135, 136, 137] [1, 30, 33] σ0 σ → (0 ≤ x1.toInt) → (x1.toInt ≤ 121) → ((gi σ 74 33).toInt = (gi σ0 74 1).toInt) → (LF_X12_done n 1 x1 σ = R9) → 1 < n → PS M 30 [(0, .ref 74), (1, .int x1)] [] σ (0, 0)) := by
    intro n
    induction n with
    | zero => exact ⟨fun _ _ _ _ _ _ _ _ _ h8 => absurd h8 (Nat.not_lt_zero _), fun _ _ _ _ _ _ _ _ h8 => absurd h8 (Nat.not_lt_zero _)⟩
    | succ n ih =>
      obtain ⟨ih6, ih30⟩ := ih
      refine ⟨?_, ?_⟩
      · intro x1 σ mσ fσ lx1 ux1 i0 i1 H hmu
        replace H : LB_X12_done_6 (LF_X12_done n) x1 σ = R9 := H
        unfold LB_X12_done_6 at H
        refine s_X12_done_6 C hN ?_
        refine ⟨?_, ?_⟩
        · intro q_1
          replace H := f_t q_1 H
          have b_2 : (120 : Int) < x1.toInt := Int32.lt_iff_toInt_lt.mp q_1
          exact ih30 x1 σ mσ fσ (by omega) (by omega) (by first | with_reducible assumption | with_reducible rfl | omega | assumption | rfl) H (by omega)
        · intro q_1
          replace H := f_f q_1 H
          have b_3 : ¬ (120 : Int) < x1.toInt := fun h9 => q_1 (Int32.lt_iff_toInt_lt.mpr h9)
          refine kF_X12_isDone mσ  (fun r3 σ2 mσ2 cσ2 plσ2 phσ2 hσ2 => ?_)
          obtain rfl := Fr_nil cσ2
          replace H := f_b hσ2 H
          refine ⟨?_, ?_⟩
          · intro q_4
            replace H := f_f q_4 H
            have b_5 : ¬ r3.toInt = 0 := fun h9 => q_4 (Int32.toInt_inj.mp h9)
            exact ih30 x1 σ mσ fσ (by omega) (by omega) (by first | with_reducible assumption | with_reducible rfl | omega | assumption | rfl) H (by omega)
          · intro q_4
            replace H := f_t q_4 H
            have b_6 : r3.toInt = 0 := congrArg Int32.toInt q_4
            have z_7 : (1 : Int32).toInt = 1 := rfl
            refine kF_X12_goMinutes mσ (by omega) (by omega) (by first | with_reducible assumption | with_reducible rfl | omega | assumption | rfl) (fun σ5 mσ5 cσ5 (pσ5_0 : ((1 : Int) ≤ 0 ∧ (gi σ5 74 1).toInt = (gi σ 74 1).toInt) ∨ (0 ≤ (1 : Int) ∧ (gi σ5 74 1).toInt = (gi σ 74 1).toInt + (1 : Int))) hσ5 => ?_)
            replace H := f_v hσ5 H
            have fσ5 : Fr [74, 105, 106, 107, 108, 129, 131, 132, 134, 135, 136, 137] [1, 30, 33] σ0 σ5 := Fr_tr fσ cσ5 (by decide +kernel) (by decide +kernel)
            have k_8 : (gi σ5 74 33).toInt = (gi σ 74 33).toInt := congrArg Int32.toInt (cσ5.2.1 33 (by decide +kernel))
            intro v6 ev6
            replace H := f_l ev6 H
            have t_9 : (x1 + (1 : Int32)).toInt = x1.toInt + 1 := i_add (x := x1) (y := (1 : Int32)) (by show (_ : Int) ≤ x1.toInt + 1; omega) (by show x1.toInt + 1 ≤ (_ : Int); omega)
            have t_10 : v6.toInt = (x1 + (1 : Int32)).toInt := congrArg Int32.toInt ev6
            exact ih6 v6 σ5 mσ5 fσ5 (by omega) (by omega) (by first | with_reducible assumption | with_reducible rfl | omega | assumption | rfl) (by first | with_reducible assumption | with_reducible rfl | omega | assumption | rfl) H (by omega)
      · intro x1 σ mσ fσ lx1 ux1 i0 H hmu
        replace H : LB_X12_done_30 (LF_X12_done n) x1 σ = R9 := H
        unfold LB_X12_done_30 at H
        refine s_X12_done_30 C hN ?_
        refine kF_X12_putBack mσ  (fun σ1 mσ1 cσ1 (pσ1_0 : (gi σ1 74 1).toInt = (gi σ 74 33).toInt) hσ1 => ?_)
        replace H := f_v hσ1 H
        have fσ1 : Fr [74, 105, 106, 107, 108, 129, 131, 132, 134, 135, 136, 137] [1, 30, 33] σ0 σ1 := Fr_tr fσ cσ1 (by decide +kernel) (by decide +kernel)
        have k_11 : (gi σ1 74 33).toInt = (gi σ 74 33).toInt := congrArg Int32.toInt (cσ1.2.1 33 (by decide +kernel))
        refine ⟨?_, ?_⟩
        · intro q_12
          replace H := f_t q_12 H
          have b_13 : (120 : Int) < x1.toInt := Int32.lt_iff_toInt_lt.mp q_12
          have z_14 : (-5 : Int32).toInt = -5 := rfl
          exact h9ret (-5 : Int32) σ1 mσ1 fσ1 (by first | with_reducible assumption | with_reducible rfl | omega | assumption | rfl) (H0.trans H.symm)
        · intro q_12
          replace H := f_f q_12 H
          have b_15 : ¬ (120 : Int) < x1.toInt := fun h9 => q_12 (Int32.lt_iff_toInt_lt.mpr h9)
          exact h9ret x1 σ1 mσ1 fσ1 (by first | with_reducible assumption | with_reducible rfl | omega | assumption | rfl) (H0.trans H.symm)
  obtain ⟨U6, U30⟩ := T 400
  have f0 : Fr [74, 105, 106, 107, 108, 129, 131, 132, 134, 135, 136, 137] [1, 30, 33] σ0 σ0 := Fr_rf
  have H := H0
  unfold F_X12_done at H
  refine s_X12_done_0 C hN ?_
  refine kF_X12_save m0  (fun σ1 mσ1 cσ1 (pσ1_0 : (gi σ1 74 33).toInt = (gi σ0 74 1).toInt) hσ1 => ?_)
  replace H := f_v hσ1 H
  have fσ1 : Fr [74, 105, 106, 107, 108, 129, 131, 132, 134, 135, 136, 137] [1, 30, 33] σ0 σ1 := Fr_tr f0 cσ1 (by decide +kernel) (by decide +kernel)
  have k_16 : (gi σ1 74 1).toInt = (gi σ0 74 1).toInt := congrArg Int32.toInt (cσ1.2.1 1 (by decide +kernel))
  have z_17 : (0 : Int32).toInt = 0 := rfl
  exact U6 (0 : Int32) σ1 mσ1 fσ1 (by omega) (by omega) (by first | with_reducible assumption | with_reducible rfl | omega | assumption | rfl) (by first | with_reducible assumption | with_reducible rfl | omega | assumption | rfl) H (by omega)
set_option maxRecDepth 100000 in
set_option maxHeartbeats 4000000 in
theorem kF_X12_stop {l : Launch} {V : Vx} {a1 : Int32} {a2 : Int32} {a3 : Int32} {a4 : Int32} {σ0 : Sg} {Qk : Int32 → Sg → Prop} (m0 : MI σ0) (pre0 : (gi σ0 74 1).toInt ≤ 9999) (h9ret : ∀ (r : Int32) (σ' : Sg), MI σ' → Fr [74, 105, 106, 107, 108, 129, 131, 132, 134, 135, 136, 137, 140] [1, 30, 33] σ0 σ' → ((gi σ' 74 1).toInt = (gi σ0 74 1).toInt) → (F_X12_stop a1 a2 a3 a4 σ0 = (r, σ')) → Qk r σ') : K_X12_stop l V a1 a2 a3 a4 σ0 Qk := by
  refine e_X12_stop (fun M hl hV hN C => ?_)
  subst hl
  subst hV
  obtain ⟨R9, H0⟩ : ∃ R9, F_X12_stop a1 a2 a3 a4 σ0 = R9 := ⟨_, rfl⟩
  have T : ∀ n : Nat, (∀ (x1 : Int32) (x2 : Int32) (x3 : Int32) (x4 : Int32) (x5 : Int32) (σ : Sg), MI σ → Fr [74, 105, 106, 107, 108, 129, 131, 132, 134, 135, 136, 137, 140] [1, 30, 33] σ0 σ → (0 ≤ x1.toInt) → (x1.toInt ≤ 5) → (1 ≤ x3.toInt) → (x3.toInt ≤ 60) → (0 ≤ x5.toInt) → (x5.toInt ≤ 6) → ((gi σ 74 33).toInt = (gi σ0 74 1).toInt) → (LF_X12_stop n 0 x1 x2 x3 x4 x5 0 0 σ = R9) → (7 - x5.toInt).toNat + 20 < n → PS M 61 [(0, .ref 74), (1, .int x1), (2, .int x2), (3, .int x3), (4, .int x4), (5, .int x5)] [] σ (0, 0)) ∧ (∀ (x1 : Int32) (x4 : Int32) (x5 : Int32) (x6 : Int32) (x7 : Int32) (σ : Sg), MI σ → Fr [74, 105, 106, 107, 108, 129, 131, 132, 134, 135, 136, 137, 140] [1, 30, 33] σ0 σ → (0 ≤ x1.toInt) → (x1.toInt ≤ 5) → (0 ≤ x7.toInt) → (x7.toInt ≤ 6) → ((gi σ 74 33).toInt = (gi σ0 74 1).toInt) → (LF_X12_stop n 1 x1 0 0 x4 x5 x6 x7 σ = R9) → (7 - x7.toInt).toNat < n → PS M 123 [(0, .ref 74), (1, .int x1), (4, .int x4), (5, .int x5), (6, .int x6), (7, .int x7)] [] σ (0, 0)) := by
    intro n
    induction n with
    | zero => exact ⟨fun _ _ _ _ _ _ _ _ _ _ _ _ _ _ _ _ h8 => absurd h8 (Nat.not_lt_zero _), fun _ _ _ _ _ _ _ _ _ _ _ _ _ _ h8 => absurd h8 (Nat.not_lt_zero _)⟩
    | succ n ih =>
      obtain ⟨ih61, ih123⟩ := ih
      refine ⟨?_, ?_⟩
      · intro x1 x2 x3 x4 x5 σ mσ fσ lx1 ux1 lx3 ux3 lx5 ux5 i0 H hmu
        replace H : LB_X12_stop_61 (LF_X12_stop n) x1 x2 x3 x4 x5 σ = R9 := H
        unfold LB_X12_stop_61 at H
        refine s_X12_stop_61 C hN ?_
        refine ⟨?_, ?_⟩
        · intro q_1
          replace H := f_t q_1 H
          have b_2 : (6 : Int) ≤ x5.toInt := Int32.le_iff_toInt_le.mp q_1
          refine kF_X12_all mσ  (fun r3 σ2 mσ2 cσ2 plσ2 phσ2 hσ2 => ?_)
          obtain rfl := Fr_nil cσ2
          replace H := f_b hσ2 H
          refine kF_X12_putBack mσ  (fun σ4 mσ4 cσ4 (pσ4_0 : (gi σ4 74 1).toInt = (gi σ 74 33).toInt) hσ4 => ?_)
          replace H := f_v hσ4 H
          have fσ4 : Fr [74, 105, 106, 107, 108, 129, 131, 132, 134, 135, 136, 137, 140] [1, 30, 33] σ0 σ4 := Fr_tr fσ cσ4 (by decide +kernel) (by decide +kernel)
          have k_3 : (gi σ4 74 33).toInt = (gi σ 74 33).toInt := congrArg Int32.toInt (cσ4.2.1 33 (by decide +kernel))
          refine kF_X12_save mσ4  (fun σ5 mσ5 cσ5 (pσ5_0 : (gi σ5 74 33).toInt = (gi σ4 74 1).toInt) hσ5 => ?_)
          replace H := f_v hσ5 H
          have fσ5 : Fr [74, 105, 106, 107, 108, 129, 131, 132, 134, 135, 136, 137, 140] [1, 30, 33] σ0 σ5 := Fr_tr fσ4 cσ5 (by decide +kernel) (by decide +kernel)
          have k_4 : (gi σ5 74 1).toInt = (gi σ4 74 1).toInt := congrArg Int32.toInt (cσ5.2.1 1 (by decide +kernel))
          have hv_5 : vp_in x1 6 := vp_in_iff.mpr ⟨by omega, by omega⟩
          refine ⟨hv_5, ?_⟩
          refine ⟨hv_5, ?_⟩
          intro σ8 eσ8
          replace H := f_l eσ8 H
          have mσ8 : MI σ8 := by rw [eσ8]; exact MIs_au (a := 108) mσ5 rfl rfl
          have fσ8 : Fr [74, 105, 106, 107, 108, 129, 131, 132, 134, 135, 136, 137, 140] [1, 30, 33] σ0 σ8 := by rw [eσ8]; exact Fr_si fσ5 (by decide +kernel) (fun h9 => absurd h9 (by decide +kernel))
          have k_6 : (gi σ8 74 1).toInt = (gi σ5 74 1).toInt := gk_l eσ8 rfl
          have k_7 : (gi σ8 74 33).toInt = (gi σ5 74 33).toInt := gk_l eσ8 rfl
          refine kF_X12_goMinutes mσ8 (by omega) (by omega) (by first | with_reducible assumption | with_reducible rfl | omega | assumption | rfl) (fun σ9 mσ9 cσ9 (pσ9_0 : (x3.toInt ≤ 0 ∧ (gi σ9 74 1).toInt = (gi σ8 74 1).toInt) ∨ (0 ≤ x3.toInt ∧ (gi σ9 74 1).toInt = (gi σ8 74 1).toInt + x3.toInt)) hσ9 => ?_)
          replace H := f_v hσ9 H
          have fσ9 : Fr [74, 105, 106, 107, 108, 129, 131, 132, 134, 135, 136, 137, 140] [1, 30, 33] σ0 σ9 := Fr_tr fσ8 cσ9 (by decide +kernel) (by decide +kernel)
          have k_8 : (gi σ9 74 33).toInt = (gi σ8 74 33).toInt := congrArg Int32.toInt (cσ9.2.1 33 (by decide +kernel))
          have z_9 : (0 : Int32).toInt = 0 := rfl
          exact ih123 x1 x4 r3 (0 : Int32) (0 : Int32) σ9 mσ9 fσ9 (by omega) (by omega) (by omega) (by omega) (by first | with_reducible assumption | with_reducible rfl | omega | assumption | rfl) H (by omega)
        · intro q_1
          replace H := f_f q_1 H
          have b_10 : ¬ (6 : Int) ≤ x5.toInt := fun h9 => q_1 (Int32.le_iff_toInt_le.mpr h9)
          have hv_11 : vp_in x5 6 := vp_in_iff.mpr ⟨by omega, by omega⟩
          refine ⟨hv_11, ?_⟩
          refine ⟨hv_11, ?_⟩
          intro σ12 eσ12
          replace H := f_l eσ12 H
          have mσ12 : MI σ12 := by rw [eσ12]; exact MIs_au (a := 140) mσ rfl rfl
          have fσ12 : Fr [74, 105, 106, 107, 108, 129, 131, 132, 134, 135, 136, 137, 140] [1, 30, 33] σ0 σ12 := by rw [eσ12]; exact Fr_si fσ (by decide +kernel) (fun h9 => absurd h9 (by decide +kernel))
          have k_12 : (gi σ12 74 1).toInt = (gi σ 74 1).toInt := gk_l eσ12 rfl
          have k_13 : (gi σ12 74 33).toInt = (gi σ 74 33).toInt := gk_l eσ12 rfl
          intro v13 ev13
          replace H := f_l ev13 H
          have t_14 : (x5 + (1 : Int32)).toInt = x5.toInt + 1 := i_add (x := x5) (y := (1 : Int32)) (by show (_ : Int) ≤ x5.toInt + 1; omega) (by show x5.toInt + 1 ≤ (_ : Int); omega)
          have t_15 : v13.toInt = (x5 + (1 : Int32)).toInt := congrArg Int32.toInt ev13
          exact ih61 x1 x2 x3 x4 v13 σ12 mσ12 fσ12 (by omega) (by omega) (by omega) (by omega) (by omega) (by omega) (by first | with_reducible assumption | with_reducible rfl | omega | assumption | rfl) H (by omega)
      · intro x1 x4 x5 x6 x7 σ mσ fσ lx1 ux1 lx7 ux7 i0 H hmu
        replace H : LB_X12_stop_123 (LF_X12_stop n) x1 x4 x5 x6 x7 σ = R9 := H
        unfold LB_X12_stop_123 at H
        refine s_X12_stop_123 C hN ?_
        refine ⟨?_, ?_⟩
        · intro q_16
          replace H := f_t q_16 H
          have t_17 := MI_f0 mσ
          have b_18 : (gi σ 74 0).toInt ≤ x7.toInt := Int32.le_iff_toInt_le.mp q_16
          refine kF_X12_all mσ  (fun r3 σ2 mσ2 cσ2 plσ2 phσ2 hσ2 => ?_)
          obtain rfl := Fr_nil cσ2
          replace H := f_b hσ2 H
          refine kF_X12_putBack mσ  (fun σ4 mσ4 cσ4 (pσ4_0 : (gi σ4 74 1).toInt = (gi σ 74 33).toInt) hσ4 => ?_)
          replace H := f_v hσ4 H
          have fσ4 : Fr [74, 105, 106, 107, 108, 129, 131, 132, 134, 135, 136, 137, 140] [1, 30, 33] σ0 σ4 := Fr_tr fσ cσ4 (by decide +kernel) (by decide +kernel)
          have k_19 : (gi σ4 74 0).toInt = (gi σ 74 0).toInt := congrArg Int32.toInt (cσ4.2.1 0 (by decide +kernel))
          have k_20 : (gi σ4 74 33).toInt = (gi σ 74 33).toInt := congrArg Int32.toInt (cσ4.2.1 33 (by decide +kernel))
          refine ⟨?_, ?_⟩
          · intro q_21
            replace H := f_f q_21 H
            have w_22 := Int32.toInt_lt x4
            have w_23 := Int32.le_toInt x4
            have b_24 : ¬ x4.toInt = 0 := fun h9 => q_21 (Int32.toInt_inj.mp h9)
            exact h9ret x6 σ4 mσ4 fσ4 (by first | with_reducible assumption | with_reducible rfl | omega | assumption | rfl) (H0.trans H.symm)
          · intro q_21
            replace H := f_t q_21 H
            have w_25 := Int32.toInt_lt x4
            have w_26 := Int32.le_toInt x4
            have b_27 : x4.toInt = 0 := congrArg Int32.toInt q_21
            exact h9ret (x5 - r3) σ4 mσ4 fσ4 (by first | with_reducible assumption | with_reducible rfl | omega | assumption | rfl) (H0.trans H.symm)
        · intro q_16
          replace H := f_f q_16 H
          have t_28 := MI_f0 mσ
          have b_29 : ¬ (gi σ 74 0).toInt ≤ x7.toInt := fun h9 => q_16 (Int32.le_iff_toInt_le.mpr h9)
          refine ⟨?_, ?_⟩
          · intro q_30
            replace H := f_t q_30 H
            have b_31 : x7.toInt = x1.toInt := congrArg Int32.toInt q_30
            intro v7 ev7
            replace H := f_l ev7 H
            intro v8 ev8
            replace H := f_l ev8 H
            have t_32 : (x7 + (1 : Int32)).toInt = x7.toInt + 1 := i_add (x := x7) (y := (1 : Int32)) (by show (_ : Int) ≤ x7.toInt + 1; omega) (by show x7.toInt + 1 ≤ (_ : Int); omega)
            have t_33 : v8.toInt = (x7 + (1 : Int32)).toInt := congrArg Int32.toInt ev8
            exact ih123 x1 x4 x5 v7 v8 σ mσ fσ (by omega) (by omega) (by omega) (by omega) (by first | with_reducible assumption | with_reducible rfl | omega | assumption | rfl) H (by omega)
          · intro q_30
            replace H := f_f q_30 H
            have b_34 : ¬ x7.toInt = x1.toInt := fun h9 => q_30 (Int32.toInt_inj.mp h9)
            have hv_35 : vp_in x7 6 := vp_in_iff.mpr ⟨by omega, by omega⟩
            refine ⟨hv_35, ?_⟩
            refine ⟨hv_35, ?_⟩
            refine ⟨?_, ?_⟩
            · intro q_36
              replace H := f_t q_36 H
              have t_37 := MI_a105 mσ hv_35
              have b_38 : (gi σ 140 x7.toNatClampNeg).toInt ≤ (gi σ 105 x7.toNatClampNeg).toInt := Int32.le_iff_toInt_le.mp q_36
              intro v12 ev12
              replace H := f_l ev12 H
              intro v13 ev13
              replace H := f_l ev13 H
              have t_39 : (x7 + (1 : Int32)).toInt = x7.toInt + 1 := i_add (x := x7) (y := (1 : Int32)) (by show (_ : Int) ≤ x7.toInt + 1; omega) (by show x7.toInt + 1 ≤ (_ : Int); omega)
              have t_40 : v13.toInt = (x7 + (1 : Int32)).toInt := congrArg Int32.toInt ev13
              exact ih123 x1 x4 x5 v12 v13 σ mσ fσ (by omega) (by omega) (by omega) (by omega) (by first | with_reducible assumption | with_reducible rfl | omega | assumption | rfl) H (by omega)
            · intro q_36
              replace H := f_f q_36 H
              have t_41 := MI_a105 mσ hv_35
              have b_42 : ¬ (gi σ 140 x7.toNatClampNeg).toInt ≤ (gi σ 105 x7.toNatClampNeg).toInt := fun h9 => q_36 (Int32.le_iff_toInt_le.mpr h9)
              intro v14 ev14
              replace H := f_l ev14 H
              intro v15 ev15
              replace H := f_l ev15 H
              have t_43 : (x7 + (1 : Int32)).toInt = x7.toInt + 1 := i_add (x := x7) (y := (1 : Int32)) (by show (_ : Int) ≤ x7.toInt + 1; omega) (by show x7.toInt + 1 ≤ (_ : Int); omega)
              have t_44 : v15.toInt = (x7 + (1 : Int32)).toInt := congrArg Int32.toInt ev15
              exact ih123 x1 x4 x5 v14 v15 σ mσ fσ (by omega) (by omega) (by omega) (by omega) (by first | with_reducible assumption | with_reducible rfl | omega | assumption | rfl) H (by omega)
  obtain ⟨U61, U123⟩ := T 60
  have f0 : Fr [74, 105, 106, 107, 108, 129, 131, 132, 134, 135, 136, 137, 140] [1, 30, 33] σ0 σ0 := Fr_rf
  have H := H0
  unfold F_X12_stop at H
  refine s_X12_stop_0 C hN ?_
  refine kF_X12_isMower m0  (fun r2 σ1 mσ1 cσ1 plσ1 phσ1 (pσ1_0 : (r2.toInt = 1 ∧ 0 ≤ a1.toInt ∧ a1.toInt < (gi σ0 74 0).toInt) ∨ (r2.toInt = 0 ∧ (a1.toInt < 0 ∨ (gi σ0 74 0).toInt ≤ a1.toInt))) hσ1 => ?_)
  obtain rfl := Fr_nil cσ1
  replace H := f_b hσ1 H
  have t_45 := MI_f0 m0
  refine ⟨?_, ?_⟩
  · intro q_46
    replace H := f_t q_46 H
    have b_47 : r2.toInt = 0 := congrArg Int32.toInt q_46
    have z_48 : (-100001 : Int32).toInt = -100001 := rfl
    exact h9ret (-100001 : Int32) σ0 m0 f0 (by first | with_reducible assumption | with_reducible rfl | omega | assumption | rfl) (H0.trans H.symm)
  · intro q_46
    replace H := f_f q_46 H
    have b_49 : ¬ r2.toInt = 0 := fun h9 => q_46 (Int32.toInt_inj.mp h9)
    refine kF_X12_in m0  (fun r5 σ4 mσ4 cσ4 plσ4 phσ4 (pσ4_0 : (r5.toInt = 1 ∧ (0 : Int) ≤ a4.toInt ∧ a4.toInt ≤ (1 : Int)) ∨ (r5.toInt = 0 ∧ (a4.toInt < (0 : Int) ∨ (1 : Int) < a4.toInt))) hσ4 => ?_)
    obtain rfl := Fr_nil cσ4
    replace H := f_b hσ4 H
    refine ⟨?_, ?_⟩
    · intro q_50
      replace H := f_f q_50 H
      have b_51 : ¬ r5.toInt = 0 := fun h9 => q_50 (Int32.toInt_inj.mp h9)
      refine kF_X12_in m0  (fun r8 σ7 mσ7 cσ7 plσ7 phσ7 (pσ7_0 : (r8.toInt = 1 ∧ (1 : Int) ≤ a2.toInt ∧ a2.toInt ≤ (20 : Int)) ∨ (r8.toInt = 0 ∧ (a2.toInt < (1 : Int) ∨ (20 : Int) < a2.toInt))) hσ7 => ?_)
      obtain rfl := Fr_nil cσ7
      replace H := f_b hσ7 H
      refine ⟨?_, ?_⟩
      · intro q_52
        replace H := f_t q_52 H
        have b_53 : r8.toInt = 0 := congrArg Int32.toInt q_52
        have z_54 : (-100002 : Int32).toInt = -100002 := rfl
        exact h9ret (-100002 : Int32) σ0 m0 f0 (by first | with_reducible assumption | with_reducible rfl | omega | assumption | rfl) (H0.trans H.symm)
      · intro q_52
        replace H := f_f q_52 H
        have b_55 : ¬ r8.toInt = 0 := fun h9 => q_52 (Int32.toInt_inj.mp h9)
        refine kF_X12_in m0  (fun r11 σ10 mσ10 cσ10 plσ10 phσ10 (pσ10_0 : (r11.toInt = 1 ∧ (1 : Int) ≤ a3.toInt ∧ a3.toInt ≤ (60 : Int)) ∨ (r11.toInt = 0 ∧ (a3.toInt < (1 : Int) ∨ (60 : Int) < a3.toInt))) hσ10 => ?_)
        obtain rfl := Fr_nil cσ10
        replace H := f_b hσ10 H
        refine ⟨?_, ?_⟩
        · intro q_56
          replace H := f_f q_56 H
          have b_57 : ¬ r11.toInt = 0 := fun h9 => q_56 (Int32.toInt_inj.mp h9)
          refine kF_X12_save m0  (fun σ13 mσ13 cσ13 (pσ13_0 : (gi σ13 74 33).toInt = (gi σ0 74 1).toInt) hσ13 => ?_)
          replace H := f_v hσ13 H
          have fσ13 : Fr [74, 105, 106, 107, 108, 129, 131, 132, 134, 135, 136, 137, 140] [1, 30, 33] σ0 σ13 := Fr_tr f0 cσ13 (by decide +kernel) (by decide +kernel)
          have k_58 : (gi σ13 74 0).toInt = (gi σ0 74 0).toInt := congrArg Int32.toInt (cσ13.2.1 0 (by decide +kernel))
          have k_59 : (gi σ13 74 1).toInt = (gi σ0 74 1).toInt := congrArg Int32.toInt (cσ13.2.1 1 (by decide +kernel))
          refine kF_X12_goMinutes mσ13 (by omega) (by omega) (by first | with_reducible assumption | with_reducible rfl | omega | assumption | rfl) (fun σ14 mσ14 cσ14 (pσ14_0 : (a3.toInt ≤ 0 ∧ (gi σ14 74 1).toInt = (gi σ13 74 1).toInt) ∨ (0 ≤ a3.toInt ∧ (gi σ14 74 1).toInt = (gi σ13 74 1).toInt + a3.toInt)) hσ14 => ?_)
          replace H := f_v hσ14 H
          have fσ14 : Fr [74, 105, 106, 107, 108, 129, 131, 132, 134, 135, 136, 137, 140] [1, 30, 33] σ0 σ14 := Fr_tr fσ13 cσ14 (by decide +kernel) (by decide +kernel)
          have k_60 : (gi σ14 74 0).toInt = (gi σ13 74 0).toInt := congrArg Int32.toInt (cσ14.2.1 0 (by decide +kernel))
          have k_61 : (gi σ14 74 33).toInt = (gi σ13 74 33).toInt := congrArg Int32.toInt (cσ14.2.1 33 (by decide +kernel))
          have z_62 : (0 : Int32).toInt = 0 := rfl
          exact U61 a1 a2 a3 a4 (0 : Int32) σ14 mσ14 fσ14 (by omega) (by omega) (by omega) (by omega) (by omega) (by omega) (by first | with_reducible assumption | with_reducible rfl | omega | assumption | rfl) H (by omega)
        · intro q_56
          replace H := f_t q_56 H
          have b_63 : r11.toInt = 0 := congrArg Int32.toInt q_56
          have z_64 : (-100002 : Int32).toInt = -100002 := rfl
          exact h9ret (-100002 : Int32) σ0 m0 f0 (by first | with_reducible assumption | with_reducible rfl | omega | assumption | rfl) (H0.trans H.symm)
    · intro q_50
      replace H := f_t q_50 H
      have b_65 : r5.toInt = 0 := congrArg Int32.toInt q_50
      have z_66 : (-100001 : Int32).toInt = -100001 := rfl
      exact h9ret (-100001 : Int32) σ0 m0 f0 (by first | with_reducible assumption | with_reducible rfl | omega | assumption | rfl) (H0.trans H.symm)
set_option maxRecDepth 100000 in
set_option maxHeartbeats 4000000 in
theorem kF_X12_paused {l : Launch} {V : Vx} {a1 : Int32} {a2 : Int32} {σ0 : Sg} {Qk : Int32 → Sg → Prop} (m0 : MI σ0) (pre0 : (gi σ0 74 1).toInt ≤ 9999) (h9ret : ∀ (r : Int32) (σ' : Sg), MI σ' → Fr [74, 105, 106, 107, 108, 129, 131, 132, 134, 135, 136, 137] [1, 30, 33] σ0 σ' → ((gi σ' 74 1).toInt = (gi σ0 74 1).toInt) → (F_X12_paused a1 a2 σ0 = (r, σ')) → Qk r σ') : K_X12_paused l V a1 a2 σ0 Qk := by
  refine e_X12_paused (fun M hl hV hN C => ?_)
  subst hl
  subst hV
  obtain ⟨R9, H0⟩ : ∃ R9, F_X12_paused a1 a2 σ0 = R9 := ⟨_, rfl⟩
  have T : ∀ n : Nat, (∀ (x1 : Int32) (x2 : Int32) (x3 : Int32) (x4 : Int32) (x5 : Int32) (σ : Sg), MI σ → Fr [74, 105, 106, 107, 108, 129, 131, 132, 134, 135, 136, 137] [1, 30, 33] σ0 σ → (1 ≤ x1.toInt) → (x1.toInt ≤ 30) → (0 ≤ x5.toInt) → (x5.toInt ≤ 31) → ((gi σ 74 1).toInt = (gi σ0 74 1).toInt) → (x5.toInt ≤ x1.toInt + 1) → (LF_X12_paused n x1 x2 x3 x4 x5 σ = R9) → (32 - x5.toInt).toNat < n → PS M 34 [(0, .ref 74), (1, .int x1), (2, .int x2), (3, .int x3), (4, .int x4), (5, .int x5)] [] σ (0, 0)) := by
    intro n
    induction n with
    | zero => exact fun _ _ _ _ _ _ _ _ _ _ _ _ _ _ _ h8 => absurd h8 (Nat.not_lt_zero _)
    | succ n ih =>
      have ih34 := ih
      · intro x1 x2 x3 x4 x5 σ mσ fσ lx1 ux1 lx5 ux5 i0 i1 H hmu
        replace H : LB_X12_paused_34 (LF_X12_paused n) x1 x2 x3 x4 x5 σ = R9 := H
        unfold LB_X12_paused_34 at H
        refine s_X12_paused_34 C hN ?_
        refine ⟨?_, ?_⟩
        · intro q_1
          replace H := f_t q_1 H
          have b_2 : x1.toInt < x5.toInt := Int32.lt_iff_toInt_lt.mp q_1
          refine ⟨?_, ?_⟩
          · intro q_3
            replace H := f_f q_3 H
            have w_4 := Int32.toInt_lt x2
            have w_5 := Int32.le_toInt x2
            have b_6 : ¬ x2.toInt = 0 := fun h9 => q_3 (Int32.toInt_inj.mp h9)
            exact h9ret x4 σ mσ fσ (by first | with_reducible assumption | with_reducible rfl | omega | assumption | rfl) (H0.trans H.symm)
          · intro q_3
            replace H := f_t q_3 H
            have w_7 := Int32.toInt_lt x2
            have w_8 := Int32.le_toInt x2
            have b_9 : x2.toInt = 0 := congrArg Int32.toInt q_3
            exact h9ret x3 σ mσ fσ (by first | with_reducible assumption | with_reducible rfl | omega | assumption | rfl) (H0.trans H.symm)
        · intro q_1
          replace H := f_f q_1 H
          have b_10 : ¬ x1.toInt < x5.toInt := fun h9 => q_1 (Int32.lt_iff_toInt_lt.mpr h9)
          refine kF_X12_save mσ  (fun σ3 mσ3 cσ3 (pσ3_0 : (gi σ3 74 33).toInt = (gi σ 74 1).toInt) hσ3 => ?_)
          replace H := f_v hσ3 H
          have fσ3 : Fr [74, 105, 106, 107, 108, 129, 131, 132, 134, 135, 136, 137] [1, 30, 33] σ0 σ3 := Fr_tr fσ cσ3 (by decide +kernel) (by decide +kernel)
          have k_11 : (gi σ3 74 1).toInt = (gi σ 74 1).toInt := congrArg Int32.toInt (cσ3.2.1 1 (by decide +kernel))
          refine kF_X12_goMinutes mσ3 (by omega) (by omega) (by first | with_reducible assumption | with_reducible rfl | omega | assumption | rfl) (fun σ4 mσ4 cσ4 (pσ4_0 : (x5.toInt ≤ 0 ∧ (gi σ4 74 1).toInt = (gi σ3 74 1).toInt) ∨ (0 ≤ x5.toInt ∧ (gi σ4 74 1).toInt = (gi σ3 74 1).toInt + x5.toInt)) hσ4 => ?_)
          replace H := f_v hσ4 H
          have fσ4 : Fr [74, 105, 106, 107, 108, 129, 131, 132, 134, 135, 136, 137] [1, 30, 33] σ0 σ4 := Fr_tr fσ3 cσ4 (by decide +kernel) (by decide +kernel)
          have k_12 : (gi σ4 74 33).toInt = (gi σ3 74 33).toInt := congrArg Int32.toInt (cσ4.2.1 33 (by decide +kernel))
          have z_13 : (5 : Int32).toInt = 5 := rfl
          refine kF_X12_goPause mσ4 (by omega) (by omega) (by first | with_reducible assumption | with_reducible rfl | omega | assumption | rfl) (fun σ5 mσ5 cσ5 (pσ5_0 : (gi σ5 74 1).toInt = (gi σ4 74 1).toInt + (5 : Int)) hσ5 => ?_)
          replace H := f_v hσ5 H
          have fσ5 : Fr [74, 105, 106, 107, 108, 129, 131, 132, 134, 135, 136, 137] [1, 30, 33] σ0 σ5 := Fr_tr fσ4 cσ5 (by decide +kernel) (by decide +kernel)
          have k_14 : (gi σ5 74 33).toInt = (gi σ4 74 33).toInt := congrArg Int32.toInt (cσ5.2.1 33 (by decide +kernel))
          have t_15 : (x1 - x5).toInt = x1.toInt - x5.toInt := i_sub (x := x1) (y := x5) (by show (_ : Int) ≤ x1.toInt - x5.toInt; omega) (by show x1.toInt - x5.toInt ≤ (_ : Int); omega)
          refine kF_X12_goMinutes mσ5 (by omega) (by omega) (by first | with_reducible assumption | with_reducible rfl | omega | assumption | rfl) (fun σ6 mσ6 cσ6 (pσ6_0 : ((x1 - x5).toInt ≤ 0 ∧ (gi σ6 74 1).toInt = (gi σ5 74 1).toInt) ∨ (0 ≤ (x1 - x5).toInt ∧ (gi σ6 74 1).toInt = (gi σ5 74 1).toInt + (x1 - x5).toInt)) hσ6 => ?_)
          replace H := f_v hσ6 H
          have fσ6 : Fr [74, 105, 106, 107, 108, 129, 131, 132, 134, 135, 136, 137] [1, 30, 33] σ0 σ6 := Fr_tr fσ5 cσ6 (by decide +kernel) (by decide +kernel)
          have k_16 : (gi σ6 74 33).toInt = (gi σ5 74 33).toInt := congrArg Int32.toInt (cσ6.2.1 33 (by decide +kernel))
          refine kF_X12_all mσ6  (fun r8 σ7 mσ7 cσ7 plσ7 phσ7 hσ7 => ?_)
          obtain rfl := Fr_nil cσ7
          replace H := f_b hσ7 H
          refine kF_X12_putBack mσ6  (fun σ9 mσ9 cσ9 (pσ9_0 : (gi σ9 74 1).toInt = (gi σ6 74 33).toInt) hσ9 => ?_)
          replace H := f_v hσ9 H
          have fσ9 : Fr [74, 105, 106, 107, 108, 129, 131, 132, 134, 135, 136, 137] [1, 30, 33] σ0 σ9 := Fr_tr fσ6 cσ9 (by decide +kernel) (by decide +kernel)
          have k_17 : (gi σ9 74 33).toInt = (gi σ6 74 33).toInt := congrArg Int32.toInt (cσ9.2.1 33 (by decide +kernel))
          refine ⟨?_, ?_⟩
          · intro q_18
            replace H := f_t q_18 H
            have w_19 := Int32.toInt_lt x4
            have w_20 := Int32.le_toInt x4
            have b_21 : x4.toInt < r8.toInt := Int32.lt_iff_toInt_lt.mp q_18
            intro v11 ev11
            replace H := f_l ev11 H
            have t_22 : (x5 + (1 : Int32)).toInt = x5.toInt + 1 := i_add (x := x5) (y := (1 : Int32)) (by show (_ : Int) ≤ x5.toInt + 1; omega) (by show x5.toInt + 1 ≤ (_ : Int); omega)
            have t_23 : v11.toInt = (x5 + (1 : Int32)).toInt := congrArg Int32.toInt ev11
            exact ih34 x1 x2 x5 r8 v11 σ9 mσ9 fσ9 (by omega) (by omega) (by omega) (by omega) (by first | with_reducible assumption | with_reducible rfl | omega | assumption | rfl) (by first | with_reducible assumption | with_reducible rfl | omega | assumption | rfl) H (by omega)
          · intro q_18
            replace H := f_f q_18 H
            have w_24 := Int32.toInt_lt x4
            have w_25 := Int32.le_toInt x4
            have b_26 : ¬ x4.toInt < r8.toInt := fun h9 => q_18 (Int32.lt_iff_toInt_lt.mpr h9)
            intro v12 ev12
            replace H := f_l ev12 H
            have t_27 : (x5 + (1 : Int32)).toInt = x5.toInt + 1 := i_add (x := x5) (y := (1 : Int32)) (by show (_ : Int) ≤ x5.toInt + 1; omega) (by show x5.toInt + 1 ≤ (_ : Int); omega)
            have t_28 : v12.toInt = (x5 + (1 : Int32)).toInt := congrArg Int32.toInt ev12
            exact ih34 x1 x2 x3 x4 v12 σ9 mσ9 fσ9 (by omega) (by omega) (by omega) (by omega) (by first | with_reducible assumption | with_reducible rfl | omega | assumption | rfl) (by first | with_reducible assumption | with_reducible rfl | omega | assumption | rfl) H (by omega)
  have U34 := T 60
  have f0 : Fr [74, 105, 106, 107, 108, 129, 131, 132, 134, 135, 136, 137] [1, 30, 33] σ0 σ0 := Fr_rf
  have H := H0
  unfold F_X12_paused at H
  refine s_X12_paused_0 C hN ?_
  refine kF_X12_in m0  (fun r2 σ1 mσ1 cσ1 plσ1 phσ1 (pσ1_0 : (r2.toInt = 1 ∧ (0 : Int) ≤ a2.toInt ∧ a2.toInt ≤ (1 : Int)) ∨ (r2.toInt = 0 ∧ (a2.toInt < (0 : Int) ∨ (1 : Int) < a2.toInt))) hσ1 => ?_)
  obtain rfl := Fr_nil cσ1
  replace H := f_b hσ1 H
  refine ⟨?_, ?_⟩
  · intro q_29
    replace H := f_f q_29 H
    have b_30 : ¬ r2.toInt = 0 := fun h9 => q_29 (Int32.toInt_inj.mp h9)
    refine kF_X12_in m0  (fun r5 σ4 mσ4 cσ4 plσ4 phσ4 (pσ4_0 : (r5.toInt = 1 ∧ (1 : Int) ≤ a1.toInt ∧ a1.toInt ≤ (30 : Int)) ∨ (r5.toInt = 0 ∧ (a1.toInt < (1 : Int) ∨ (30 : Int) < a1.toInt))) hσ4 => ?_)
    obtain rfl := Fr_nil cσ4
    replace H := f_b hσ4 H
    refine ⟨?_, ?_⟩
    · intro q_31
      replace H := f_f q_31 H
      have b_32 : ¬ r5.toInt = 0 := fun h9 => q_31 (Int32.toInt_inj.mp h9)
      have z_33 : (0 : Int32).toInt = 0 := rfl
      have z_34 : (-1 : Int32).toInt = -1 := rfl
      exact U34 a1 a2 (0 : Int32) (-1 : Int32) (0 : Int32) σ0 m0 f0 (by omega) (by omega) (by omega) (by omega) (by first | with_reducible assumption | with_reducible rfl | omega | assumption | rfl) (by first | with_reducible assumption | with_reducible rfl | omega | assumption | rfl) H (by omega)
    · intro q_31
      replace H := f_t q_31 H
      have b_35 : r5.toInt = 0 := congrArg Int32.toInt q_31
      have z_36 : (-2 : Int32).toInt = -2 := rfl
      exact h9ret (-2 : Int32) σ0 m0 f0 (by first | with_reducible assumption | with_reducible rfl | omega | assumption | rfl) (H0.trans H.symm)
  · intro q_29
    replace H := f_t q_29 H
    have b_37 : r2.toInt = 0 := congrArg Int32.toInt q_29
    have z_38 : (-1 : Int32).toInt = -1 := rfl
    exact h9ret (-1 : Int32) σ0 m0 f0 (by first | with_reducible assumption | with_reducible rfl | omega | assumption | rfl) (H0.trans H.symm)
set_option maxRecDepth 100000 in
set_option maxHeartbeats 4000000 in
theorem kF_X12_who {l : Launch} {V : Vx} {σ0 : Sg} {Qk : Int32 → Sg → Prop} (m0 : MI σ0) (pre0 : (gi σ0 74 1).toInt ≤ 9999) (h9ret : ∀ (r : Int32) (σ' : Sg), MI σ' → Fr [74, 105, 106, 107, 108, 129, 131, 132, 134, 135, 136, 137] [1, 30, 33] σ0 σ' → ((gi σ' 74 1).toInt = (gi σ0 74 1).toInt) → (F_X12_who σ0 = (r, σ')) → Qk r σ') : K_X12_who l V σ0 Qk := by
  refine e_X12_who (fun M hl hV hN C => ?_)
  subst hl
  subst hV
  obtain ⟨R9, H0⟩ : ∃ R9, F_X12_who σ0 = R9 := ⟨_, rfl⟩
  have T : ∀ n : Nat, (∀ (x1 : Int32) (x2 : Int32) (σ : Sg), MI σ → Fr [74, 105, 106, 107, 108, 129, 131, 132, 134, 135, 136, 137] [1, 30, 33] σ0 σ → (0 ≤ x2.toInt) → (x2.toInt ≤ 6) → ((gi σ 74 1).toInt = (gi σ0 74 1).toInt) → (LF_X12_who n 0 x1 x2 0 0 σ = R9) → (7 - x2.toInt).toNat * 100 + 50 < n → PS M 4 [(0, .ref 74), (1, .int x1), (2, .int x2)] [] σ (0, 0)) ∧ (∀ (x1 : Int32) (x2 : Int32) (x3 : Int32) (x4 : Int32) (σ : Sg), MI σ → Fr [74, 105, 106, 107, 108, 129, 131, 132, 134, 135, 136, 137] [1, 30, 33] σ0 σ → (0 ≤ x2.toInt) → (x2.toInt ≤ 5) → (0 ≤ x4.toInt) → (x4.toInt ≤ 6) → ((gi σ 74 1).toInt = (gi σ0 74 1).toInt) → (LF_X12_who n 1 x1 x2 x3 x4 σ = R9) → (7 - x2.toInt).toNat * 100 + 20 - x4.toInt.toNat < n → PS M 17 [(0, .ref 74), (1, .int x1), (2, .int x2), (3, .int x3), (4, .int x4)] [] σ (0, 0)) ∧ (∀ (x1 : Int32) (x2 : Int32) (x3 : Int32) (σ : Sg), MI σ → Fr [74, 105, 106, 107, 108, 129, 131, 132, 134, 135, 136, 137] [1, 30, 33] σ0 σ → (0 ≤ x2.toInt) → (x2.toInt ≤ 5) → ((gi σ 74 1).toInt = (gi σ0 74 1).toInt) → (LF_X12_who n 2 x1 x2 x3 0 σ = R9) → (7 - x2.toInt).toNat * 100 < n → PS M 44 [(0, .ref 74), (1, .int x1), (2, .int x2), (3, .int x3)] [] σ (0, 0)) := by
    intro n
    induction n with
    | zero => exact ⟨fun _ _ _ _ _ _ _ _ _ h8 => absurd h8 (Nat.not_lt_zero _), fun _ _ _ _ _ _ _ _ _ _ _ _ _ h8 => absurd h8 (Nat.not_lt_zero _), fun _ _ _ _ _ _ _ _ _ _ h8 => absurd h8 (Nat.not_lt_zero _)⟩
    | succ n ih =>
      obtain ⟨ih4, ih17, ih44⟩ := ih
      refine ⟨?_, ?_, ?_⟩
      · intro x1 x2 σ mσ fσ lx2 ux2 i0 H hmu
        replace H : LB_X12_who_4 (LF_X12_who n) x1 x2 σ = R9 := H
        unfold LB_X12_who_4 at H
        refine s_X12_who_4 C hN ?_
        refine ⟨?_, ?_⟩
        · intro q_1
          replace H := f_t q_1 H
          have t_2 := MI_f0 mσ
          have b_3 : (gi σ 74 0).toInt ≤ x2.toInt := Int32.le_iff_toInt_le.mp q_1
          exact h9ret x1 σ mσ fσ (by first | with_reducible assumption | with_reducible rfl | omega | assumption | rfl) (H0.trans H.symm)
        · intro q_1
          replace H := f_f q_1 H
          have t_4 := MI_f0 mσ
          have b_5 : ¬ (gi σ 74 0).toInt ≤ x2.toInt := fun h9 => q_1 (Int32.le_iff_toInt_le.mpr h9)
          have z_6 : (1 : Int32).toInt = 1 := rfl
          have z_7 : (0 : Int32).toInt = 0 := rfl
          exact ih17 x1 x2 (1 : Int32) (0 : Int32) σ mσ fσ (by omega) (by omega) (by omega) (by omega) (by first | with_reducible assumption | with_reducible rfl | omega | assumption | rfl) H (by omega)
      · intro x1 x2 x3 x4 σ mσ fσ lx2 ux2 lx4 ux4 i0 H hmu
        replace H : LB_X12_who_17 (LF_X12_who n) x1 x2 x3 x4 σ = R9 := H
        unfold LB_X12_who_17 at H
        refine s_X12_who_17 C hN ?_
        refine ⟨?_, ?_⟩
        · intro q_8
          replace H := f_t q_8 H
          have t_9 := MI_f41 mσ
          have b_10 : (gi σ 74 41).toInt ≤ x4.toInt := Int32.le_iff_toInt_le.mp q_8
          exact ih44 x1 x2 x3 σ mσ fσ (by omega) (by omega) (by first | with_reducible assumption | with_reducible rfl | omega | assumption | rfl) H (by omega)
        · intro q_8
          replace H := f_f q_8 H
          have t_11 := MI_f41 mσ
          have b_12 : ¬ (gi σ 74 41).toInt ≤ x4.toInt := fun h9 => q_8 (Int32.le_iff_toInt_le.mpr h9)
          refine ⟨?_, ?_⟩
          · intro q_13
            replace H := f_t q_13 H
            have w_14 := Int32.toInt_lt x3
            have w_15 := Int32.le_toInt x3
            have b_16 : x3.toInt = 0 := congrArg Int32.toInt q_13
            exact ih44 x1 x2 x3 σ mσ fσ (by omega) (by omega) (by first | with_reducible assumption | with_reducible rfl | omega | assumption | rfl) H (by omega)
          · intro q_13
            replace H := f_f q_13 H
            have w_17 := Int32.toInt_lt x3
            have w_18 := Int32.le_toInt x3
            have b_19 : ¬ x3.toInt = 0 := fun h9 => q_13 (Int32.toInt_inj.mp h9)
            refine kF_X12_isSeen mσ (by omega) (by omega) (by omega) (by omega) (by first | with_reducible assumption | with_reducible rfl | omega | assumption | rfl) (fun r4 σ3 mσ3 cσ3 plσ3 phσ3 (pσ3_0 : (gi σ3 74 1).toInt = (gi σ 74 1).toInt) hσ3 => ?_)
            replace H := f_b hσ3 H
            have fσ3 : Fr [74, 105, 106, 107, 108, 129, 131, 132, 134, 135, 136, 137] [1, 30, 33] σ0 σ3 := Fr_tr fσ cσ3 (by decide +kernel) (by decide +kernel)
            have k_20 : (gi σ3 74 41).toInt = (gi σ 74 41).toInt := congrArg Int32.toInt (cσ3.2.1 41 (by decide +kernel))
            intro v5 ev5
            replace H := f_l ev5 H
            have t_21 : (x4 + (1 : Int32)).toInt = x4.toInt + 1 := i_add (x := x4) (y := (1 : Int32)) (by show (_ : Int) ≤ x4.toInt + 1; omega) (by show x4.toInt + 1 ≤ (_ : Int); omega)
            have t_22 : v5.toInt = (x4 + (1 : Int32)).toInt := congrArg Int32.toInt ev5
            exact ih17 x1 x2 r4 v5 σ3 mσ3 fσ3 (by omega) (by omega) (by omega) (by omega) (by first | with_reducible assumption | with_reducible rfl | omega | assumption | rfl) H (by omega)
      · intro x1 x2 x3 σ mσ fσ lx2 ux2 i0 H hmu
        replace H : LB_X12_who_44 (LF_X12_who n) x1 x2 x3 σ = R9 := H
        unfold LB_X12_who_44 at H
        refine s_X12_who_44 C hN ?_
        refine ⟨?_, ?_⟩
        · intro q_23
          replace H := f_t q_23 H
          have w_24 := Int32.toInt_lt x3
          have w_25 := Int32.le_toInt x3
          have b_26 : x3.toInt = 0 := congrArg Int32.toInt q_23
          intro v2 ev2
          replace H := f_l ev2 H
          intro v3 ev3
          replace H := f_l ev3 H
          have t_27 : (x2 + (1 : Int32)).toInt = x2.toInt + 1 := i_add (x := x2) (y := (1 : Int32)) (by show (_ : Int) ≤ x2.toInt + 1; omega) (by show x2.toInt + 1 ≤ (_ : Int); omega)
          have t_28 : v3.toInt = (x2 + (1 : Int32)).toInt := congrArg Int32.toInt ev3
          exact ih4 v2 v3 σ mσ fσ (by omega) (by omega) (by first | with_reducible assumption | with_reducible rfl | omega | assumption | rfl) H (by omega)
        · intro q_23
          replace H := f_f q_23 H
          have w_29 := Int32.toInt_lt x3
          have w_30 := Int32.le_toInt x3
          have b_31 : ¬ x3.toInt = 0 := fun h9 => q_23 (Int32.toInt_inj.mp h9)
          intro v4 ev4
          replace H := f_l ev4 H
          intro v5 ev5
          replace H := f_l ev5 H
          have t_32 : (x2 + (1 : Int32)).toInt = x2.toInt + 1 := i_add (x := x2) (y := (1 : Int32)) (by show (_ : Int) ≤ x2.toInt + 1; omega) (by show x2.toInt + 1 ≤ (_ : Int); omega)
          have t_33 : v5.toInt = (x2 + (1 : Int32)).toInt := congrArg Int32.toInt ev5
          exact ih4 v4 v5 σ mσ fσ (by omega) (by omega) (by first | with_reducible assumption | with_reducible rfl | omega | assumption | rfl) H (by omega)
  obtain ⟨U4, U17, U44⟩ := T 2000
  have f0 : Fr [74, 105, 106, 107, 108, 129, 131, 132, 134, 135, 136, 137] [1, 30, 33] σ0 σ0 := Fr_rf
  have H := H0
  unfold F_X12_who at H
  refine s_X12_who_0 C hN ?_
  have z_34 : (0 : Int32).toInt = 0 := rfl
  exact U4 (0 : Int32) (0 : Int32) σ0 m0 f0 (by omega) (by omega) (by first | with_reducible assumption | with_reducible rfl | omega | assumption | rfl) H (by omega)
set_option maxRecDepth 100000 in
set_option maxHeartbeats 4000000 in
theorem kF_X12_planned {l : Launch} {V : Vx} {σ0 : Sg} {Qk : Int32 → Sg → Prop} (m0 : MI σ0) (pre0 : (gi σ0 74 1).toInt ≤ 9999) (h9ret : ∀ (r : Int32) (σ' : Sg), MI σ' → Fr [74, 105, 106, 107, 108, 129, 131, 132, 134, 135, 136, 137] [1, 30, 33] σ0 σ' → ((gi σ' 74 1).toInt = (gi σ0 74 1).toInt) → (F_X12_planned σ0 = (r, σ')) → Qk r σ') : K_X12_planned l V σ0 Qk := by
  refine e_X12_planned (fun M hl hV hN C => ?_)
  subst hl
  subst hV
  obtain ⟨R9, H0⟩ : ∃ R9, F_X12_planned σ0 = R9 := ⟨_, rfl⟩
  have T : ∀ n : Nat, (∀ (x1 : Int32) (σ : Sg), MI σ → Fr [74, 105, 106, 107, 108, 129, 131, 132, 134, 135, 136, 137] [1, 30, 33] σ0 σ → (0 ≤ x1.toInt) → (x1.toInt ≤ 10) → ((gi σ 74 1).toInt ≤ 9999 + 3 * x1.toInt) → ((gi σ 74 33).toInt = (gi σ0 74 1).toInt) → (LF_X12_planned n 0 x1 σ = R9) → (11 - x1.toInt).toNat * 10 + 5 < n → PS M 6 [(0, .ref 74), (1, .int x1)] [] σ (0, 0)) ∧ (∀ (x1 : Int32) (σ : Sg), MI σ → Fr [74, 105, 106, 107, 108, 129, 131, 132, 134, 135, 136, 137] [1, 30, 33] σ0 σ → (0 ≤ x1.toInt) → (x1.toInt ≤ 9) → ((gi σ 74 1).toInt ≤ 9999 + 3 * x1.toInt + 2) → ((gi σ 74 33).toInt = (gi σ0 74 1).toInt) → (LF_X12_planned n 1 x1 σ = R9) → (11 - x1.toInt).toNat * 10 < n → PS M 42 [(0, .ref 74), (1, .int x1)] [] σ (0, 0)) := by
    intro n
    induction n with
    | zero => exact ⟨fun _ _ _ _ _ _ _ _ _ h8 => absurd h8 (Nat.not_lt_zero _), fun _ _ _ _ _ _ _ _ _ h8 => absurd h8 (Nat.not_lt_zero _)⟩
    | succ n ih =>
      obtain ⟨ih6, ih42⟩ := ih
      refine ⟨?_, ?_⟩
      · intro x1 σ mσ fσ lx1 ux1 i0 i1 H hmu
        replace H : LB_X12_planned_6 (LF_X12_planned n) x1 σ = R9 := H
        unfold LB_X12_planned_6 at H
        refine s_X12_planned_6 C hN ?_
        refine ⟨?_, ?_⟩
        · intro q_1
          replace H := f_t q_1 H
          have t_2 := MI_f45 mσ
          have b_3 : (gi σ 74 45).toInt ≤ x1.toInt := Int32.le_iff_toInt_le.mp q_1
          refine kF_X12_all mσ  (fun r3 σ2 mσ2 cσ2 plσ2 phσ2 hσ2 => ?_)
          obtain rfl := Fr_nil cσ2
          replace H := f_b hσ2 H
          refine kF_X12_putBack mσ  (fun σ4 mσ4 cσ4 (pσ4_0 : (gi σ4 74 1).toInt = (gi σ 74 33).toInt) hσ4 => ?_)
          replace H := f_v hσ4 H
          have fσ4 : Fr [74, 105, 106, 107, 108, 129, 131, 132, 134, 135, 136, 137] [1, 30, 33] σ0 σ4 := Fr_tr fσ cσ4 (by decide +kernel) (by decide +kernel)
          have k_4 : (gi σ4 74 33).toInt = (gi σ 74 33).toInt := congrArg Int32.toInt (cσ4.2.1 33 (by decide +kernel))
          have k_5 : (gi σ4 74 45).toInt = (gi σ 74 45).toInt := congrArg Int32.toInt (cσ4.2.1 45 (by decide +kernel))
          exact h9ret r3 σ4 mσ4 fσ4 (by first | with_reducible assumption | with_reducible rfl | omega | assumption | rfl) (H0.trans H.symm)
        · intro q_1
          replace H := f_f q_1 H
          have t_6 := MI_f45 mσ
          have b_7 : ¬ (gi σ 74 45).toInt ≤ x1.toInt := fun h9 => q_1 (Int32.le_iff_toInt_le.mpr h9)
          have hv_8 : vp_in x1 10 := vp_in_iff.mpr ⟨by omega, by omega⟩
          refine ⟨hv_8, ?_⟩
          refine ⟨?_, ?_⟩
          · intro q_9
            replace H := f_f q_9 H
            have b_10 : ¬ (gi σ 147 x1.toNatClampNeg).toInt = 0 := fun h9 => q_9 (Int32.toInt_inj.mp h9)
            refine ⟨hv_8, ?_⟩
            refine ⟨?_, ?_⟩
            · intro q_11
              replace H := f_f q_11 H
              have b_12 : ¬ (gi σ 147 x1.toNatClampNeg).toInt = 1 := fun h9 => q_11 (Int32.toInt_inj.mp h9)
              exact ih42 x1 σ mσ fσ (by omega) (by omega) (by first | with_reducible assumption | with_reducible rfl | omega | assumption | rfl) (by first | with_reducible assumption | with_reducible rfl | omega | assumption | rfl) H (by omega)
            · intro q_11
              replace H := f_t q_11 H
              have b_13 : (gi σ 147 x1.toNatClampNeg).toInt = 1 := congrArg Int32.toInt q_11
              refine kF_X12_goWhet mσ (by first | with_reducible assumption | with_reducible rfl | omega | assumption | rfl) (fun σ9 mσ9 cσ9 (pσ9_0 : (gi σ9 74 1).toInt = (gi σ 74 1).toInt + 1) hσ9 => ?_)
              replace H := f_v hσ9 H
              have fσ9 : Fr [74, 105, 106, 107, 108, 129, 131, 132, 134, 135, 136, 137] [1, 30, 33] σ0 σ9 := Fr_tr fσ cσ9 (by decide +kernel) (by decide +kernel)
              have k_14 : (gi σ9 74 33).toInt = (gi σ 74 33).toInt := congrArg Int32.toInt (cσ9.2.1 33 (by decide +kernel))
              have k_15 : (gi σ9 74 45).toInt = (gi σ 74 45).toInt := congrArg Int32.toInt (cσ9.2.1 45 (by decide +kernel))
              exact ih42 x1 σ9 mσ9 fσ9 (by omega) (by omega) (by first | with_reducible assumption | with_reducible rfl | omega | assumption | rfl) (by first | with_reducible assumption | with_reducible rfl | omega | assumption | rfl) H (by omega)
          · intro q_9
            replace H := f_t q_9 H
            have b_16 : (gi σ 147 x1.toNatClampNeg).toInt = 0 := congrArg Int32.toInt q_9
            have z_17 : (1 : Int32).toInt = 1 := rfl
            refine kF_X12_goMinutes mσ (by omega) (by omega) (by first | with_reducible assumption | with_reducible rfl | omega | assumption | rfl) (fun σ10 mσ10 cσ10 (pσ10_0 : ((1 : Int) ≤ 0 ∧ (gi σ10 74 1).toInt = (gi σ 74 1).toInt) ∨ (0 ≤ (1 : Int) ∧ (gi σ10 74 1).toInt = (gi σ 74 1).toInt + (1 : Int))) hσ10 => ?_)
            replace H := f_v hσ10 H
            have fσ10 : Fr [74, 105, 106, 107, 108, 129, 131, 132, 134, 135, 136, 137] [1, 30, 33] σ0 σ10 := Fr_tr fσ cσ10 (by decide +kernel) (by decide +kernel)
            have k_18 : (gi σ10 74 33).toInt = (gi σ 74 33).toInt := congrArg Int32.toInt (cσ10.2.1 33 (by decide +kernel))
            have k_19 : (gi σ10 74 45).toInt = (gi σ 74 45).toInt := congrArg Int32.toInt (cσ10.2.1 45 (by decide +kernel))
            refine ⟨hv_8, ?_⟩
            refine ⟨?_, ?_⟩
            · intro q_20
              replace H := f_f q_20 H
              have b_21 : ¬ (gi σ10 147 x1.toNatClampNeg).toInt = 1 := fun h9 => q_20 (Int32.toInt_inj.mp h9)
              exact ih42 x1 σ10 mσ10 fσ10 (by omega) (by omega) (by first | with_reducible assumption | with_reducible rfl | omega | assumption | rfl) (by first | with_reducible assumption | with_reducible rfl | omega | assumption | rfl) H (by omega)
            · intro q_20
              replace H := f_t q_20 H
              have b_22 : (gi σ10 147 x1.toNatClampNeg).toInt = 1 := congrArg Int32.toInt q_20
              refine kF_X12_goWhet mσ10 (by first | with_reducible assumption | with_reducible rfl | omega | assumption | rfl) (fun σ13 mσ13 cσ13 (pσ13_0 : (gi σ13 74 1).toInt = (gi σ10 74 1).toInt + 1) hσ13 => ?_)
              replace H := f_v hσ13 H
              have fσ13 : Fr [74, 105, 106, 107, 108, 129, 131, 132, 134, 135, 136, 137] [1, 30, 33] σ0 σ13 := Fr_tr fσ10 cσ13 (by decide +kernel) (by decide +kernel)
              have k_23 : (gi σ13 74 33).toInt = (gi σ10 74 33).toInt := congrArg Int32.toInt (cσ13.2.1 33 (by decide +kernel))
              have k_24 : (gi σ13 74 45).toInt = (gi σ10 74 45).toInt := congrArg Int32.toInt (cσ13.2.1 45 (by decide +kernel))
              exact ih42 x1 σ13 mσ13 fσ13 (by omega) (by omega) (by first | with_reducible assumption | with_reducible rfl | omega | assumption | rfl) (by first | with_reducible assumption | with_reducible rfl | omega | assumption | rfl) H (by omega)
      · intro x1 σ mσ fσ lx1 ux1 i0 i1 H hmu
        replace H : LB_X12_planned_42 (LF_X12_planned n) x1 σ = R9 := H
        unfold LB_X12_planned_42 at H
        refine s_X12_planned_42 C hN ?_
        have hv_25 : vp_in x1 10 := vp_in_iff.mpr ⟨by omega, by omega⟩
        refine ⟨hv_25, ?_⟩
        refine ⟨?_, ?_⟩
        · intro q_26
          replace H := f_f q_26 H
          have b_27 : ¬ (gi σ 147 x1.toNatClampNeg).toInt = 2 := fun h9 => q_26 (Int32.toInt_inj.mp h9)
          intro v3 ev3
          replace H := f_l ev3 H
          have t_28 : (x1 + (1 : Int32)).toInt = x1.toInt + 1 := i_add (x := x1) (y := (1 : Int32)) (by show (_ : Int) ≤ x1.toInt + 1; omega) (by show x1.toInt + 1 ≤ (_ : Int); omega)
          have t_29 : v3.toInt = (x1 + (1 : Int32)).toInt := congrArg Int32.toInt ev3
          exact ih6 v3 σ mσ fσ (by omega) (by omega) (by first | with_reducible assumption | with_reducible rfl | omega | assumption | rfl) (by first | with_reducible assumption | with_reducible rfl | omega | assumption | rfl) H (by omega)
        · intro q_26
          replace H := f_t q_26 H
          have b_30 : (gi σ 147 x1.toNatClampNeg).toInt = 2 := congrArg Int32.toInt q_26
          have z_31 : (1 : Int32).toInt = 1 := rfl
          refine kF_X12_goPause mσ (by omega) (by omega) (by first | with_reducible assumption | with_reducible rfl | omega | assumption | rfl) (fun σ4 mσ4 cσ4 (pσ4_0 : (gi σ4 74 1).toInt = (gi σ 74 1).toInt + (1 : Int)) hσ4 => ?_)
          replace H := f_v hσ4 H
          have fσ4 : Fr [74, 105, 106, 107, 108, 129, 131, 132, 134, 135, 136, 137] [1, 30, 33] σ0 σ4 := Fr_tr fσ cσ4 (by decide +kernel) (by decide +kernel)
          have k_32 : (gi σ4 74 33).toInt = (gi σ 74 33).toInt := congrArg Int32.toInt (cσ4.2.1 33 (by decide +kernel))
          intro v5 ev5
          replace H := f_l ev5 H
          have t_33 : (x1 + (1 : Int32)).toInt = x1.toInt + 1 := i_add (x := x1) (y := (1 : Int32)) (by show (_ : Int) ≤ x1.toInt + 1; omega) (by show x1.toInt + 1 ≤ (_ : Int); omega)
          have t_34 : v5.toInt = (x1 + (1 : Int32)).toInt := congrArg Int32.toInt ev5
          exact ih6 v5 σ4 mσ4 fσ4 (by omega) (by omega) (by first | with_reducible assumption | with_reducible rfl | omega | assumption | rfl) (by first | with_reducible assumption | with_reducible rfl | omega | assumption | rfl) H (by omega)
  obtain ⟨U6, U42⟩ := T 300
  have f0 : Fr [74, 105, 106, 107, 108, 129, 131, 132, 134, 135, 136, 137] [1, 30, 33] σ0 σ0 := Fr_rf
  have H := H0
  unfold F_X12_planned at H
  refine s_X12_planned_0 C hN ?_
  refine kF_X12_save m0  (fun σ1 mσ1 cσ1 (pσ1_0 : (gi σ1 74 33).toInt = (gi σ0 74 1).toInt) hσ1 => ?_)
  replace H := f_v hσ1 H
  have fσ1 : Fr [74, 105, 106, 107, 108, 129, 131, 132, 134, 135, 136, 137] [1, 30, 33] σ0 σ1 := Fr_tr f0 cσ1 (by decide +kernel) (by decide +kernel)
  have k_35 : (gi σ1 74 1).toInt = (gi σ0 74 1).toInt := congrArg Int32.toInt (cσ1.2.1 1 (by decide +kernel))
  have z_36 : (0 : Int32).toInt = 0 := rfl
  exact U6 (0 : Int32) σ1 mσ1 fσ1 (by omega) (by omega) (by first | with_reducible assumption | with_reducible rfl | omega | assumption | rfl) (by first | with_reducible assumption | with_reducible rfl | omega | assumption | rfl) H (by omega)
set_option maxRecDepth 100000 in
set_option maxHeartbeats 4000000 in
theorem kF_X12_told {l : Launch} {V : Vx} {a1 : Int32} {σ0 : Sg} {Qk : Int32 → Sg → Prop} (m0 : MI σ0) (h9ret : ∀ (r : Int32) (σ' : Sg), MI σ' → Fr [] [] σ0 σ' → (F_X12_told a1 σ0 = (r, σ')) → Qk r σ') : K_X12_told l V a1 σ0 Qk := by
  refine e_X12_told (fun M hl hV hN C => ?_)
  subst hl
  subst hV
  obtain ⟨R9, H0⟩ : ∃ R9, F_X12_told a1 σ0 = R9 := ⟨_, rfl⟩
  have f0 : Fr [] [] σ0 σ0 := Fr_rf
  have H := H0
  unfold F_X12_told at H
  refine s_X12_told_0 C hN ?_
  have t_1 := MI_f0 m0
  have t_2 : ((9 : Int32) + (gi σ0 74 0)).toInt = 9 + (gi σ0 74 0).toInt := i_add (x := (9 : Int32)) (y := (gi σ0 74 0)) (by show (_ : Int) ≤ 9 + (gi σ0 74 0).toInt; omega) (by show 9 + (gi σ0 74 0).toInt ≤ (_ : Int); omega)
  refine kF_X12_in m0  (fun r2 σ1 mσ1 cσ1 plσ1 phσ1 (pσ1_0 : (r2.toInt = 1 ∧ (10 : Int) ≤ a1.toInt ∧ a1.toInt ≤ ((9 : Int32) + (gi σ0 74 0)).toInt) ∨ (r2.toInt = 0 ∧ (a1.toInt < (10 : Int) ∨ ((9 : Int32) + (gi σ0 74 0)).toInt < a1.toInt))) hσ1 => ?_)
  obtain rfl := Fr_nil cσ1
  replace H := f_b hσ1 H
  refine ⟨?_, ?_⟩
  · intro q_3
    replace H := f_t q_3 H
    have b_4 : r2.toInt = 0 := congrArg Int32.toInt q_3
    refine ⟨?_, ?_, ?_, ?_, ?_⟩
    · intro q_5
      replace H := f_f (by omega) H
      replace H := f_f (by omega) H
      replace H := f_f (by omega) H
      replace H := f_f (by omega) H
      have z_6 : (-1 : Int32).toInt = -1 := rfl
      exact h9ret (-1 : Int32) σ0 m0 f0 (H0.trans H.symm)
    · intro q_5
      replace H := f_t q_5 H
      exact h9ret (gi σ0 74 1) σ0 m0 f0 (H0.trans H.symm)
    · intro q_5
      replace H := f_f (by omega) H
      replace H := f_t q_5 H
      refine kF_X12_gap m0  (fun r6 σ5 mσ5 cσ5 hσ5 => ?_)
      obtain rfl := Fr_nil cσ5
      replace H := f_b hσ5 H
      exact h9ret r6 σ0 m0 f0 (H0.trans H.symm)
    · intro q_5
      replace H := f_f (by omega) H
      replace H := f_f (by omega) H
      replace H := f_t q_5 H
      refine kF_X12_lastOf m0  (fun r8 σ7 mσ7 cσ7 hσ7 => ?_)
      obtain rfl := Fr_nil cσ7
      replace H := f_b hσ7 H
      exact h9ret r8 σ0 m0 f0 (H0.trans H.symm)
    · intro q_5
      replace H := f_f (by omega) H
      replace H := f_f (by omega) H
      replace H := f_f (by omega) H
      replace H := f_t q_5 H
      refine kF_X12_fieldLong m0  (fun r10 σ9 mσ9 cσ9 hσ9 => ?_)
      obtain rfl := Fr_nil cσ9
      replace H := f_b hσ9 H
      exact h9ret r10 σ0 m0 f0 (H0.trans H.symm)
  · intro q_3
    replace H := f_f q_3 H
    have b_7 : ¬ r2.toInt = 0 := fun h9 => q_3 (Int32.toInt_inj.mp h9)
    have w_8 := Int32.toInt_lt a1
    have w_9 := Int32.le_toInt a1
    try have t_10 : (a1 - (10 : Int32)).toInt = a1.toInt - 10 := i_sub (x := a1) (y := (10 : Int32)) (by show (_ : Int) ≤ a1.toInt - 10; omega) (by show a1.toInt - 10 ≤ (_ : Int); omega)
    have hv_11 : vp_in (a1 - (10 : Int32)) 6 := vp_in_iff.mpr ⟨by omega, by omega⟩
    refine ⟨hv_11, ?_⟩
    exact h9ret (gi σ0 110 (a1 - (10 : Int32)).toNatClampNeg) σ0 m0 f0 (H0.trans H.symm)
set_option maxRecDepth 100000 in
set_option maxHeartbeats 4000000 in
theorem kF_X12_judge {l : Launch} {V : Vx} {a1 : Int32} {a2 : Int32} {σ0 : Sg} {Qk : Int32 → Sg → Prop} (m0 : MI σ0) (h9ret : ∀ (r : Int32) (σ' : Sg), MI σ' → Fr [] [] σ0 σ' → (F_X12_judge a1 a2 σ0 = (r, σ')) → Qk r σ') : K_X12_judge l V a1 a2 σ0 Qk := by
  refine e_X12_judge (fun M hl hV hN C => ?_)
  subst hl
  subst hV
  obtain ⟨R9, H0⟩ : ∃ R9, F_X12_judge a1 a2 σ0 = R9 := ⟨_, rfl⟩
  have T : ∀ n : Nat, (∀ (x1 : Int32) (x2 : Int32) (x3 : Int32) (σ : Sg), MI σ → Fr [] [] σ0 σ → (0 ≤ x1.toInt) → (x1.toInt ≤ 5) → (0 ≤ x3.toInt) → (x3.toInt ≤ 6) → (LF_X12_judge n x1 x2 x3 σ = R9) → (7 - x3.toInt).toNat < n → PS M 34 [(0, .ref 74), (1, .int x1), (2, .int x2), (3, .int x3)] [] σ (0, 0)) := by
    intro n
    induction n with
    | zero => exact fun _ _ _ _ _ _ _ _ _ _ _ h8 => absurd h8 (Nat.not_lt_zero _)
    | succ n ih =>
      have ih34 := ih
      · intro x1 x2 x3 σ mσ fσ lx1 ux1 lx3 ux3 H hmu
        replace H : LB_X12_judge_34 (LF_X12_judge n) x1 x2 x3 σ = R9 := H
        unfold LB_X12_judge_34 at H
        refine s_X12_judge_34 C hN ?_
        refine ⟨?_, ?_⟩
        · intro q_1
          replace H := f_t q_1 H
          have t_2 := MI_f0 mσ
          have b_3 : (gi σ 74 0).toInt ≤ x3.toInt := Int32.le_iff_toInt_le.mp q_1
          have z_4 : (-5 : Int32).toInt = -5 := rfl
          exact h9ret (-5 : Int32) σ mσ fσ (H0.trans H.symm)
        · intro q_1
          replace H := f_f q_1 H
          have t_5 := MI_f0 mσ
          have b_6 : ¬ (gi σ 74 0).toInt ≤ x3.toInt := fun h9 => q_1 (Int32.le_iff_toInt_le.mpr h9)
          have hv_7 : vp_in x1 6 := vp_in_iff.mpr ⟨by omega, by omega⟩
          refine ⟨hv_7, ?_⟩
          refine ⟨?_, ?_⟩
          · intro q_8
            replace H := f_t q_8 H
            have t_9 := MI_a171 mσ hv_7
            have b_10 : (gi σ 171 x1.toNatClampNeg).toInt < 0 := Int32.lt_iff_toInt_lt.mp q_8
            exact h9ret ((100 : Int32) + x3) σ mσ fσ (H0.trans H.symm)
          · intro q_8
            replace H := f_f q_8 H
            have t_11 := MI_a171 mσ hv_7
            have b_12 : ¬ (gi σ 171 x1.toNatClampNeg).toInt < 0 := fun h9 => q_8 (Int32.lt_iff_toInt_lt.mpr h9)
            refine ⟨?_, ?_⟩
            · intro q_13
              replace H := f_t q_13 H
              have w_14 := Int32.toInt_lt x2
              have w_15 := Int32.le_toInt x2
              have b_16 : x2.toInt < 0 := Int32.lt_iff_toInt_lt.mp q_13
              exact h9ret ((100 : Int32) + x3) σ mσ fσ (H0.trans H.symm)
            · intro q_13
              replace H := f_f q_13 H
              have w_17 := Int32.toInt_lt x2
              have w_18 := Int32.le_toInt x2
              have b_19 : ¬ x2.toInt < 0 := fun h9 => q_13 (Int32.lt_iff_toInt_lt.mpr h9)
              refine ⟨hv_7, ?_⟩
              refine ⟨?_, ?_⟩
              · intro q_20
                replace H := f_t q_20 H
                have t_21 := MI_a172 mσ hv_7
                have t_22 : ((gi σ 172 x1.toNatClampNeg) - x3).toInt = (gi σ 172 x1.toNatClampNeg).toInt - x3.toInt := i_sub (x := (gi σ 172 x1.toNatClampNeg)) (y := x3) (by show (_ : Int) ≤ (gi σ 172 x1.toNatClampNeg).toInt - x3.toInt; omega) (by show (gi σ 172 x1.toNatClampNeg).toInt - x3.toInt ≤ (_ : Int); omega)
                have t_23 : (((gi σ 172 x1.toNatClampNeg) - x3) - (1 : Int32)).toInt = ((gi σ 172 x1.toNatClampNeg) - x3).toInt - 1 := i_sub (x := ((gi σ 172 x1.toNatClampNeg) - x3)) (y := (1 : Int32)) (by show (_ : Int) ≤ ((gi σ 172 x1.toNatClampNeg) - x3).toInt - 1; omega) (by show ((gi σ 172 x1.toNatClampNeg) - x3).toInt - 1 ≤ (_ : Int); omega)
                have b_24 : x2.toInt ≤ (((gi σ 172 x1.toNatClampNeg) - x3) - (1 : Int32)).toInt := Int32.le_iff_toInt_le.mp q_20
                have t_25 : ((60 : Int32) * x1).toInt = 60 * x1.toInt := i_mull rfl (by omega) (by omega)
                try have t_26 : (((60 : Int32) * x1) + x2).toInt = ((60 : Int32) * x1).toInt + x2.toInt := i_add (x := ((60 : Int32) * x1)) (y := x2) (by show (_ : Int) ≤ ((60 : Int32) * x1).toInt + x2.toInt; omega) (by show ((60 : Int32) * x1).toInt + x2.toInt ≤ (_ : Int); omega)
                try have t_27 : ((((60 : Int32) * x1) + x2) + x3).toInt = (((60 : Int32) * x1) + x2).toInt + x3.toInt := i_add (x := (((60 : Int32) * x1) + x2)) (y := x3) (by show (_ : Int) ≤ (((60 : Int32) * x1) + x2).toInt + x3.toInt; omega) (by show (((60 : Int32) * x1) + x2).toInt + x3.toInt ≤ (_ : Int); omega)
                have hv_28 : vp_in ((((60 : Int32) * x1) + x2) + x3) 360 := vp_in_iff.mpr ⟨by omega, by omega⟩
                refine ⟨hv_28, ?_⟩
                have hv_29 : vp_in x3 6 := vp_in_iff.mpr ⟨by omega, by omega⟩
                refine ⟨hv_29, ?_⟩
                refine ⟨?_, ?_⟩
                · intro q_30
                  replace H := f_t q_30 H
                  intro v10 ev10
                  replace H := f_l ev10 H
                  have t_31 : (x3 + (1 : Int32)).toInt = x3.toInt + 1 := i_add (x := x3) (y := (1 : Int32)) (by show (_ : Int) ≤ x3.toInt + 1; omega) (by show x3.toInt + 1 ≤ (_ : Int); omega)
                  have t_32 : v10.toInt = (x3 + (1 : Int32)).toInt := congrArg Int32.toInt ev10
                  exact ih34 x1 x2 v10 σ mσ fσ (by omega) (by omega) (by omega) (by omega) H (by omega)
                · intro q_30
                  replace H := f_f q_30 H
                  exact h9ret x3 σ mσ fσ (H0.trans H.symm)
              · intro q_20
                replace H := f_f q_20 H
                have t_33 := MI_a172 mσ hv_7
                have t_34 : ((gi σ 172 x1.toNatClampNeg) - x3).toInt = (gi σ 172 x1.toNatClampNeg).toInt - x3.toInt := i_sub (x := (gi σ 172 x1.toNatClampNeg)) (y := x3) (by show (_ : Int) ≤ (gi σ 172 x1.toNatClampNeg).toInt - x3.toInt; omega) (by show (gi σ 172 x1.toNatClampNeg).toInt - x3.toInt ≤ (_ : Int); omega)
                have t_35 : (((gi σ 172 x1.toNatClampNeg) - x3) - (1 : Int32)).toInt = ((gi σ 172 x1.toNatClampNeg) - x3).toInt - 1 := i_sub (x := ((gi σ 172 x1.toNatClampNeg) - x3)) (y := (1 : Int32)) (by show (_ : Int) ≤ ((gi σ 172 x1.toNatClampNeg) - x3).toInt - 1; omega) (by show ((gi σ 172 x1.toNatClampNeg) - x3).toInt - 1 ≤ (_ : Int); omega)
                have b_36 : ¬ x2.toInt ≤ (((gi σ 172 x1.toNatClampNeg) - x3) - (1 : Int32)).toInt := fun h9 => q_20 (Int32.le_iff_toInt_le.mpr h9)
                exact h9ret ((100 : Int32) + x3) σ mσ fσ (H0.trans H.symm)
  have U34 := T 20
  have f0 : Fr [] [] σ0 σ0 := Fr_rf
  have H := H0
  unfold F_X12_judge at H
  refine s_X12_judge_0 C hN ?_
  refine kF_X12_isTape m0  (fun r2 σ1 mσ1 cσ1 plσ1 phσ1 (pσ1_0 : (r2.toInt = 1 ∧ 0 ≤ a1.toInt ∧ a1.toInt ≤ 5) ∨ (r2.toInt = 0 ∧ (a1.toInt < 0 ∨ 5 < a1.toInt))) hσ1 => ?_)
  obtain rfl := Fr_nil cσ1
  replace H := f_b hσ1 H
  refine ⟨?_, ?_⟩
  · intro q_37
    replace H := f_f q_37 H
    have b_38 : ¬ r2.toInt = 0 := fun h9 => q_37 (Int32.toInt_inj.mp h9)
    have w_39 := Int32.toInt_lt a1
    have w_40 := Int32.le_toInt a1
    have hv_41 : vp_in a1 6 := vp_in_iff.mpr ⟨by omega, by omega⟩
    refine ⟨hv_41, ?_⟩
    refine ⟨?_, ?_⟩
    · intro q_42
      replace H := f_t q_42 H
      have t_43 := MI_a171 m0 hv_41
      have b_44 : (gi σ0 171 a1.toNatClampNeg).toInt < 0 := Int32.lt_iff_toInt_lt.mp q_42
      have z_45 : (0 : Int32).toInt = 0 := rfl
      exact U34 a1 a2 (0 : Int32) σ0 m0 f0 (by omega) (by omega) (by omega) (by omega) H (by omega)
    · intro q_42
      replace H := f_f q_42 H
      have t_46 := MI_a171 m0 hv_41
      have b_47 : ¬ (gi σ0 171 a1.toNatClampNeg).toInt < 0 := fun h9 => q_42 (Int32.lt_iff_toInt_lt.mpr h9)
      refine ⟨hv_41, ?_⟩
      refine ⟨?_, ?_⟩
      · intro q_48
        replace H := f_t q_48 H
        have b_49 : (gi σ0 171 a1.toNatClampNeg).toInt = 1 := congrArg Int32.toInt q_48
        have z_50 : (0 : Int32).toInt = 0 := rfl
        exact U34 a1 a2 (0 : Int32) σ0 m0 f0 (by omega) (by omega) (by omega) (by omega) H (by omega)
      · intro q_48
        replace H := f_f q_48 H
        have b_51 : ¬ (gi σ0 171 a1.toNatClampNeg).toInt = 1 := fun h9 => q_48 (Int32.toInt_inj.mp h9)
        have z_52 : (-12 : Int32).toInt = -12 := rfl
        exact h9ret (-12 : Int32) σ0 m0 f0 (H0.trans H.symm)
  · intro q_37
    replace H := f_t q_37 H
    have b_53 : r2.toInt = 0 := congrArg Int32.toInt q_37
    have z_54 : (-1 : Int32).toInt = -1 := rfl
    exact h9ret (-1 : Int32) σ0 m0 f0 (H0.trans H.symm)
set_option maxRecDepth 100000 in
set_option maxHeartbeats 4000000 in
theorem kF_X12_fromTheStart {l : Launch} {V : Vx} {a1 : Int32} {σ0 : Sg} {Qk : Int32 → Sg → Prop} (m0 : MI σ0) (l_a1 : 1 ≤ a1.toInt) (u_a1 : a1.toInt ≤ 12) (pre0 : (gi σ0 74 1).toInt ≤ 9999) (h9ret : ∀ (r : Int32) (σ' : Sg), MI σ' → Fr [74, 105, 106, 107, 108, 129, 131, 132, 134, 135, 136, 137] [1, 30, 33] σ0 σ' → ((gi σ' 74 1).toInt = (gi σ0 74 1).toInt) → (F_X12_fromTheStart a1 σ0 = (r, σ')) → Qk r σ') : K_X12_fromTheStart l V a1 σ0 Qk := by
  refine e_X12_fromTheStart (fun M hl hV hN C => ?_)
  subst hl
  subst hV
  obtain ⟨R9, H0⟩ : ∃ R9, F_X12_fromTheStart a1 σ0 = R9 := ⟨_, rfl⟩
  have T : ∀ n : Nat, (∀ (x1 : Int32) (x2 : Int32) (σ : Sg), MI σ → Fr [74, 105, 106, 107, 108, 129, 131, 132, 134, 135, 136, 137] [1, 30, 33] σ0 σ → (1 ≤ x1.toInt) → (x1.toInt ≤ 12) → (0 ≤ x2.toInt) → (x2.toInt ≤ 6) → ((gi σ 74 1).toInt = (gi σ0 74 1).toInt) → ((gi σ 74 33).toInt = (gi σ0 74 1).toInt) → (LF_X12_fromTheStart n x1 x2 σ = R9) → (7 - x2.toInt).toNat < n → PS M 6 [(0, .ref 74), (1, .int x1), (2, .int x2)] [] σ (0, 0)) := by
    intro n
    induction n with
    | zero => exact fun _ _ _ _ _ _ _ _ _ _ _ _ h8 => absurd h8 (Nat.not_lt_zero _)
    | succ n ih =>
      have ih6 := ih
      · intro x1 x2 σ mσ fσ lx1 ux1 lx2 ux2 i0 i1 H hmu
        replace H : LB_X12_fromTheStart_6 (LF_X12_fromTheStart n) x1 x2 σ = R9 := H
        unfold LB_X12_fromTheStart_6 at H
        refine s_X12_fromTheStart_6 C hN ?_
        refine ⟨?_, ?_⟩
        · intro q_1
          replace H := f_t q_1 H
          have t_2 := MI_f0 mσ
          have b_3 : (gi σ 74 0).toInt ≤ x2.toInt := Int32.le_iff_toInt_le.mp q_1
          refine kF_X12_goMinutes mσ (by omega) (by omega) (by first | with_reducible assumption | with_reducible rfl | omega | assumption | rfl) (fun σ2 mσ2 cσ2 (pσ2_0 : (x1.toInt ≤ 0 ∧ (gi σ2 74 1).toInt = (gi σ 74 1).toInt) ∨ (0 ≤ x1.toInt ∧ (gi σ2 74 1).toInt = (gi σ 74 1).toInt + x1.toInt)) hσ2 => ?_)
          replace H := f_v hσ2 H
          have fσ2 : Fr [74, 105, 106, 107, 108, 129, 131, 132, 134, 135, 136, 137] [1, 30, 33] σ0 σ2 := Fr_tr fσ cσ2 (by decide +kernel) (by decide +kernel)
          have k_4 : (gi σ2 74 0).toInt = (gi σ 74 0).toInt := congrArg Int32.toInt (cσ2.2.1 0 (by decide +kernel))
          have k_5 : (gi σ2 74 33).toInt = (gi σ 74 33).toInt := congrArg Int32.toInt (cσ2.2.1 33 (by decide +kernel))
          refine kF_X12_all mσ2  (fun r4 σ3 mσ3 cσ3 plσ3 phσ3 hσ3 => ?_)
          obtain rfl := Fr_nil cσ3
          replace H := f_b hσ3 H
          refine kF_X12_putBack mσ2  (fun σ5 mσ5 cσ5 (pσ5_0 : (gi σ5 74 1).toInt = (gi σ2 74 33).toInt) hσ5 => ?_)
          replace H := f_v hσ5 H
          have fσ5 : Fr [74, 105, 106, 107, 108, 129, 131, 132, 134, 135, 136, 137] [1, 30, 33] σ0 σ5 := Fr_tr fσ2 cσ5 (by decide +kernel) (by decide +kernel)
          have k_6 : (gi σ5 74 0).toInt = (gi σ2 74 0).toInt := congrArg Int32.toInt (cσ5.2.1 0 (by decide +kernel))
          have k_7 : (gi σ5 74 33).toInt = (gi σ2 74 33).toInt := congrArg Int32.toInt (cσ5.2.1 33 (by decide +kernel))
          exact h9ret r4 σ5 mσ5 fσ5 (by first | with_reducible assumption | with_reducible rfl | omega | assumption | rfl) (H0.trans H.symm)
        · intro q_1
          replace H := f_f q_1 H
          have t_8 := MI_f0 mσ
          have b_9 : ¬ (gi σ 74 0).toInt ≤ x2.toInt := fun h9 => q_1 (Int32.le_iff_toInt_le.mpr h9)
          have hv_10 : vp_in x2 6 := vp_in_iff.mpr ⟨by omega, by omega⟩
          refine ⟨hv_10, ?_⟩
          intro σ7 eσ7
          replace H := f_l eσ7 H
          have z_11 : (0 : Int32).toInt = 0 := rfl
          have mσ7 : MI σ7 := by rw [eσ7]; exact MIs_a105 mσ (by omega) (by omega)
          have fσ7 : Fr [74, 105, 106, 107, 108, 129, 131, 132, 134, 135, 136, 137] [1, 30, 33] σ0 σ7 := by rw [eσ7]; exact Fr_si fσ (by decide +kernel) (fun h9 => absurd h9 (by decide +kernel))
          have k_12 : (gi σ7 74 0).toInt = (gi σ 74 0).toInt := gk_l eσ7 rfl
          have k_13 : (gi σ7 74 1).toInt = (gi σ 74 1).toInt := gk_l eσ7 rfl
          have k_14 : (gi σ7 74 33).toInt = (gi σ 74 33).toInt := gk_l eσ7 rfl
          intro v8 ev8
          replace H := f_l ev8 H
          have t_15 : (x2 + (1 : Int32)).toInt = x2.toInt + 1 := i_add (x := x2) (y := (1 : Int32)) (by show (_ : Int) ≤ x2.toInt + 1; omega) (by show x2.toInt + 1 ≤ (_ : Int); omega)
          have t_16 : v8.toInt = (x2 + (1 : Int32)).toInt := congrArg Int32.toInt ev8
          exact ih6 x1 v8 σ7 mσ7 fσ7 (by omega) (by omega) (by omega) (by omega) (by first | with_reducible assumption | with_reducible rfl | omega | assumption | rfl) (by first | with_reducible assumption | with_reducible rfl | omega | assumption | rfl) H (by omega)
  have U6 := T 20
  have f0 : Fr [74, 105, 106, 107, 108, 129, 131, 132, 134, 135, 136, 137] [1, 30, 33] σ0 σ0 := Fr_rf
  have H := H0
  unfold F_X12_fromTheStart at H
  refine s_X12_fromTheStart_0 C hN ?_
  refine kF_X12_save m0  (fun σ1 mσ1 cσ1 (pσ1_0 : (gi σ1 74 33).toInt = (gi σ0 74 1).toInt) hσ1 => ?_)
  replace H := f_v hσ1 H
  have fσ1 : Fr [74, 105, 106, 107, 108, 129, 131, 132, 134, 135, 136, 137] [1, 30, 33] σ0 σ1 := Fr_tr f0 cσ1 (by decide +kernel) (by decide +kernel)
  have k_17 : (gi σ1 74 1).toInt = (gi σ0 74 1).toInt := congrArg Int32.toInt (cσ1.2.1 1 (by decide +kernel))
  have z_18 : (0 : Int32).toInt = 0 := rfl
  exact U6 a1 (0 : Int32) σ1 mσ1 fσ1 (by omega) (by omega) (by omega) (by omega) (by first | with_reducible assumption | with_reducible rfl | omega | assumption | rfl) (by first | with_reducible assumption | with_reducible rfl | omega | assumption | rfl) H (by omega)
set_option maxRecDepth 100000 in
set_option maxHeartbeats 4000000 in
theorem kF_X12_aloneBehind {l : Launch} {V : Vx} {a1 : Int32} {a2 : Int32} {σ0 : Sg} {Qk : Int32 → Sg → Prop} (m0 : MI σ0) (l_a1 : 0 ≤ a1.toInt) (u_a1 : a1.toInt ≤ 5) (l_a2 : 1 ≤ a2.toInt) (u_a2 : a2.toInt ≤ 60) (pre0 : (gi σ0 74 1).toInt ≤ 9999) (h9ret : ∀ (r : Int32) (σ' : Sg), MI σ' → Fr [74, 105, 106, 107, 108, 110, 129, 131, 132, 134, 135, 136, 137, 138] [1, 2, 30, 33] σ0 σ' → ((gi σ' 74 1).toInt = (gi σ0 74 1).toInt) → (CD σ0 σ' 110 110 6) → (F_X12_aloneBehind a1 a2 σ0 = (r, σ')) → Qk r σ') : K_X12_aloneBehind l V a1 a2 σ0 Qk := by
  refine e_X12_aloneBehind (fun M hl hV hN C => ?_)
  subst hl
  subst hV
  obtain ⟨R9, H0⟩ : ∃ R9, F_X12_aloneBehind a1 a2 σ0 = R9 := ⟨_, rfl⟩
  have T : ∀ n : Nat, (∀ (x1 : Int32) (x2 : Int32) (x3 : Int32) (σ : Sg), MI σ → Fr [74, 105, 106, 107, 108, 110, 129, 131, 132, 134, 135, 136, 137, 138] [1, 2, 30, 33] σ0 σ → (0 ≤ x1.toInt) → (x1.toInt ≤ 5) → (1 ≤ x2.toInt) → (x2.toInt ≤ 60) → (0 ≤ x3.toInt) → (x3.toInt ≤ 6) → ((gi σ 74 1).toInt = (gi σ0 74 1).toInt) → ((gi σ 74 33).toInt = (gi σ0 74 1).toInt) → (CD σ0 σ 110 110 6) → (CD σ0 σ 138 110 x3.toInt) → (LF_X12_aloneBehind n 0 x1 x2 x3 0 σ = R9) → (7 - x3.toInt).toNat + 20 < n → PS M 6 [(0, .ref 74), (1, .int x1), (2, .int x2), (3, .int x3)] [] σ (0, 0)) ∧ (∀ (x3 : Int32) (x4 : Int32) (σ : Sg), MI σ → Fr [74, 105, 106, 107, 108, 110, 129, 131, 132, 134, 135, 136, 137, 138] [1, 2, 30, 33] σ0 σ → (0 ≤ x4.toInt) → (x4.toInt ≤ 6) → ((gi σ 74 33).toInt = (gi σ0 74 1).toInt) → (CD σ0 σ 138 110 6) → (CD σ0 σ 110 110 x4.toInt) → (LF_X12_aloneBehind n 1 0 0 x3 x4 σ = R9) → (7 - x4.toInt).toNat < n → PS M 57 [(0, .ref 74), (3, .int x3), (4, .int x4)] [] σ (0, 0)) := by
    intro n
    induction n with
    | zero => exact ⟨fun _ _ _ _ _ _ _ _ _ _ _ _ _ _ _ _ _ h8 => absurd h8 (Nat.not_lt_zero _), fun _ _ _ _ _ _ _ _ _ _ _ h8 => absurd h8 (Nat.not_lt_zero _)⟩
    | succ n ih =>
      obtain ⟨ih6, ih57⟩ := ih
      refine ⟨?_, ?_⟩
      · intro x1 x2 x3 σ mσ fσ lx1 ux1 lx2 ux2 lx3 ux3 i0 i1 i2 i3 H hmu
        replace H : LB_X12_aloneBehind_6 (LF_X12_aloneBehind n) x1 x2 x3 σ = R9 := H
        unfold LB_X12_aloneBehind_6 at H
        refine s_X12_aloneBehind_6 C hN ?_
        refine ⟨?_, ?_⟩
        · intro q_1
          replace H := f_t q_1 H
          have b_2 : (6 : Int) ≤ x3.toInt := Int32.le_iff_toInt_le.mp q_1
          have hC9 : CD σ0 σ 138 110 6 := CD_le i3 (by omega)
          have z_3 : (0 : Int32).toInt = 0 := rfl
          have hv_4 : vp_in (0 : Int32) 6 := vp_in_iff.mpr ⟨by omega, by omega⟩
          refine ⟨hv_4, ?_⟩
          intro σ3 eσ3
          replace H := f_l eσ3 H
          have mσ3 : MI σ3 := by rw [eσ3]; exact MIs_a110 mσ (by omega) (by omega)
          have fσ3 : Fr [74, 105, 106, 107, 108, 110, 129, 131, 132, 134, 135, 136, 137, 138] [1, 2, 30, 33] σ0 σ3 := by rw [eσ3]; exact Fr_si fσ (by decide +kernel) (fun h9 => absurd h9 (by decide +kernel))
          have k_5 : (gi σ3 74 1).toInt = (gi σ 74 1).toInt := gk_l eσ3 rfl
          have k_6 : (gi σ3 74 33).toInt = (gi σ 74 33).toInt := gk_l eσ3 rfl
          try have hC9 : CD σ0 σ3 138 110 (6) := by rw [eσ3]; exact CD_st (by first | with_reducible assumption | assumption) (by decide +kernel)
          try have hC9 : CD σ0 σ3 110 110 (6) := by rw [eσ3]; exact CD_st (by first | with_reducible assumption | assumption) (by decide +kernel)
          intro σ4 eσ4
          replace H := f_l eσ4 H
          have z_7 : (1 : Int32).toInt = 1 := rfl
          have mσ4 : MI σ4 := by rw [eσ4]; exact MIs_f2 mσ3 (by omega) (by omega)
          have fσ4 : Fr [74, 105, 106, 107, 108, 110, 129, 131, 132, 134, 135, 136, 137, 138] [1, 2, 30, 33] σ0 σ4 := by rw [eσ4]; exact Fr_si fσ3 (by decide +kernel) (fun _ => by decide +kernel)
          have k_8 : (gi σ4 74 1).toInt = (gi σ3 74 1).toInt := gk_r eσ4 rfl
          have k_9 : (gi σ4 74 33).toInt = (gi σ3 74 33).toInt := gk_r eσ4 rfl
          try have hC9 : CD σ0 σ4 138 110 (6) := by rw [eσ4]; exact CD_st (by first | with_reducible assumption | assumption) (by decide +kernel)
          try have hC9 : CD σ0 σ4 110 110 (6) := by rw [eσ4]; exact CD_st (by first | with_reducible assumption | assumption) (by decide +kernel)
          refine kF_X12_goMinutes mσ4 (by omega) (by omega) (by first | with_reducible assumption | with_reducible rfl | omega | assumption | rfl) (fun σ5 mσ5 cσ5 (pσ5_0 : (x2.toInt ≤ 0 ∧ (gi σ5 74 1).toInt = (gi σ4 74 1).toInt) ∨ (0 ≤ x2.toInt ∧ (gi σ5 74 1).toInt = (gi σ4 74 1).toInt + x2.toInt)) hσ5 => ?_)
          replace H := f_v hσ5 H
          have fσ5 : Fr [74, 105, 106, 107, 108, 110, 129, 131, 132, 134, 135, 136, 137, 138] [1, 2, 30, 33] σ0 σ5 := Fr_tr fσ4 cσ5 (by decide +kernel) (by decide +kernel)
          have k_10 : (gi σ5 74 33).toInt = (gi σ4 74 33).toInt := congrArg Int32.toInt (cσ5.2.1 33 (by decide +kernel))
          try have hC9 : CD σ0 σ5 138 110 (6) := CD_fr (by first | with_reducible assumption | assumption) cσ5 (by decide +kernel)
          try have hC9 : CD σ0 σ5 110 110 (6) := CD_fr (by first | with_reducible assumption | assumption) cσ5 (by decide +kernel)
          have hv_11 : vp_in x1 6 := vp_in_iff.mpr ⟨by omega, by omega⟩
          refine ⟨hv_11, ?_⟩
          intro v7 ev7
          replace H := f_l ev7 H
          have t_12 := MI_a105 mσ5 hv_11
          have t_13 : v7.toInt = (gi σ5 105 x1.toNatClampNeg).toInt := congrArg Int32.toInt ev7
          exact ih57 v7 (0 : Int32) σ5 mσ5 fσ5 (by omega) (by omega) (by first | with_reducible assumption | with_reducible rfl | omega | assumption | rfl) (by first | assumption | (rw [eσ6]; exact CD_st i1 (by decide +kernel))) (by first | exact CD_0 (Int.le_refl 0) | (rw [show v7.toInt = x4.toInt + 1 from by omega, eσ6]; exact CD_step i2 i1 (by omega) (by omega))) H (by omega)
        · intro q_1
          replace H := f_f q_1 H
          have b_14 : ¬ (6 : Int) ≤ x3.toInt := fun h9 => q_1 (Int32.le_iff_toInt_le.mpr h9)
          have hv_15 : vp_in x3 6 := vp_in_iff.mpr ⟨by omega, by omega⟩
          refine ⟨hv_15, ?_⟩
          refine ⟨hv_15, ?_⟩
          intro σ10 eσ10
          replace H := f_l eσ10 H
          have t_16 := MI_a110 mσ hv_15
          have mσ10 : MI σ10 := by rw [eσ10]; exact MIs_a138 mσ (by omega) (by omega)
          have fσ10 : Fr [74, 105, 106, 107, 108, 110, 129, 131, 132, 134, 135, 136, 137, 138] [1, 2, 30, 33] σ0 σ10 := by rw [eσ10]; exact Fr_si fσ (by decide +kernel) (fun h9 => absurd h9 (by decide +kernel))
          have k_17 : (gi σ10 74 1).toInt = (gi σ 74 1).toInt := gk_l eσ10 rfl
          have k_18 : (gi σ10 74 33).toInt = (gi σ 74 33).toInt := gk_l eσ10 rfl
          try have hC9 : CD σ0 σ10 138 110 (6) := by rw [eσ10]; exact CD_st (by first | with_reducible assumption | assumption) (by decide +kernel)
          try have hC9 : CD σ0 σ10 110 110 (6) := by rw [eσ10]; exact CD_st (by first | with_reducible assumption | assumption) (by decide +kernel)
          intro v11 ev11
          replace H := f_l ev11 H
          have t_19 : (x3 + (1 : Int32)).toInt = x3.toInt + 1 := i_add (x := x3) (y := (1 : Int32)) (by show (_ : Int) ≤ x3.toInt + 1; omega) (by show x3.toInt + 1 ≤ (_ : Int); omega)
          have t_20 : v11.toInt = (x3 + (1 : Int32)).toInt := congrArg Int32.toInt ev11
          exact ih6 x1 x2 v11 σ10 mσ10 fσ10 (by omega) (by omega) (by omega) (by omega) (by omega) (by omega) (by first | with_reducible assumption | with_reducible rfl | omega | assumption | rfl) (by first | with_reducible assumption | with_reducible rfl | omega | assumption | rfl) (by first | exact CD_fr CD_rf cσ1 (by decide +kernel) | (rw [eσ10]; exact CD_st i2 (by decide +kernel))) (by first | exact CD_0 (Int.le_refl 0) | (rw [show v11.toInt = x3.toInt + 1 from by omega, eσ10]; exact CD_step i3 i2 (by omega) (by omega))) H (by omega)
      · intro x3 x4 σ mσ fσ lx4 ux4 i0 i1 i2 H hmu
        replace H : LB_X12_aloneBehind_57 (LF_X12_aloneBehind n) x3 x4 σ = R9 := H
        unfold LB_X12_aloneBehind_57 at H
        refine s_X12_aloneBehind_57 C hN ?_
        refine ⟨?_, ?_⟩
        · intro q_21
          replace H := f_t q_21 H
          have b_22 : (6 : Int) ≤ x4.toInt := Int32.le_iff_toInt_le.mp q_21
          have hC9 : CD σ0 σ 110 110 6 := CD_le i2 (by omega)
          intro σ2 eσ2
          replace H := f_l eσ2 H
          have t_23 := MI_f0 mσ
          have mσ2 : MI σ2 := by rw [eσ2]; exact MIs_f2 mσ (by omega) (by omega)
          have fσ2 : Fr [74, 105, 106, 107, 108, 110, 129, 131, 132, 134, 135, 136, 137, 138] [1, 2, 30, 33] σ0 σ2 := by rw [eσ2]; exact Fr_si fσ (by decide +kernel) (fun _ => by decide +kernel)
          have k_24 : (gi σ2 74 0).toInt = (gi σ 74 0).toInt := gk_r eσ2 rfl
          have k_25 : (gi σ2 74 1).toInt = (gi σ 74 1).toInt := gk_r eσ2 rfl
          have k_26 : (gi σ2 74 33).toInt = (gi σ 74 33).toInt := gk_r eσ2 rfl
          try have hC9 : CD σ0 σ2 138 110 (6) := by rw [eσ2]; exact CD_st (by first | with_reducible assumption | assumption) (by decide +kernel)
          try have hC9 : CD σ0 σ2 110 110 (6) := by rw [eσ2]; exact CD_st (by first | with_reducible assumption | assumption) (by decide +kernel)
          refine kF_X12_putBack mσ2  (fun σ3 mσ3 cσ3 (pσ3_0 : (gi σ3 74 1).toInt = (gi σ2 74 33).toInt) hσ3 => ?_)
          replace H := f_v hσ3 H
          have fσ3 : Fr [74, 105, 106, 107, 108, 110, 129, 131, 132, 134, 135, 136, 137, 138] [1, 2, 30, 33] σ0 σ3 := Fr_tr fσ2 cσ3 (by decide +kernel) (by decide +kernel)
          have k_27 : (gi σ3 74 0).toInt = (gi σ2 74 0).toInt := congrArg Int32.toInt (cσ3.2.1 0 (by decide +kernel))
          have k_28 : (gi σ3 74 33).toInt = (gi σ2 74 33).toInt := congrArg Int32.toInt (cσ3.2.1 33 (by decide +kernel))
          try have hC9 : CD σ0 σ3 138 110 (6) := CD_fr (by first | with_reducible assumption | assumption) cσ3 (by decide +kernel)
          try have hC9 : CD σ0 σ3 110 110 (6) := CD_fr (by first | with_reducible assumption | assumption) cσ3 (by decide +kernel)
          exact h9ret x3 σ3 mσ3 fσ3 (by first | with_reducible assumption | with_reducible rfl | omega | assumption | rfl) (by first | with_reducible assumption | assumption) (H0.trans H.symm)
        · intro q_21
          replace H := f_f q_21 H
          have b_29 : ¬ (6 : Int) ≤ x4.toInt := fun h9 => q_21 (Int32.le_iff_toInt_le.mpr h9)
          have hv_30 : vp_in x4 6 := vp_in_iff.mpr ⟨by omega, by omega⟩
          refine ⟨hv_30, ?_⟩
          refine ⟨hv_30, ?_⟩
          intro σ6 eσ6
          replace H := f_l eσ6 H
          have t_31 := MI_a138 mσ hv_30
          have mσ6 : MI σ6 := by rw [eσ6]; exact MIs_a110 mσ (by omega) (by omega)
          have fσ6 : Fr [74, 105, 106, 107, 108, 110, 129, 131, 132, 134, 135, 136, 137, 138] [1, 2, 30, 33] σ0 σ6 := by rw [eσ6]; exact Fr_si fσ (by decide +kernel) (fun h9 => absurd h9 (by decide +kernel))
          have k_32 : (gi σ6 74 1).toInt = (gi σ 74 1).toInt := gk_l eσ6 rfl
          have k_33 : (gi σ6 74 33).toInt = (gi σ 74 33).toInt := gk_l eσ6 rfl
          try have hC9 : CD σ0 σ6 138 110 (6) := by rw [eσ6]; exact CD_st (by first | with_reducible assumption | assumption) (by decide +kernel)
          try have hC9 : CD σ0 σ6 110 110 (6) := by rw [eσ6]; exact CD_st (by first | with_reducible assumption | assumption) (by decide +kernel)
          intro v7 ev7
          replace H := f_l ev7 H
          have t_34 : (x4 + (1 : Int32)).toInt = x4.toInt + 1 := i_add (x := x4) (y := (1 : Int32)) (by show (_ : Int) ≤ x4.toInt + 1; omega) (by show x4.toInt + 1 ≤ (_ : Int); omega)
          have t_35 : v7.toInt = (x4 + (1 : Int32)).toInt := congrArg Int32.toInt ev7
          exact ih57 x3 v7 σ6 mσ6 fσ6 (by omega) (by omega) (by first | with_reducible assumption | with_reducible rfl | omega | assumption | rfl) (by first | assumption | (rw [eσ6]; exact CD_st i1 (by decide +kernel))) (by first | exact CD_0 (Int.le_refl 0) | (rw [show v7.toInt = x4.toInt + 1 from by omega, eσ6]; exact CD_step i2 i1 (by omega) (by omega))) H (by omega)
  obtain ⟨U6, U57⟩ := T 60
  have f0 : Fr [74, 105, 106, 107, 108, 110, 129, 131, 132, 134, 135, 136, 137, 138] [1, 2, 30, 33] σ0 σ0 := Fr_rf
  have H := H0
  unfold F_X12_aloneBehind at H
  refine s_X12_aloneBehind_0 C hN ?_
  refine kF_X12_save m0  (fun σ1 mσ1 cσ1 (pσ1_0 : (gi σ1 74 33).toInt = (gi σ0 74 1).toInt) hσ1 => ?_)
  replace H := f_v hσ1 H
  have fσ1 : Fr [74, 105, 106, 107, 108, 110, 129, 131, 132, 134, 135, 136, 137, 138] [1, 2, 30, 33] σ0 σ1 := Fr_tr f0 cσ1 (by decide +kernel) (by decide +kernel)
  have k_36 : (gi σ1 74 1).toInt = (gi σ0 74 1).toInt := congrArg Int32.toInt (cσ1.2.1 1 (by decide +kernel))
  try have hC9 : CD σ0 σ1 138 110 (6) := CD_fr (by first | with_reducible assumption | assumption) cσ1 (by decide +kernel)
  try have hC9 : CD σ0 σ1 110 110 (6) := CD_fr (by first | with_reducible assumption | assumption) cσ1 (by decide +kernel)
  have z_37 : (0 : Int32).toInt = 0 := rfl
  exact U6 a1 a2 (0 : Int32) σ1 mσ1 fσ1 (by omega) (by omega) (by omega) (by omega) (by omega) (by omega) (by first | with_reducible assumption | with_reducible rfl | omega | assumption | rfl) (by first | with_reducible assumption | with_reducible rfl | omega | assumption | rfl) (by first | exact CD_fr CD_rf cσ1 (by decide +kernel) | (rw [eσ10]; exact CD_st i2 (by decide +kernel))) (by first | exact CD_0 (Int.le_refl 0) | (rw [show v11.toInt = x3.toInt + 1 from by omega, eσ10]; exact CD_step i3 i2 (by omega) (by omega))) H (by omega)
set_option maxRecDepth 100000 in
set_option maxHeartbeats 4000000 in
theorem kF_X12_alone {l : Launch} {V : Vx} {a1 : Int32} {σ0 : Sg} {Qk : Int32 → Sg → Prop} (m0 : MI σ0) (pre0 : (gi σ0 74 1).toInt ≤ 9999) (h9ret : ∀ (r : Int32) (σ' : Sg), MI σ' → Fr [74, 105, 106, 107, 108, 110, 129, 131, 132, 134, 135, 136, 137, 138] [1, 2, 30, 33] σ0 σ' → ((gi σ' 74 1).toInt = (gi σ0 74 1).toInt) → (CD σ0 σ' 110 110 6) → (F_X12_alone a1 σ0 = (r, σ')) → Qk r σ') : K_X12_alone l V a1 σ0 Qk := by
  refine e_X12_alone (fun M hl hV hN C => ?_)
  subst hl
  subst hV
  obtain ⟨R9, H0⟩ : ∃ R9, F_X12_alone a1 σ0 = R9 := ⟨_, rfl⟩
  have T : ∀ n : Nat, (∀ (x1 : Int32) (x2 : Int32) (x3 : Int32) (σ : Sg), MI σ → Fr [74, 105, 106, 107, 108, 110, 129, 131, 132, 134, 135, 136, 137, 138] [1, 2, 30, 33] σ0 σ → (1 ≤ x1.toInt) → (x1.toInt ≤ 60) → (0 ≤ x3.toInt) → (x3.toInt ≤ 6) → ((gi σ 74 1).toInt = (gi σ0 74 1).toInt) → (CD σ0 σ 110 110 6) → (LF_X12_alone n x1 x2 x3 σ = R9) → (7 - x3.toInt).toNat < n → PS M 23 [(0, .ref 74), (1, .int x1), (2, .int x2), (3, .int x3)] [] σ (0, 0)) := by
    intro n
    induction n with
    | zero => exact fun _ _ _ _ _ _ _ _ _ _ _ _ _ h8 => absurd h8 (Nat.not_lt_zero _)
    | succ n ih =>
      have ih23 := ih
      · intro x1 x2 x3 σ mσ fσ lx1 ux1 lx3 ux3 i0 i1 H hmu
        replace H : LB_X12_alone_23 (LF_X12_alone n) x1 x2 x3 σ = R9 := H
        unfold LB_X12_alone_23 at H
        refine s_X12_alone_23 C hN ?_
        refine ⟨?_, ?_⟩
        · intro q_1
          replace H := f_t q_1 H
          have t_2 := MI_f0 mσ
          have b_3 : (gi σ 74 0).toInt ≤ x3.toInt := Int32.le_iff_toInt_le.mp q_1
          exact h9ret x2 σ mσ fσ (by first | with_reducible assumption | with_reducible rfl | omega | assumption | rfl) (by first | assumption | exact CD_rf) (H0.trans H.symm)
        · intro q_1
          replace H := f_f q_1 H
          have t_4 := MI_f0 mσ
          have b_5 : ¬ (gi σ 74 0).toInt ≤ x3.toInt := fun h9 => q_1 (Int32.le_iff_toInt_le.mpr h9)
          refine kF_X12_aloneBehind mσ (by omega) (by omega) (by omega) (by omega) (by first | with_reducible assumption | with_reducible rfl | omega | assumption | rfl) (fun r3 σ2 mσ2 cσ2 (pσ2_0 : (gi σ2 74 1).toInt = (gi σ 74 1).toInt) (pσ2_1 : CD σ σ2 110 110 6) hσ2 => ?_)
          replace H := f_b hσ2 H
          have fσ2 : Fr [74, 105, 106, 107, 108, 110, 129, 131, 132, 134, 135, 136, 137, 138] [1, 2, 30, 33] σ0 σ2 := Fr_tr fσ cσ2 (by decide +kernel) (by decide +kernel)
          have k_6 : (gi σ2 74 0).toInt = (gi σ 74 0).toInt := congrArg Int32.toInt (cσ2.2.1 0 (by decide +kernel))
          have hC9 : CD σ0 σ2 110 110 6 := CD_tr i1 pσ2_1
          intro v4 ev4
          replace H := f_l ev4 H
          intro v5 ev5
          replace H := f_l ev5 H
          have t_7 : (x3 + (1 : Int32)).toInt = x3.toInt + 1 := i_add (x := x3) (y := (1 : Int32)) (by show (_ : Int) ≤ x3.toInt + 1; omega) (by show x3.toInt + 1 ≤ (_ : Int); omega)
          have t_8 : v5.toInt = (x3 + (1 : Int32)).toInt := congrArg Int32.toInt ev5
          exact ih23 x1 v4 v5 σ2 mσ2 fσ2 (by omega) (by omega) (by omega) (by omega) (by first | with_reducible assumption | with_reducible rfl | omega | assumption | rfl) (by first | assumption | exact CD_fr CD_rf cσ4 (by decide +kernel)) H (by omega)
  have U23 := T 20
  have f0 : Fr [74, 105, 106, 107, 108, 110, 129, 131, 132, 134, 135, 136, 137, 138] [1, 2, 30, 33] σ0 σ0 := Fr_rf
  have H := H0
  unfold F_X12_alone at H
  refine s_X12_alone_0 C hN ?_
  refine kF_X12_in m0  (fun r2 σ1 mσ1 cσ1 plσ1 phσ1 (pσ1_0 : (r2.toInt = 1 ∧ (1 : Int) ≤ a1.toInt ∧ a1.toInt ≤ (60 : Int)) ∨ (r2.toInt = 0 ∧ (a1.toInt < (1 : Int) ∨ (60 : Int) < a1.toInt))) hσ1 => ?_)
  obtain rfl := Fr_nil cσ1
  replace H := f_b hσ1 H
  refine ⟨?_, ?_⟩
  · intro q_9
    replace H := f_f q_9 H
    have b_10 : ¬ r2.toInt = 0 := fun h9 => q_9 (Int32.toInt_inj.mp h9)
    refine kF_X12_allBehind m0 (by omega) (by omega) (by first | with_reducible assumption | with_reducible rfl | omega | assumption | rfl) (fun r5 σ4 mσ4 cσ4 plσ4 phσ4 (pσ4_0 : (gi σ4 74 1).toInt = (gi σ0 74 1).toInt) hσ4 => ?_)
    replace H := f_b hσ4 H
    have fσ4 : Fr [74, 105, 106, 107, 108, 110, 129, 131, 132, 134, 135, 136, 137, 138] [1, 2, 30, 33] σ0 σ4 := Fr_tr f0 cσ4 (by decide +kernel) (by decide +kernel)
    have z_11 : (0 : Int32).toInt = 0 := rfl
    exact U23 a1 r5 (0 : Int32) σ4 mσ4 fσ4 (by omega) (by omega) (by omega) (by omega) (by first | with_reducible assumption | with_reducible rfl | omega | assumption | rfl) (by first | assumption | exact CD_fr CD_rf cσ4 (by decide +kernel)) H (by omega)
  · intro q_9
    replace H := f_t q_9 H
    have b_12 : r2.toInt = 0 := congrArg Int32.toInt q_9
    have z_13 : (-100002 : Int32).toInt = -100002 := rfl
    exact h9ret (-100002 : Int32) σ0 m0 f0 (by first | with_reducible assumption | with_reducible rfl | omega | assumption | rfl) (by first | assumption | exact CD_rf) (H0.trans H.symm)
set_option maxRecDepth 100000 in
set_option maxHeartbeats 4000000 in
theorem kF_X12_divisor {l : Launch} {V : Vx} {a1 : Int32} {a2 : Int32} {σ0 : Sg} {Qk : Int32 → Sg → Prop} (m0 : MI σ0) (l_a1 : 0 ≤ a1.toInt) (u_a1 : a1.toInt ≤ 2000000000) (l_a2 : 1 ≤ a2.toInt) (u_a2 : a2.toInt ≤ 6) (h9ret : ∀ (r : Int32) (σ' : Sg), MI σ' → Fr [] [] σ0 σ' → (1 ≤ r.toInt) → (r.toInt ≤ 2000000000) → (F_X12_divisor a1 a2 σ0 = (r, σ')) → Qk r σ') : K_X12_divisor l V a1 a2 σ0 Qk := by
  refine e_X12_divisor (fun M hl hV hN C => ?_)
  subst hl
  subst hV
  obtain ⟨R9, H0⟩ : ∃ R9, F_X12_divisor a1 a2 σ0 = R9 := ⟨_, rfl⟩
  have T : ∀ n : Nat, (∀ (x3 : Int32) (x4 : Int32) (σ : Sg), MI σ → Fr [] [] σ0 σ → (0 ≤ x3.toInt) → (x3.toInt ≤ 2000000000) → (0 ≤ x4.toInt) → (x4.toInt ≤ 6) → (1 ≤ x3.toInt ∨ 1 ≤ x4.toInt) → (LF_X12_divisor n x3 x4 σ = R9) → x4.toInt.toNat < n → PS M 5 [(3, .int x3), (4, .int x4)] [] σ (0, 0)) := by
    intro n
    induction n with
    | zero => exact fun _ _ _ _ _ _ _ _ _ _ _ h8 => absurd h8 (Nat.not_lt_zero _)
    | succ n ih =>
      have ih5 := ih
      · intro x3 x4 σ mσ fσ lx3 ux3 lx4 ux4 i0 H hmu
        replace H : LB_X12_divisor_5 (LF_X12_divisor n) x3 x4 σ = R9 := H
        unfold LB_X12_divisor_5 at H
        refine s_X12_divisor_5 C hN ?_
        refine ⟨?_, ?_⟩
        · intro q_1
          replace H := f_t q_1 H
          have b_2 : x4.toInt = 0 := congrArg Int32.toInt q_1
          exact h9ret x3 σ mσ fσ (by omega) (by omega) (H0.trans H.symm)
        · intro q_1
          replace H := f_f q_1 H
          have b_3 : ¬ x4.toInt = 0 := fun h9 => q_1 (Int32.toInt_inj.mp h9)
          refine ⟨fun h9 => ?_, ?_⟩
          · have h9 : x4.toInt = 0 := congrArg Int32.toInt h9
            omega
          intro v3 ev3
          replace H := f_l ev3 H
          have u3 : v3.toInt = x3.toInt % x4.toInt := by rw [ev3]; exact i_rem (by omega) (by omega) rfl
          have u4 := Int.emod_nonneg x3.toInt (show x4.toInt ≠ 0 by omega)
          have u5 := Int.emod_lt_of_pos x3.toInt (show 0 < x4.toInt by omega)
          exact ih5 x4 v3 σ mσ fσ (by omega) (by omega) (by omega) (by omega) (by first | with_reducible assumption | with_reducible rfl | omega | assumption | rfl) H (by omega)
  have U5 := T 20
  have f0 : Fr [] [] σ0 σ0 := Fr_rf
  have H := H0
  unfold F_X12_divisor at H
  refine s_X12_divisor_0 C hN ?_
  exact U5 a1 a2 σ0 m0 f0 (by omega) (by omega) (by omega) (by omega) (by first | with_reducible assumption | with_reducible rfl | omega | assumption | rfl) H (by omega)
set_option maxRecDepth 100000 in
set_option maxHeartbeats 4000000 in
theorem kF_X12_lowest {l : Launch} {V : Vx} {a1 : Int32} {a2 : Int32} {a3 : Int32} {σ0 : Sg} {Qk : Int64 → Sg → Prop} (m0 : MI σ0) (l_a1 : 0 ≤ a1.toInt) (u_a1 : a1.toInt ≤ 60000) (l_a2 : 1 ≤ a2.toInt) (u_a2 : a2.toInt ≤ 6) (h9ret : ∀ (r : Int64) (σ' : Sg), MI σ' → Fr [] [] σ0 σ' → (F_X12_lowest a1 a2 a3 σ0 = (r, σ')) → Qk r σ') : K_X12_lowest l V a1 a2 a3 σ0 Qk := by
  refine e_X12_lowest (fun M hl hV hN C => ?_)
  subst hl
  subst hV
  obtain ⟨R9, H0⟩ : ∃ R9, F_X12_lowest a1 a2 a3 σ0 = R9 := ⟨_, rfl⟩
  have f0 : Fr [] [] σ0 σ0 := Fr_rf
  have H := H0
  unfold F_X12_lowest at H
  refine s_X12_lowest_0 C hN ?_
  refine kF_X12_divisor m0 (by omega) (by omega) (by omega) (by omega) (fun r2 σ1 mσ1 cσ1 plσ1 phσ1 hσ1 => ?_)
  obtain rfl := Fr_nil cσ1
  replace H := f_b hσ1 H
  refine ⟨?_, ?_⟩
  · intro q_1
    replace H := f_f q_1 H
    have w_2 := Int32.toInt_lt a3
    have w_3 := Int32.le_toInt a3
    have b_4 : ¬ a3.toInt = 0 := fun h9 => q_1 (Int32.toInt_inj.mp h9)
    refine ⟨fun h9 => ?_, ?_⟩
    · have h9 : r2.toInt = 0 := congrArg Int32.toInt h9
      omega
    exact h9ret ((a2 / r2).toInt64) σ0 m0 f0 (H0.trans H.symm)
  · intro q_1
    replace H := f_t q_1 H
    have w_5 := Int32.toInt_lt a3
    have w_6 := Int32.le_toInt a3
    have b_7 : a3.toInt = 0 := congrArg Int32.toInt q_1
    refine ⟨fun h9 => ?_, ?_⟩
    · have h9 : r2.toInt = 0 := congrArg Int32.toInt h9
      omega
    exact h9ret ((a1 / r2).toInt64) σ0 m0 f0 (H0.trans H.symm)
set_option maxRecDepth 100000 in
set_option maxHeartbeats 4000000 in
theorem kF_X12_odds {l : Launch} {V : Vx} {a1 : Int32} {a2 : Int32} {a3 : Int32} {σ0 : Sg} {Qk : Int64 → Sg → Prop} (m0 : MI σ0) (pre0 : (gi σ0 74 1).toInt ≤ 9999) (h9ret : ∀ (r : Int64) (σ' : Sg), MI σ' → Fr [74, 105, 106, 107, 108, 129, 131, 132, 134, 135, 136, 137] [1, 30, 33] σ0 σ' → ((gi σ' 74 1).toInt = (gi σ0 74 1).toInt) → (F_X12_odds a1 a2 a3 σ0 = (r, σ')) → Qk r σ') : K_X12_odds l V a1 a2 a3 σ0 Qk := by
  refine e_X12_odds (fun M hl hV hN C => ?_)
  subst hl
  subst hV
  obtain ⟨R9, H0⟩ : ∃ R9, F_X12_odds a1 a2 a3 σ0 = R9 := ⟨_, rfl⟩
  have T : ∀ n : Nat, (∀ (x1 : Int32) (x2 : Int32) (x3 : Int32) (x4 : Int32) (x5 : Int32) (σ : Sg), MI σ → Fr [74, 105, 106, 107, 108, 129, 131, 132, 134, 135, 136, 137] [1, 30, 33] σ0 σ → (0 ≤ x1.toInt) → (x1.toInt ≤ 5) → (1 ≤ x2.toInt) → (x2.toInt ≤ 60) → (0 ≤ x4.toInt) → (x4.toInt ≤ 6) → (0 ≤ x5.toInt) → (x5.toInt ≤ 6) → ((gi σ 74 1).toInt = (gi σ0 74 1).toInt) → ((gi σ 74 0).toInt = (gi σ0 74 0).toInt) → (x1.toInt < (gi σ 74 0).toInt) → (x4.toInt ≤ x5.toInt) → (LF_X12_odds n x1 x2 x3 x4 x5 σ = R9) → (7 - x5.toInt).toNat < n → PS M 39 [(0, .ref 74), (1, .int x1), (2, .int x2), (3, .int x3), (4, .int x4), (5, .int x5)] [] σ (0, 0)) := by
    intro n
    induction n with
    | zero => exact fun _ _ _ _ _ _ _ _ _ _ _ _ _ _ _ _ _ _ _ _ _ h8 => absurd h8 (Nat.not_lt_zero _)
    | succ n ih =>
      have ih39 := ih
      · intro x1 x2 x3 x4 x5 σ mσ fσ lx1 ux1 lx2 ux2 lx4 ux4 lx5 ux5 i0 i1 i2 i3 H hmu
        replace H : LB_X12_odds_39 (LF_X12_odds n) x1 x2 x3 x4 x5 σ = R9 := H
        unfold LB_X12_odds_39 at H
        refine s_X12_odds_39 C hN ?_
        refine ⟨?_, ?_⟩
        · intro q_1
          replace H := f_t q_1 H
          have t_2 := MI_f0 mσ
          have b_3 : (gi σ 74 0).toInt ≤ x5.toInt := Int32.le_iff_toInt_le.mp q_1
          refine kF_X12_lowest mσ (by omega) (by omega) (by omega) (by omega) (fun r3 σ2 mσ2 cσ2 hσ2 => ?_)
          obtain rfl := Fr_nil cσ2
          replace H := f_b hσ2 H
          exact h9ret r3 σ mσ fσ (by first | with_reducible assumption | with_reducible rfl | omega | assumption | rfl) (H0.trans H.symm)
        · intro q_1
          replace H := f_f q_1 H
          have t_4 := MI_f0 mσ
          have b_5 : ¬ (gi σ 74 0).toInt ≤ x5.toInt := fun h9 => q_1 (Int32.le_iff_toInt_le.mpr h9)
          refine kF_X12_save mσ  (fun σ4 mσ4 cσ4 (pσ4_0 : (gi σ4 74 33).toInt = (gi σ 74 1).toInt) hσ4 => ?_)
          replace H := f_v hσ4 H
          have fσ4 : Fr [74, 105, 106, 107, 108, 129, 131, 132, 134, 135, 136, 137] [1, 30, 33] σ0 σ4 := Fr_tr fσ cσ4 (by decide +kernel) (by decide +kernel)
          have k_6 : (gi σ4 74 0).toInt = (gi σ 74 0).toInt := congrArg Int32.toInt (cσ4.2.1 0 (by decide +kernel))
          have k_7 : (gi σ4 74 1).toInt = (gi σ 74 1).toInt := congrArg Int32.toInt (cσ4.2.1 1 (by decide +kernel))
          have hv_8 : vp_in x5 6 := vp_in_iff.mpr ⟨by omega, by omega⟩
          refine ⟨hv_8, ?_⟩
          refine ⟨hv_8, ?_⟩
          intro σ7 eσ7
          replace H := f_l eσ7 H
          have mσ7 : MI σ7 := by rw [eσ7]; exact MIs_au (a := 108) mσ4 rfl rfl
          have fσ7 : Fr [74, 105, 106, 107, 108, 129, 131, 132, 134, 135, 136, 137] [1, 30, 33] σ0 σ7 := by rw [eσ7]; exact Fr_si fσ4 (by decide +kernel) (fun h9 => absurd h9 (by decide +kernel))
          have k_9 : (gi σ7 74 0).toInt = (gi σ4 74 0).toInt := gk_l eσ7 rfl
          have k_10 : (gi σ7 74 1).toInt = (gi σ4 74 1).toInt := gk_l eσ7 rfl
          have k_11 : (gi σ7 74 33).toInt = (gi σ4 74 33).toInt := gk_l eσ7 rfl
          refine kF_X12_goMinutes mσ7 (by omega) (by omega) (by first | with_reducible assumption | with_reducible rfl | omega | assumption | rfl) (fun σ8 mσ8 cσ8 (pσ8_0 : (x2.toInt ≤ 0 ∧ (gi σ8 74 1).toInt = (gi σ7 74 1).toInt) ∨ (0 ≤ x2.toInt ∧ (gi σ8 74 1).toInt = (gi σ7 74 1).toInt + x2.toInt)) hσ8 => ?_)
          replace H := f_v hσ8 H
          have fσ8 : Fr [74, 105, 106, 107, 108, 129, 131, 132, 134, 135, 136, 137] [1, 30, 33] σ0 σ8 := Fr_tr fσ7 cσ8 (by decide +kernel) (by decide +kernel)
          have k_12 : (gi σ8 74 0).toInt = (gi σ7 74 0).toInt := congrArg Int32.toInt (cσ8.2.1 0 (by decide +kernel))
          have k_13 : (gi σ8 74 33).toInt = (gi σ7 74 33).toInt := congrArg Int32.toInt (cσ8.2.1 33 (by decide +kernel))
          have hv_14 : vp_in x1 6 := vp_in_iff.mpr ⟨by omega, by omega⟩
          refine ⟨hv_14, ?_⟩
          refine ⟨?_, ?_⟩
          · intro q_15
            replace H := f_t q_15 H
            have b_16 : (gi σ8 132 x1.toNatClampNeg).toInt ≤ 0 := Int32.le_iff_toInt_le.mp q_15
            intro v11 ev11
            replace H := f_l ev11 H
            have t_17 : (x4 + (0 : Int32)).toInt = x4.toInt + 0 := i_add (x := x4) (y := (0 : Int32)) (by show (_ : Int) ≤ x4.toInt + 0; omega) (by show x4.toInt + 0 ≤ (_ : Int); omega)
            have t_18 : v11.toInt = (x4 + (0 : Int32)).toInt := congrArg Int32.toInt ev11
            refine kF_X12_putBack mσ8  (fun σ12 mσ12 cσ12 (pσ12_0 : (gi σ12 74 1).toInt = (gi σ8 74 33).toInt) hσ12 => ?_)
            replace H := f_v hσ12 H
            have fσ12 : Fr [74, 105, 106, 107, 108, 129, 131, 132, 134, 135, 136, 137] [1, 30, 33] σ0 σ12 := Fr_tr fσ8 cσ12 (by decide +kernel) (by decide +kernel)
            have k_19 : (gi σ12 74 0).toInt = (gi σ8 74 0).toInt := congrArg Int32.toInt (cσ12.2.1 0 (by decide +kernel))
            have k_20 : (gi σ12 74 33).toInt = (gi σ8 74 33).toInt := congrArg Int32.toInt (cσ12.2.1 33 (by decide +kernel))
            intro v13 ev13
            replace H := f_l ev13 H
            have t_21 : (x5 + (1 : Int32)).toInt = x5.toInt + 1 := i_add (x := x5) (y := (1 : Int32)) (by show (_ : Int) ≤ x5.toInt + 1; omega) (by show x5.toInt + 1 ≤ (_ : Int); omega)
            have t_22 : v13.toInt = (x5 + (1 : Int32)).toInt := congrArg Int32.toInt ev13
            exact ih39 x1 x2 x3 v11 v13 σ12 mσ12 fσ12 (by omega) (by omega) (by omega) (by omega) (by omega) (by omega) (by omega) (by omega) (by first | with_reducible assumption | with_reducible rfl | omega | assumption | rfl) (by first | with_reducible assumption | with_reducible rfl | omega | assumption | rfl) (by first | with_reducible assumption | with_reducible rfl | omega | assumption | rfl) (by first | with_reducible assumption | with_reducible rfl | omega | assumption | rfl) H (by omega)
          · intro q_15
            replace H := f_f q_15 H
            have b_23 : ¬ (gi σ8 132 x1.toNatClampNeg).toInt ≤ 0 := fun h9 => q_15 (Int32.le_iff_toInt_le.mpr h9)
            intro v14 ev14
            replace H := f_l ev14 H
            have t_24 : (x4 + (1 : Int32)).toInt = x4.toInt + 1 := i_add (x := x4) (y := (1 : Int32)) (by show (_ : Int) ≤ x4.toInt + 1; omega) (by show x4.toInt + 1 ≤ (_ : Int); omega)
            have t_25 : v14.toInt = (x4 + (1 : Int32)).toInt := congrArg Int32.toInt ev14
            refine kF_X12_putBack mσ8  (fun σ15 mσ15 cσ15 (pσ15_0 : (gi σ15 74 1).toInt = (gi σ8 74 33).toInt) hσ15 => ?_)
            replace H := f_v hσ15 H
            have fσ15 : Fr [74, 105, 106, 107, 108, 129, 131, 132, 134, 135, 136, 137] [1, 30, 33] σ0 σ15 := Fr_tr fσ8 cσ15 (by decide +kernel) (by decide +kernel)
            have k_26 : (gi σ15 74 0).toInt = (gi σ8 74 0).toInt := congrArg Int32.toInt (cσ15.2.1 0 (by decide +kernel))
            have k_27 : (gi σ15 74 33).toInt = (gi σ8 74 33).toInt := congrArg Int32.toInt (cσ15.2.1 33 (by decide +kernel))
            intro v16 ev16
            replace H := f_l ev16 H
            have t_28 : (x5 + (1 : Int32)).toInt = x5.toInt + 1 := i_add (x := x5) (y := (1 : Int32)) (by show (_ : Int) ≤ x5.toInt + 1; omega) (by show x5.toInt + 1 ≤ (_ : Int); omega)
            have t_29 : v16.toInt = (x5 + (1 : Int32)).toInt := congrArg Int32.toInt ev16
            exact ih39 x1 x2 x3 v14 v16 σ15 mσ15 fσ15 (by omega) (by omega) (by omega) (by omega) (by omega) (by omega) (by omega) (by omega) (by first | with_reducible assumption | with_reducible rfl | omega | assumption | rfl) (by first | with_reducible assumption | with_reducible rfl | omega | assumption | rfl) (by first | with_reducible assumption | with_reducible rfl | omega | assumption | rfl) (by first | with_reducible assumption | with_reducible rfl | omega | assumption | rfl) H (by omega)
  have U39 := T 20
  have f0 : Fr [74, 105, 106, 107, 108, 129, 131, 132, 134, 135, 136, 137] [1, 30, 33] σ0 σ0 := Fr_rf
  have mw := MI_f0 m0
  have H := H0
  unfold F_X12_odds at H
  refine s_X12_odds_0 C hN ?_
  refine kF_X12_isMower m0  (fun r2 σ1 mσ1 cσ1 plσ1 phσ1 (pσ1_0 : (r2.toInt = 1 ∧ 0 ≤ a1.toInt ∧ a1.toInt < (gi σ0 74 0).toInt) ∨ (r2.toInt = 0 ∧ (a1.toInt < 0 ∨ (gi σ0 74 0).toInt ≤ a1.toInt))) hσ1 => ?_)
  obtain rfl := Fr_nil cσ1
  replace H := f_b hσ1 H
  have t_30 := MI_f0 m0
  refine ⟨?_, ?_⟩
  · intro q_31
    replace H := f_t q_31 H
    have b_32 : r2.toInt = 0 := congrArg Int32.toInt q_31
    exact h9ret (-9223372036854775808 : Int64) σ0 m0 f0 (by first | with_reducible assumption | with_reducible rfl | omega | assumption | rfl) (H0.trans H.symm)
  · intro q_31
    replace H := f_f q_31 H
    have b_33 : ¬ r2.toInt = 0 := fun h9 => q_31 (Int32.toInt_inj.mp h9)
    refine kF_X12_in m0  (fun r5 σ4 mσ4 cσ4 plσ4 phσ4 (pσ4_0 : (r5.toInt = 1 ∧ (1 : Int) ≤ a2.toInt ∧ a2.toInt ≤ (60 : Int)) ∨ (r5.toInt = 0 ∧ (a2.toInt < (1 : Int) ∨ (60 : Int) < a2.toInt))) hσ4 => ?_)
    obtain rfl := Fr_nil cσ4
    replace H := f_b hσ4 H
    refine ⟨?_, ?_⟩
    · intro q_34
      replace H := f_t q_34 H
      have b_35 : r5.toInt = 0 := congrArg Int32.toInt q_34
      exact h9ret (-9223372036854775808 : Int64) σ0 m0 f0 (by first | with_reducible assumption | with_reducible rfl | omega | assumption | rfl) (H0.trans H.symm)
    · intro q_34
      replace H := f_f q_34 H
      have b_36 : ¬ r5.toInt = 0 := fun h9 => q_34 (Int32.toInt_inj.mp h9)
      refine kF_X12_in m0  (fun r8 σ7 mσ7 cσ7 plσ7 phσ7 (pσ7_0 : (r8.toInt = 1 ∧ (0 : Int) ≤ a3.toInt ∧ a3.toInt ≤ (1 : Int)) ∨ (r8.toInt = 0 ∧ (a3.toInt < (0 : Int) ∨ (1 : Int) < a3.toInt))) hσ7 => ?_)
      obtain rfl := Fr_nil cσ7
      replace H := f_b hσ7 H
      refine ⟨?_, ?_⟩
      · intro q_37
        replace H := f_f q_37 H
        have b_38 : ¬ r8.toInt = 0 := fun h9 => q_37 (Int32.toInt_inj.mp h9)
        have z_39 : (0 : Int32).toInt = 0 := rfl
        exact U39 a1 a2 a3 (0 : Int32) (0 : Int32) σ0 m0 f0 (by omega) (by omega) (by omega) (by omega) (by omega) (by omega) (by omega) (by omega) (by first | with_reducible assumption | with_reducible rfl | omega | assumption | rfl) (by first | with_reducible assumption | with_reducible rfl | omega | assumption | rfl) (by first | with_reducible assumption | with_reducible rfl | omega | assumption | rfl) (by first | with_reducible assumption | with_reducible rfl | omega | assumption | rfl) H (by omega)
      · intro q_37
        replace H := f_t q_37 H
        have b_40 : r8.toInt = 0 := congrArg Int32.toInt q_37
        exact h9ret (-9223372036854775808 : Int64) σ0 m0 f0 (by first | with_reducible assumption | with_reducible rfl | omega | assumption | rfl) (H0.trans H.symm)
set_option maxRecDepth 100000 in
set_option maxHeartbeats 4000000 in
theorem kF_X12_mean {l : Launch} {V : Vx} {a1 : Int32} {a2 : Int32} {σ0 : Sg} {Qk : Int64 → Sg → Prop} (m0 : MI σ0) (pre0 : (gi σ0 74 1).toInt ≤ 9999) (h9ret : ∀ (r : Int64) (σ' : Sg), MI σ' → Fr [74, 105, 106, 107, 108, 129, 131, 132, 134, 135, 136, 137] [1, 30, 33] σ0 σ' → ((gi σ' 74 1).toInt = (gi σ0 74 1).toInt) → (F_X12_mean a1 a2 σ0 = (r, σ')) → Qk r σ') : K_X12_mean l V a1 a2 σ0 Qk := by
  refine e_X12_mean (fun M hl hV hN C => ?_)
  subst hl
  subst hV
  obtain ⟨R9, H0⟩ : ∃ R9, F_X12_mean a1 a2 σ0 = R9 := ⟨_, rfl⟩
  have f0 : Fr [74, 105, 106, 107, 108, 129, 131, 132, 134, 135, 136, 137] [1, 30, 33] σ0 σ0 := Fr_rf
  have H := H0
  unfold F_X12_mean at H
  refine s_X12_mean_0 C hN ?_
  refine kF_X12_in m0  (fun r2 σ1 mσ1 cσ1 plσ1 phσ1 (pσ1_0 : (r2.toInt = 1 ∧ (1 : Int) ≤ a1.toInt ∧ a1.toInt ≤ (60 : Int)) ∨ (r2.toInt = 0 ∧ (a1.toInt < (1 : Int) ∨ (60 : Int) < a1.toInt))) hσ1 => ?_)
  obtain rfl := Fr_nil cσ1
  replace H := f_b hσ1 H
  refine ⟨?_, ?_⟩
  · intro q_1
    replace H := f_t q_1 H
    have b_2 : r2.toInt = 0 := congrArg Int32.toInt q_1
    exact h9ret (-9223372036854775808 : Int64) σ0 m0 f0 (by first | with_reducible assumption | with_reducible rfl | omega | assumption | rfl) (H0.trans H.symm)
  · intro q_1
    replace H := f_f q_1 H
    have b_3 : ¬ r2.toInt = 0 := fun h9 => q_1 (Int32.toInt_inj.mp h9)
    refine kF_X12_in m0  (fun r5 σ4 mσ4 cσ4 plσ4 phσ4 (pσ4_0 : (r5.toInt = 1 ∧ (0 : Int) ≤ a2.toInt ∧ a2.toInt ≤ (1 : Int)) ∨ (r5.toInt = 0 ∧ (a2.toInt < (0 : Int) ∨ (1 : Int) < a2.toInt))) hσ4 => ?_)
    obtain rfl := Fr_nil cσ4
    replace H := f_b hσ4 H
    refine ⟨?_, ?_⟩
    · intro q_4
      replace H := f_t q_4 H
      have b_5 : r5.toInt = 0 := congrArg Int32.toInt q_4
      exact h9ret (-9223372036854775808 : Int64) σ0 m0 f0 (by first | with_reducible assumption | with_reducible rfl | omega | assumption | rfl) (H0.trans H.symm)
    · intro q_4
      replace H := f_f q_4 H
      have b_6 : ¬ r5.toInt = 0 := fun h9 => q_4 (Int32.toInt_inj.mp h9)
      refine ⟨?_, ?_⟩
      · intro q_7
        replace H := f_f q_7 H
        have t_8 := MI_f0 m0
        have b_9 : ¬ (gi σ0 74 0).toInt = 0 := fun h9 => q_7 (Int32.toInt_inj.mp h9)
        refine kF_X12_allBehind m0 (by omega) (by omega) (by first | with_reducible assumption | with_reducible rfl | omega | assumption | rfl) (fun r9 σ8 mσ8 cσ8 plσ8 phσ8 (pσ8_0 : (gi σ8 74 1).toInt = (gi σ0 74 1).toInt) hσ8 => ?_)
        replace H := f_b hσ8 H
        have fσ8 : Fr [74, 105, 106, 107, 108, 129, 131, 132, 134, 135, 136, 137] [1, 30, 33] σ0 σ8 := Fr_tr f0 cσ8 (by decide +kernel) (by decide +kernel)
        have k_10 : (gi σ8 74 0).toInt = (gi σ0 74 0).toInt := congrArg Int32.toInt (cσ8.2.1 0 (by decide +kernel))
        have t_11 := MI_f0 mσ8
        refine kF_X12_lowest mσ8 (by omega) (by omega) (by omega) (by omega) (fun r11 σ10 mσ10 cσ10 hσ10 => ?_)
        obtain rfl := Fr_nil cσ10
        replace H := f_b hσ10 H
        exact h9ret r11 σ8 mσ8 fσ8 (by first | with_reducible assumption | with_reducible rfl | omega | assumption | rfl) (H0.trans H.symm)
      · intro q_7
        replace H := f_t q_7 H
        have t_12 := MI_f0 m0
        have b_13 : (gi σ0 74 0).toInt = 0 := congrArg Int32.toInt q_7
        exact h9ret (-9223372036854775808 : Int64) σ0 m0 f0 (by first | with_reducible assumption | with_reducible rfl | omega | assumption | rfl) (H0.trans H.symm)
set_option maxRecDepth 100000 in
set_option maxHeartbeats 4000000 in
theorem kF_X12_of {l : Launch} {V : Vx} {a1 : Int32} {a2 : Int32} {σ0 : Sg} {Qk : Int32 → Sg → Prop} (m0 : MI σ0) (pre0 : PL σ0) (h9ret : ∀ (r : Int32) (σ' : Sg), MI σ' → Fr [74, 129] [30] σ0 σ' → (F_X12_of a1 a2 σ0 = (r, σ')) → Qk r σ') : K_X12_of l V a1 a2 σ0 Qk := by
  refine e_X12_of (fun M hl hV hN C => ?_)
  subst hl
  subst hV
  obtain ⟨R9, H0⟩ : ∃ R9, F_X12_of a1 a2 σ0 = R9 := ⟨_, rfl⟩
  have f0 : Fr [74, 129] [30] σ0 σ0 := Fr_rf
  have H := H0
  unfold F_X12_of at H
  refine s_X12_of_0 C hN ?_
  refine kF_X12_isMower m0  (fun r2 σ1 mσ1 cσ1 plσ1 phσ1 (pσ1_0 : (r2.toInt = 1 ∧ 0 ≤ a1.toInt ∧ a1.toInt < (gi σ0 74 0).toInt) ∨ (r2.toInt = 0 ∧ (a1.toInt < 0 ∨ (gi σ0 74 0).toInt ≤ a1.toInt))) hσ1 => ?_)
  obtain rfl := Fr_nil cσ1
  replace H := f_b hσ1 H
  have t_1 := MI_f0 m0
  refine ⟨?_, ?_⟩
  · intro q_2
    replace H := f_f q_2 H
    have b_3 : ¬ r2.toInt = 0 := fun h9 => q_2 (Int32.toInt_inj.mp h9)
    refine ⟨?_, ?_, ?_, ?_, ?_, ?_, ?_, ?_, ?_, ?_⟩
    · intro q_4
      replace H := f_f (by omega) H
      replace H := f_f (by omega) H
      replace H := f_f (by omega) H
      replace H := f_f (by omega) H
      replace H := f_f (by omega) H
      replace H := f_f (by omega) H
      replace H := f_f (by omega) H
      replace H := f_f (by omega) H
      replace H := f_f (by omega) H
      have z_5 : (-1 : Int32).toInt = -1 := rfl
      exact h9ret (-1 : Int32) σ0 m0 f0 (H0.trans H.symm)
    · intro q_4
      replace H := f_t q_4 H
      have w_6 := Int32.toInt_lt a1
      have w_7 := Int32.le_toInt a1
      have hv_8 : vp_in a1 6 := vp_in_iff.mpr ⟨by omega, by omega⟩
      refine ⟨hv_8, ?_⟩
      exact h9ret (gi σ0 103 a1.toNatClampNeg) σ0 m0 f0 (H0.trans H.symm)
    · intro q_4
      replace H := f_f (by omega) H
      replace H := f_t q_4 H
      have w_9 := Int32.toInt_lt a1
      have w_10 := Int32.le_toInt a1
      have hv_11 : vp_in a1 6 := vp_in_iff.mpr ⟨by omega, by omega⟩
      refine ⟨hv_11, ?_⟩
      exact h9ret (gi σ0 104 a1.toNatClampNeg) σ0 m0 f0 (H0.trans H.symm)
    · intro q_4
      replace H := f_f (by omega) H
      replace H := f_f (by omega) H
      replace H := f_t q_4 H
      have w_12 := Int32.toInt_lt a1
      have w_13 := Int32.le_toInt a1
      have hv_14 : vp_in a1 6 := vp_in_iff.mpr ⟨by omega, by omega⟩
      refine ⟨hv_14, ?_⟩
      exact h9ret (gi σ0 105 a1.toNatClampNeg) σ0 m0 f0 (H0.trans H.symm)
    · intro q_4
      replace H := f_f (by omega) H
      replace H := f_f (by omega) H
      replace H := f_f (by omega) H
      replace H := f_t q_4 H
      have w_15 := Int32.toInt_lt a1
      have w_16 := Int32.le_toInt a1
      have hv_17 : vp_in a1 6 := vp_in_iff.mpr ⟨by omega, by omega⟩
      refine ⟨hv_17, ?_⟩
      exact h9ret (gi σ0 106 a1.toNatClampNeg) σ0 m0 f0 (H0.trans H.symm)
    · intro q_4
      replace H := f_f (by omega) H
      replace H := f_f (by omega) H
      replace H := f_f (by omega) H
      replace H := f_f (by omega) H
      replace H := f_t q_4 H
      have w_18 := Int32.toInt_lt a1
      have w_19 := Int32.le_toInt a1
      have hv_20 : vp_in a1 6 := vp_in_iff.mpr ⟨by omega, by omega⟩
      refine ⟨hv_20, ?_⟩
      exact h9ret (gi σ0 107 a1.toNatClampNeg) σ0 m0 f0 (H0.trans H.symm)
    · intro q_4
      replace H := f_f (by omega) H
      replace H := f_f (by omega) H
      replace H := f_f (by omega) H
      replace H := f_f (by omega) H
      replace H := f_f (by omega) H
      replace H := f_t q_4 H
      have w_21 := Int32.toInt_lt a1
      have w_22 := Int32.le_toInt a1
      have hv_23 : vp_in a1 6 := vp_in_iff.mpr ⟨by omega, by omega⟩
      refine ⟨hv_23, ?_⟩
      exact h9ret (gi σ0 108 a1.toNatClampNeg) σ0 m0 f0 (H0.trans H.symm)
    · intro q_4
      replace H := f_f (by omega) H
      replace H := f_f (by omega) H
      replace H := f_f (by omega) H
      replace H := f_f (by omega) H
      replace H := f_f (by omega) H
      replace H := f_f (by omega) H
      replace H := f_t q_4 H
      refine kF_X12_placeOf m0 (by omega) (by omega) (by first | with_reducible assumption | with_reducible rfl | omega | assumption | rfl) (by first | with_reducible assumption | with_reducible rfl | omega | assumption | rfl) (fun r12 σ11 mσ11 cσ11 plσ11 phσ11 (pσ11_0 : r12.toInt < (gi σ0 74 0).toInt) (pσ11_1 : gi σ0 110 r12.toNatClampNeg = a1) hσ11 => ?_)
      obtain rfl := Fr_nil cσ11
      replace H := f_b hσ11 H
      exact h9ret r12 σ0 m0 f0 (H0.trans H.symm)
    · intro q_4
      replace H := f_f (by omega) H
      replace H := f_f (by omega) H
      replace H := f_f (by omega) H
      replace H := f_f (by omega) H
      replace H := f_f (by omega) H
      replace H := f_f (by omega) H
      replace H := f_f (by omega) H
      replace H := f_t q_4 H
      refine kF_X12_placeOf m0 (by omega) (by omega) (by first | with_reducible assumption | with_reducible rfl | omega | assumption | rfl) (by first | with_reducible assumption | with_reducible rfl | omega | assumption | rfl) (fun r14 σ13 mσ13 cσ13 plσ13 phσ13 (pσ13_0 : r14.toInt < (gi σ0 74 0).toInt) (pσ13_1 : gi σ0 110 r14.toNatClampNeg = a1) hσ13 => ?_)
      obtain rfl := Fr_nil cσ13
      replace H := f_b hσ13 H
      refine kF_X12_paceAt m0 (by omega) (by omega) (fun r16 σ15 mσ15 cσ15 hσ15 => ?_)
      replace H := f_b hσ15 H
      have fσ15 : Fr [74, 129] [30] σ0 σ15 := Fr_tr f0 cσ15 (by decide +kernel) (by decide +kernel)
      have k_24 : (gi σ15 74 0).toInt = (gi σ0 74 0).toInt := congrArg Int32.toInt (cσ15.2.1 0 (by decide +kernel))
      exact h9ret r16 σ15 mσ15 fσ15 (H0.trans H.symm)
    · intro q_4
      replace H := f_f (by omega) H
      replace H := f_f (by omega) H
      replace H := f_f (by omega) H
      replace H := f_f (by omega) H
      replace H := f_f (by omega) H
      replace H := f_f (by omega) H
      replace H := f_f (by omega) H
      replace H := f_f (by omega) H
      replace H := f_t q_4 H
      refine kF_X12_placeOf m0 (by omega) (by omega) (by first | with_reducible assumption | with_reducible rfl | omega | assumption | rfl) (by first | with_reducible assumption | with_reducible rfl | omega | assumption | rfl) (fun r18 σ17 mσ17 cσ17 plσ17 phσ17 (pσ17_0 : r18.toInt < (gi σ0 74 0).toInt) (pσ17_1 : gi σ0 110 r18.toNatClampNeg = a1) hσ17 => ?_)
      obtain rfl := Fr_nil cσ17
      replace H := f_b hσ17 H
      refine kF_X12_strideAt m0 (by omega) (by omega) (fun r20 σ19 mσ19 cσ19 (pσ19_0 : (gi σ19 74 1).toInt = (gi σ0 74 1).toInt) hσ19 => ?_)
      replace H := f_b hσ19 H
      have fσ19 : Fr [74, 129] [30] σ0 σ19 := Fr_tr f0 cσ19 (by decide +kernel) (by decide +kernel)
      have k_25 : (gi σ19 74 0).toInt = (gi σ0 74 0).toInt := congrArg Int32.toInt (cσ19.2.1 0 (by decide +kernel))
      exact h9ret r20 σ19 mσ19 fσ19 (H0.trans H.symm)
  · intro q_2
    replace H := f_t q_2 H
    have b_26 : r2.toInt = 0 := congrArg Int32.toInt q_2
    have z_27 : (-1 : Int32).toInt = -1 := rfl
    exact h9ret (-1 : Int32) σ0 m0 f0 (H0.trans H.symm)
