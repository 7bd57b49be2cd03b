set_option maxRecDepth 100000 in
set_option maxHeartbeats 4000000 in
theorem k_X12_goWhet {l : Launch} {V : Vx} {σ0 : Sg} {Qk : Sg → Prop} (m0 : MI σ0) (pre0 : (gi σ0 74 1).toInt ≤ 18000) (h9ret : ∀ (σ' : Sg), MI σ' → Fr [74, 106, 107, 108] [1] σ0 σ' → ((gi σ' 74 1).toInt = (gi σ0 74 1).toInt + 1) → Qk σ') : K_X12_goWhet l V σ0 Qk := by
  refine e_X12_goWhet (fun M hl hV hN C => ?_)
  subst hl
  subst hV
  have T : ∀ n : Nat, (∀ (x1 : Int32) (σ : Sg), MI σ → Fr [74, 106, 107, 108] [1] σ0 σ → (0 ≤ x1.toInt) → (x1.toInt ≤ 6) → ((gi σ 74 1).toInt = (gi σ0 74 1).toInt) → (7 - x1.toInt).toNat < n → PS M 2 [(0, .ref 74), (1, .int x1)] [] σ (0, 0)) := by
    intro n
    induction n with
    | zero => exact fun _ _ _ _ _ _ _ h8 => absurd h8 (Nat.not_lt_zero _)
    | succ n ih =>
      have ih2 := ih
      · intro x1 σ mσ fσ lx1 ux1 i0 hmu
        refine s_X12_goWhet_2 C hN ?_
        refine ⟨?_, ?_⟩
        · intro q_1
          have t_2 := MI_f0 mσ
          have b_3 : (gi σ 74 0).toInt ≤ x1.toInt := Int32.le_iff_toInt_le.mp q_1
          intro σ2 eσ2
          have t_4 := MI_f1 mσ
          have t_5 : (1 : Int32).toInt = 1 := rfl
          have t_6 : ((gi σ 74 1) + (1 : Int32)).toInt = (gi σ 74 1).toInt + (1 : Int32).toInt := i_add (by omega) (by omega)
          have mσ2 : MI σ2 := by rw [eσ2]; exact MIs_f1 mσ (by omega) (by omega)
          have fσ2 : Fr [74, 106, 107, 108] [1] σ0 σ2 := by rw [eσ2]; exact Fr_si fσ (by decide) (fun _ => by decide)
          have k_7 : (gi σ2 74 0).toInt = (gi σ 74 0).toInt := by rw [eσ2]; exact congrArg Int32.toInt (gi_si_ne (Or.inr (by decide)))
          have k_8 : (gi σ2 74 1).toInt = ((gi σ 74 1) + (1 : Int32)).toInt := by rw [eσ2]; exact congrArg Int32.toInt gi_si_eq
          exact h9ret σ2 mσ2 fσ2 (by first | rfl | assumption | omega)
        · intro q_1
          have t_9 := MI_f0 mσ
          have b_10 : ¬ (gi σ 74 0).toInt ≤ x1.toInt := mt Int32.le_iff_toInt_le.mpr q_1
          have hv_11 : vp_in x1 6 := vp_in_iff.mpr ⟨by omega, by omega⟩
          refine ⟨hv_11, ?_⟩
          intro σ4 eσ4
          have mσ4 : MI σ4 := by rw [eσ4]; exact MIs_au (a := 106) mσ rfl rfl
          have fσ4 : Fr [74, 106, 107, 108] [1] σ0 σ4 := by rw [eσ4]; exact Fr_si fσ (by decide) (fun h9 => absurd h9 (by decide))
          have k_12 : (gi σ4 74 0).toInt = (gi σ 74 0).toInt := by rw [eσ4]; exact congrArg Int32.toInt (gi_si_ne (Or.inl (by decide)))
          have k_13 : (gi σ4 74 1).toInt = (gi σ 74 1).toInt := by rw [eσ4]; exact congrArg Int32.toInt (gi_si_ne (Or.inl (by decide)))
          refine ⟨hv_11, ?_⟩
          have t_14 : (0 : Int32).toInt = 0 := rfl
          have t_15 : (1 : Int32).toInt = 1 := rfl
          refine k_X12_most mσ4  (fun r7 σ6 mσ6 cσ6 pσ6_0 => ?_)
          have fσ6 : Fr [74, 106, 107, 108] [1] σ0 σ6 := Fr_tr fσ4 cσ6 (by decide) (by decide)
          have k_16 : (gi σ6 74 0).toInt = (gi σ4 74 0).toInt := congrArg Int32.toInt (cσ6.2.1 0 (by decide))
          have k_17 : (gi σ6 74 1).toInt = (gi σ4 74 1).toInt := congrArg Int32.toInt (cσ6.2.1 1 (by decide))
          refine ⟨hv_11, ?_⟩
          intro σ9 eσ9
          have mσ9 : MI σ9 := by rw [eσ9]; exact MIs_au (a := 107) mσ6 rfl rfl
          have fσ9 : Fr [74, 106, 107, 108] [1] σ0 σ9 := by rw [eσ9]; exact Fr_si fσ6 (by decide) (fun h9 => absurd h9 (by decide))
          have k_18 : (gi σ9 74 0).toInt = (gi σ6 74 0).toInt := by rw [eσ9]; exact congrArg Int32.toInt (gi_si_ne (Or.inl (by decide)))
          have k_19 : (gi σ9 74 1).toInt = (gi σ6 74 1).toInt := by rw [eσ9]; exact congrArg Int32.toInt (gi_si_ne (Or.inl (by decide)))
          refine ⟨hv_11, ?_⟩
          refine k_X12_most mσ9  (fun r12 σ11 mσ11 cσ11 pσ11_0 => ?_)
          have fσ11 : Fr [74, 106, 107, 108] [1] σ0 σ11 := Fr_tr fσ9 cσ11 (by decide) (by decide)
          have k_20 : (gi σ11 74 0).toInt = (gi σ9 74 0).toInt := congrArg Int32.toInt (cσ11.2.1 0 (by decide))
          have k_21 : (gi σ11 74 1).toInt = (gi σ9 74 1).toInt := congrArg Int32.toInt (cσ11.2.1 1 (by decide))
          refine ⟨hv_11, ?_⟩
          intro σ14 eσ14
          have mσ14 : MI σ14 := by rw [eσ14]; exact MIs_au (a := 108) mσ11 rfl rfl
          have fσ14 : Fr [74, 106, 107, 108] [1] σ0 σ14 := by rw [eσ14]; exact Fr_si fσ11 (by decide) (fun h9 => absurd h9 (by decide))
          have k_22 : (gi σ14 74 0).toInt = (gi σ11 74 0).toInt := by rw [eσ14]; exact congrArg Int32.toInt (gi_si_ne (Or.inl (by decide)))
          have k_23 : (gi σ14 74 1).toInt = (gi σ11 74 1).toInt := by rw [eσ14]; exact congrArg Int32.toInt (gi_si_ne (Or.inl (by decide)))
          intro v15 ev15
          have t_24 : (x1 + (1 : Int32)).toInt = x1.toInt + (1 : Int32).toInt := i_add (by omega) (by omega)
          have t_25 : v15.toInt = (x1 + (1 : Int32)).toInt := congrArg Int32.toInt ev15
          exact ih2 v15 σ14 mσ14 fσ14 (by omega) (by omega) (by first | rfl | assumption | omega) (by omega)
  have U2 := T 9
  have f0 : Fr [74, 106, 107, 108] [1] σ0 σ0 := Fr_rf
  refine s_X12_goWhet_0 C hN ?_
  have t_26 : (0 : Int32).toInt = 0 := rfl
  exact U2 (0 : Int32) σ0 m0 f0 (by omega) (by omega) (by first | rfl | assumption | omega) (by omega)
set_option maxRecDepth 100000 in
set_option maxHeartbeats 4000000 in
theorem k_X12_goPause {l : Launch} {V : Vx} {a1 : Int32} {σ0 : Sg} {Qk : Sg → Prop} (m0 : MI σ0) (l_a1 : 0 ≤ a1.toInt) (u_a1 : a1.toInt ≤ 60) (pre0 : (gi σ0 74 1).toInt ≤ 18000) (h9ret : ∀ (σ' : Sg), MI σ' → Fr [74, 107, 108] [1] σ0 σ' → ((gi σ' 74 1).toInt = (gi σ0 74 1).toInt + a1.toInt) → Qk σ') : K_X12_goPause l V a1 σ0 Qk := by
  refine e_X12_goPause (fun M hl hV hN C => ?_)
  subst hl
  subst hV
  have T : ∀ n : Nat, (∀ (x1 : Int32) (x2 : Int32) (σ : Sg), MI σ → Fr [74, 107, 108] [1] σ0 σ → (0 ≤ x1.toInt) → (x1.toInt ≤ 60) → (0 ≤ x2.toInt) → (x2.toInt ≤ 6) → ((gi σ 74 1).toInt = (gi σ0 74 1).toInt) → (x1.toInt = a1.toInt) → (7 - x2.toInt).toNat < n → PS M 2 [(0, .ref 74), (1, .int x1), (2, .int x2)] [] σ (0, 0)) := by
    intro n
    induction n with
    | zero => exact fun _ _ _ _ _ _ _ _ _ _ _ h8 => absurd h8 (Nat.not_lt_zero _)
    | succ n ih =>
      have ih2 := ih
      · intro x1 x2 σ mσ fσ lx1 ux1 lx2 ux2 i0 i1 hmu
        refine s_X12_goPause_2 C hN ?_
        refine ⟨?_, ?_⟩
        · intro q_1
          have t_2 := MI_f0 mσ
          have b_3 : (gi σ 74 0).toInt ≤ x2.toInt := Int32.le_iff_toInt_le.mp q_1
          intro σ2 eσ2
          have t_4 := MI_f1 mσ
          have t_5 : ((gi σ 74 1) + x1).toInt = (gi σ 74 1).toInt + x1.toInt := i_add (by omega) (by omega)
          have mσ2 : MI σ2 := by rw [eσ2]; exact MIs_f1 mσ (by omega) (by omega)
          have fσ2 : Fr [74, 107, 108] [1] σ0 σ2 := by rw [eσ2]; exact Fr_si fσ (by decide) (fun _ => by decide)
          have k_6 : (gi σ2 74 0).toInt = (gi σ 74 0).toInt := by rw [eσ2]; exact congrArg Int32.toInt (gi_si_ne (Or.inr (by decide)))
          have k_7 : (gi σ2 74 1).toInt = ((gi σ 74 1) + x1).toInt := by rw [eσ2]; exact congrArg Int32.toInt gi_si_eq
          exact h9ret σ2 mσ2 fσ2 (by first | rfl | assumption | omega)
        · intro q_1
          have t_8 := MI_f0 mσ
          have b_9 : ¬ (gi σ 74 0).toInt ≤ x2.toInt := mt Int32.le_iff_toInt_le.mpr q_1
          have hv_10 : vp_in x2 6 := vp_in_iff.mpr ⟨by omega, by omega⟩
          refine ⟨hv_10, ?_⟩
          have t_11 : (0 : Int32).toInt = 0 := rfl
          have t_12 : (3 : Int32).toInt = 3 := rfl
          have t_13 : ((3 : Int32) * x1).toInt = 3 * x1.toInt := i_mull rfl (by omega) (by omega)
          refine k_X12_most mσ  (fun r5 σ4 mσ4 cσ4 pσ4_0 => ?_)
          have fσ4 : Fr [74, 107, 108] [1] σ0 σ4 := Fr_tr fσ cσ4 (by decide) (by decide)
          have k_14 : (gi σ4 74 0).toInt = (gi σ 74 0).toInt := congrArg Int32.toInt (cσ4.2.1 0 (by decide))
          have k_15 : (gi σ4 74 1).toInt = (gi σ 74 1).toInt := congrArg Int32.toInt (cσ4.2.1 1 (by decide))
          refine ⟨hv_10, ?_⟩
          intro σ7 eσ7
          have mσ7 : MI σ7 := by rw [eσ7]; exact MIs_au (a := 107) mσ4 rfl rfl
          have fσ7 : Fr [74, 107, 108] [1] σ0 σ7 := by rw [eσ7]; exact Fr_si fσ4 (by decide) (fun h9 => absurd h9 (by decide))
          have k_16 : (gi σ7 74 0).toInt = (gi σ4 74 0).toInt := by rw [eσ7]; exact congrArg Int32.toInt (gi_si_ne (Or.inl (by decide)))
          have k_17 : (gi σ7 74 1).toInt = (gi σ4 74 1).toInt := by rw [eσ7]; exact congrArg Int32.toInt (gi_si_ne (Or.inl (by decide)))
          refine ⟨hv_10, ?_⟩
          refine k_X12_most mσ7  (fun r10 σ9 mσ9 cσ9 pσ9_0 => ?_)
          have fσ9 : Fr [74, 107, 108] [1] σ0 σ9 := Fr_tr fσ7 cσ9 (by decide) (by decide)
          have k_18 : (gi σ9 74 0).toInt = (gi σ7 74 0).toInt := congrArg Int32.toInt (cσ9.2.1 0 (by decide))
          have k_19 : (gi σ9 74 1).toInt = (gi σ7 74 1).toInt := congrArg Int32.toInt (cσ9.2.1 1 (by decide))
          refine ⟨hv_10, ?_⟩
          intro σ12 eσ12
          have mσ12 : MI σ12 := by rw [eσ12]; exact MIs_au (a := 108) mσ9 rfl rfl
          have fσ12 : Fr [74, 107, 108] [1] σ0 σ12 := by rw [eσ12]; exact Fr_si fσ9 (by decide) (fun h9 => absurd h9 (by decide))
          have k_20 : (gi σ12 74 0).toInt = (gi σ9 74 0).toInt := by rw [eσ12]; exact congrArg Int32.toInt (gi_si_ne (Or.inl (by decide)))
          have k_21 : (gi σ12 74 1).toInt = (gi σ9 74 1).toInt := by rw [eσ12]; exact congrArg Int32.toInt (gi_si_ne (Or.inl (by decide)))
          intro v13 ev13
          have t_22 : (1 : Int32).toInt = 1 := rfl
          have t_23 : (x2 + (1 : Int32)).toInt = x2.toInt + (1 : Int32).toInt := i_add (by omega) (by omega)
          have t_24 : v13.toInt = (x2 + (1 : Int32)).toInt := congrArg Int32.toInt ev13
          exact ih2 x1 v13 σ12 mσ12 fσ12 (by omega) (by omega) (by omega) (by omega) (by first | rfl | assumption | omega) (by first | rfl | assumption | omega) (by omega)
  have U2 := T 9
  have f0 : Fr [74, 107, 108] [1] σ0 σ0 := Fr_rf
  refine s_X12_goPause_0 C hN ?_
  have t_25 : (0 : Int32).toInt = 0 := rfl
  exact U2 a1 (0 : Int32) σ0 m0 f0 (by omega) (by omega) (by omega) (by omega) (by first | rfl | assumption | omega) (by first | rfl | assumption | omega) (by omega)
set_option maxRecDepth 100000 in
set_option maxHeartbeats 4000000 in
theorem k_X12_isDone {l : Launch} {V : Vx} {σ0 : Sg} {Qk : Int32 → Sg → Prop} (m0 : MI σ0) (h9ret : ∀ (r : Int32) (σ' : Sg), MI σ' → Fr [] [] σ0 σ' → (0 ≤ r.toInt) → (r.toInt ≤ 1) → Qk r σ') : K_X12_isDone l V σ0 Qk := by
  refine e_X12_isDone (fun M hl hV hN C => ?_)
  subst hl
  subst hV
  have T : ∀ n : Nat, (∀ (x1 : Int32) (σ : Sg), MI σ → Fr [] [] σ0 σ → (0 ≤ x1.toInt) → (x1.toInt ≤ 6) → (7 - x1.toInt).toNat < n → PS M 2 [(0, .ref 74), (1, .int x1)] [] σ (0, 0)) := by
    intro n
    induction n with
    | zero => exact fun _ _ _ _ _ _ h8 => absurd h8 (Nat.not_lt_zero _)
    | succ n ih =>
      have ih2 := ih
      · intro x1 σ mσ fσ lx1 ux1 hmu
        refine s_X12_isDone_2 C hN ?_
        refine ⟨?_, ?_⟩
        · intro q_1
          have t_2 := MI_f0 mσ
          have b_3 : (gi σ 74 0).toInt ≤ x1.toInt := Int32.le_iff_toInt_le.mp q_1
          have t_4 : (1 : Int32).toInt = 1 := rfl
          exact h9ret (1 : Int32) σ mσ fσ (by omega) (by omega)
        · intro q_1
          have t_5 := MI_f0 mσ
          have b_6 : ¬ (gi σ 74 0).toInt ≤ x1.toInt := mt Int32.le_iff_toInt_le.mpr q_1
          have hv_7 : vp_in x1 6 := vp_in_iff.mpr ⟨by omega, by omega⟩
          refine ⟨hv_7, ?_⟩
          refine k_X12_fieldLong mσ  (fun r4 σ3 mσ3 cσ3 => ?_)
          have fσ3 : Fr [] [] σ0 σ3 := Fr_tr fσ cσ3 (by decide) (by decide)
          have k_8 : (gi σ3 74 0).toInt = (gi σ 74 0).toInt := congrArg Int32.toInt (cσ3.2.1 0 (by decide))
          refine ⟨?_, ?_⟩
          · intro q_9
            have b_10 : r4.toInt ≤ (gi σ 105 x1.toNatClampNeg).toInt := Int32.le_iff_toInt_le.mp q_9
            intro v6 ev6
            have t_11 : (1 : Int32).toInt = 1 := rfl
            have t_12 : (x1 + (1 : Int32)).toInt = x1.toInt + (1 : Int32).toInt := i_add (by omega) (by omega)
            have t_13 : v6.toInt = (x1 + (1 : Int32)).toInt := congrArg Int32.toInt ev6
            exact ih2 v6 σ3 mσ3 fσ3 (by omega) (by omega) (by omega)
          · intro q_9
            have b_14 : ¬ r4.toInt ≤ (gi σ 105 x1.toNatClampNeg).toInt := mt Int32.le_iff_toInt_le.mpr q_9
            have t_15 : (0 : Int32).toInt = 0 := rfl
            exact h9ret (0 : Int32) σ3 mσ3 fσ3 (by omega) (by omega)
  have U2 := T 9
  have f0 : Fr [] [] σ0 σ0 := Fr_rf
  refine s_X12_isDone_0 C hN ?_
  have t_16 : (0 : Int32).toInt = 0 := rfl
  exact U2 (0 : Int32) σ0 m0 f0 (by omega) (by omega) (by omega)
set_option maxRecDepth 100000 in
set_option maxHeartbeats 4000000 in
theorem k_X12_isTape {l : Launch} {V : Vx} {a1 : Int32} {σ0 : Sg} {Qk : Int32 → Sg → Prop} (m0 : MI σ0) (h9ret : ∀ (r : Int32) (σ' : Sg), MI σ' → Fr [] [] σ0 σ' → (0 ≤ r.toInt) → (r.toInt ≤ 1) → ((r.toInt = 1 ∧ 0 ≤ a1.toInt ∧ a1.toInt ≤ 5) ∨ (r.toInt = 0 ∧ (a1.toInt < 0 ∨ 5 < a1.toInt))) → Qk r σ') : K_X12_isTape l V a1 σ0 Qk := by
  refine e_X12_isTape (fun M hl hV hN C => ?_)
  subst hl
  subst hV
  have f0 : Fr [] [] σ0 σ0 := Fr_rf
  refine s_X12_isTape_0 C hN ?_
  have t_1 : (0 : Int32).toInt = 0 := rfl
  have t_2 : (5 : Int32).toInt = 5 := rfl
  refine k_X12_in m0  (fun r2 σ1 mσ1 cσ1 plσ1 phσ1 pσ1_0 => ?_)
  have fσ1 : Fr [] [] σ0 σ1 := Fr_tr f0 cσ1 (by decide) (by decide)
  refine ⟨i_bool (by omega) (by omega), ?_⟩
  exact h9ret r2 σ1 mσ1 fσ1 (by omega) (by omega) (by first | rfl | assumption | omega)
set_option maxRecDepth 100000 in
set_option maxHeartbeats 4000000 in
theorem k_X12_trace {l : Launch} {V : Vx} {a1 : Int32} {σ0 : Sg} {Qk : Int32 → Sg → Prop} (m0 : MI σ0) (h9ret : ∀ (r : Int32) (σ' : Sg), MI σ' → Fr [] [] σ0 σ' → Qk r σ') : K_X12_trace l V a1 σ0 Qk := by
  refine e_X12_trace (fun M hl hV hN C => ?_)
  subst hl
  subst hV
  have f0 : Fr [] [] σ0 σ0 := Fr_rf
  refine s_X12_trace_0 C hN ?_
  have t_1 : (0 : Int32).toInt = 0 := rfl
  have t_2 : (19 : Int32).toInt = 19 := rfl
  refine k_X12_in m0  (fun r2 σ1 mσ1 cσ1 plσ1 phσ1 pσ1_0 => ?_)
  have fσ1 : Fr [] [] σ0 σ1 := Fr_tr f0 cσ1 (by decide) (by decide)
  refine ⟨?_, ?_⟩
  · intro q_3
    have b_4 : r2.toInt = (0 : Int32).toInt := congrArg Int32.toInt q_3
    exact h9ret (-1 : Int32) σ1 mσ1 fσ1
  · intro q_3
    have b_5 : ¬ r2.toInt = (0 : Int32).toInt := fun h9 => q_3 (Int32.toInt_inj.mp h9)
    refine ⟨?_, ?_⟩
    · intro q_6
      have t_7 := MI_f69 mσ1
      have b_8 : (gi σ1 74 69).toInt ≤ a1.toInt := Int32.le_iff_toInt_le.mp q_6
      exact h9ret (-1 : Int32) σ1 mσ1 fσ1
    · intro q_6
      have t_9 := MI_f69 mσ1
      have b_10 : ¬ (gi σ1 74 69).toInt ≤ a1.toInt := mt Int32.le_iff_toInt_le.mpr q_6
      have hv_11 : vp_in a1 20 := vp_in_iff.mpr ⟨by omega, by omega⟩
      refine ⟨hv_11, ?_⟩
      exact h9ret (gi σ1 170 a1.toNatClampNeg) σ1 mσ1 fσ1
set_option maxRecDepth 100000 in
set_option maxHeartbeats 4000000 in
theorem k_X12_count {l : Launch} {V : Vx} {a1 : Int32} {σ0 : Sg} {Qk : Int32 → Sg → Prop} (m0 : MI σ0) (h9ret : ∀ (r : Int32) (σ' : Sg), MI σ' → Fr [] [] σ0 σ' → Qk r σ') : K_X12_count l V a1 σ0 Qk := by
  refine e_X12_count (fun M hl hV hN C => ?_)
  subst hl
  subst hV
  have f0 : Fr [] [] σ0 σ0 := Fr_rf
  refine s_X12_count_0 C hN ?_
  refine ⟨?_, ?_, ?_, ?_, ?_, ?_, ?_, ?_⟩
  · intro q_1
    exact h9ret (-2 : Int32) σ0 m0 f0
  · intro q_1
    exact h9ret (gi σ0 74 0) σ0 m0 f0
  · intro q_1
    exact h9ret (gi σ0 74 11) σ0 m0 f0
  · intro q_1
    exact h9ret (gi σ0 74 41) σ0 m0 f0
  · intro q_1
    exact h9ret (gi σ0 74 45) σ0 m0 f0
  · intro q_1
    exact h9ret (gi σ0 74 46) σ0 m0 f0
  · intro q_1
    exact h9ret (gi σ0 74 13) σ0 m0 f0
  · intro q_1
    exact h9ret (gi σ0 74 69) σ0 m0 f0
set_option maxRecDepth 100000 in
set_option maxHeartbeats 4000000 in
theorem k_X12_narrow {l : Launch} {V : Vx} {a1 : Int32} {a2 : Int64} {σ0 : Sg} {Qk : Int64 → Sg → Prop} (m0 : MI σ0) (h9ret : ∀ (r : Int64) (σ' : Sg), MI σ' → Fr [] [] σ0 σ' → Qk r σ') : K_X12_narrow l V a1 a2 σ0 Qk := by
  refine e_X12_narrow (fun M hl hV hN C => ?_)
  subst hl
  subst hV
  have f0 : Fr [] [] σ0 σ0 := Fr_rf
  refine s_X12_narrow_0 C hN ?_
  refine ⟨?_, ?_⟩
  · intro q_1
    have t_2 : (0 : Int32).toInt = 0 := rfl
    have b_3 : ¬ a1.toInt = (0 : Int32).toInt := fun h9 => q_1 (Int32.toInt_inj.mp h9)
    refine ⟨?_, ?_⟩
    · intro q_4
      have t_5 : (1 : Int32).toInt = 1 := rfl
      have b_6 : ¬ a1.toInt = (1 : Int32).toInt := fun h9 => q_4 (Int32.toInt_inj.mp h9)
      refine ⟨?_, ?_⟩
      · intro q_7
        have t_8 : (2 : Int32).toInt = 2 := rfl
        have b_9 : ¬ a1.toInt = (2 : Int32).toInt := fun h9 => q_7 (Int32.toInt_inj.mp h9)
        refine ⟨?_, ?_⟩
        · intro q_10
          have t_11 : (4 : Int32).toInt = 4 := rfl
          have b_12 : ¬ a1.toInt = (4 : Int32).toInt := fun h9 => q_10 (Int32.toInt_inj.mp h9)
          exact h9ret a2 σ0 m0 f0
        · intro q_10
          have t_13 : (4 : Int32).toInt = 4 := rfl
          have b_14 : a1.toInt = (4 : Int32).toInt := congrArg Int32.toInt q_10
          refine ⟨?_, ?_⟩
          · intro q_15
            exact h9ret (0 : Int64) σ0 m0 f0
          · intro q_15
            exact h9ret (1 : Int64) σ0 m0 f0
      · intro q_7
        have t_16 : (2 : Int32).toInt = 2 := rfl
        have b_17 : a1.toInt = (2 : Int32).toInt := congrArg Int32.toInt q_7
        exact h9ret a2.toInt32.toInt64 σ0 m0 f0
    · intro q_4
      have t_18 : (1 : Int32).toInt = 1 := rfl
      have b_19 : a1.toInt = (1 : Int32).toInt := congrArg Int32.toInt q_4
      exact h9ret a2.toInt32.toInt16.toInt32.toInt64 σ0 m0 f0
  · intro q_1
    have t_20 : (0 : Int32).toInt = 0 := rfl
    have b_21 : a1.toInt = (0 : Int32).toInt := congrArg Int32.toInt q_1
    exact h9ret a2.toInt32.toInt8.toInt32.toInt64 σ0 m0 f0
