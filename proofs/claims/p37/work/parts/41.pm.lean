set_option maxRecDepth 100000 in
set_option maxHeartbeats 4000000 in
theorem k_X12_in {l : Launch} {V : Vx} {a1 : Int32} {a2 : Int32} {a3 : Int32} {σ0 : Sg} {Qk : Int32 → Sg → Prop} (m0 : MI σ0) (h9ret : ∀ (r : Int32) (σ' : Sg), MI σ' → Fr [] [] σ0 σ' → (0 ≤ r.toInt) → (r.toInt ≤ 1) → ((r.toInt = 1 ∧ a2.toInt ≤ a1.toInt ∧ a1.toInt ≤ a3.toInt) ∨ (r.toInt = 0 ∧ (a1.toInt < a2.toInt ∨ a3.toInt < a1.toInt))) → Qk r σ') : K_X12_in l V a1 a2 a3 σ0 Qk := by
  refine e_X12_in (fun M hl hV hN C => ?_)
  subst hl
  subst hV
  have f0 : Fr [] [] σ0 σ0 := Fr_rf
  refine s_X12_in_0 C hN ?_
  refine ⟨?_, ?_⟩
  · intro q_1
    have b_2 : a1.toInt < a2.toInt := Int32.lt_iff_toInt_lt.mp q_1
    have t_3 : (0 : Int32).toInt = 0 := rfl
    exact h9ret (0 : Int32) σ0 m0 f0 (by omega) (by omega) (by first | assumption | omega | simp_all)
  · intro q_1
    have b_4 : ¬ a1.toInt < a2.toInt := mt Int32.lt_iff_toInt_lt.mpr q_1
    refine ⟨?_, ?_⟩
    · intro q_5
      have b_6 : a3.toInt < a1.toInt := Int32.lt_iff_toInt_lt.mp q_5
      have t_7 : (0 : Int32).toInt = 0 := rfl
      exact h9ret (0 : Int32) σ0 m0 f0 (by omega) (by omega) (by first | assumption | omega | simp_all)
    · intro q_5
      have b_8 : ¬ a3.toInt < a1.toInt := mt Int32.lt_iff_toInt_lt.mpr q_5
      have t_9 : (1 : Int32).toInt = 1 := rfl
      exact h9ret (1 : Int32) σ0 m0 f0 (by omega) (by omega) (by first | assumption | omega | simp_all)
set_option maxRecDepth 100000 in
set_option maxHeartbeats 4000000 in
theorem k_X12_has {l : Launch} {V : Vx} {a1 : Int32} {a2 : Int32} {σ0 : Sg} {Qk : Int32 → Sg → Prop} (m0 : MI σ0) (h9ret : ∀ (r : Int32) (σ' : Sg), MI σ' → Fr [] [] σ0 σ' → (0 ≤ r.toInt) → (r.toInt ≤ 1) → Qk r σ') : K_X12_has l V a1 a2 σ0 Qk := by
  refine e_X12_has (fun M hl hV hN C => ?_)
  subst hl
  subst hV
  have f0 : Fr [] [] σ0 σ0 := Fr_rf
  refine s_X12_has_0 C hN ?_
  refine ⟨?_, ?_⟩
  · intro q_1
    have t_2 : (31 : Int32).toInt = 31 := rfl
    have t_3 : (1 : Int32).toInt = 1 := rfl
    have b_4 : ¬ ((a1 >>> (a2 &&& (31 : Int32))) &&& (1 : Int32)).toInt = (1 : Int32).toInt := fun h9 => q_1 (Int32.toInt_inj.mp h9)
    have t_5 : (0 : Int32).toInt = 0 := rfl
    exact h9ret (0 : Int32) σ0 m0 f0 (by omega) (by omega)
  · intro q_1
    have t_6 : (31 : Int32).toInt = 31 := rfl
    have t_7 : (1 : Int32).toInt = 1 := rfl
    have b_8 : ((a1 >>> (a2 &&& (31 : Int32))) &&& (1 : Int32)).toInt = (1 : Int32).toInt := congrArg Int32.toInt q_1
    exact h9ret (1 : Int32) σ0 m0 f0 (by omega) (by omega)
set_option maxRecDepth 100000 in
set_option maxHeartbeats 4000000 in
theorem k_X12_least {l : Launch} {V : Vx} {a1 : Int32} {a2 : Int32} {σ0 : Sg} {Qk : Int32 → Sg → Prop} (m0 : MI σ0) (h9ret : ∀ (r : Int32) (σ' : Sg), MI σ' → Fr [] [] σ0 σ' → (r.toInt ≤ a1.toInt ∧ r.toInt ≤ a2.toInt ∧ (r.toInt = a1.toInt ∨ r.toInt = a2.toInt)) → Qk r σ') : K_X12_least l V a1 a2 σ0 Qk := by
  refine e_X12_least (fun M hl hV hN C => ?_)
  subst hl
  subst hV
  have f0 : Fr [] [] σ0 σ0 := Fr_rf
  refine s_X12_least_0 C hN ?_
  refine ⟨?_, ?_⟩
  · intro q_1
    have b_2 : a2.toInt ≤ a1.toInt := Int32.le_iff_toInt_le.mp q_1
    exact h9ret a2 σ0 m0 f0 (by first | assumption | omega | simp_all)
  · intro q_1
    have b_3 : ¬ a2.toInt ≤ a1.toInt := mt Int32.le_iff_toInt_le.mpr q_1
    exact h9ret a1 σ0 m0 f0 (by first | assumption | omega | simp_all)
set_option maxRecDepth 100000 in
set_option maxHeartbeats 4000000 in
theorem k_X12_most {l : Launch} {V : Vx} {a1 : Int32} {a2 : Int32} {σ0 : Sg} {Qk : Int32 → Sg → Prop} (m0 : MI σ0) (h9ret : ∀ (r : Int32) (σ' : Sg), MI σ' → Fr [] [] σ0 σ' → (a1.toInt ≤ r.toInt ∧ a2.toInt ≤ r.toInt ∧ (r.toInt = a1.toInt ∨ r.toInt = a2.toInt)) → Qk r σ') : K_X12_most l V a1 a2 σ0 Qk := by
  refine e_X12_most (fun M hl hV hN C => ?_)
  subst hl
  subst hV
  have f0 : Fr [] [] σ0 σ0 := Fr_rf
  refine s_X12_most_0 C hN ?_
  refine ⟨?_, ?_⟩
  · intro q_1
    have b_2 : a1.toInt ≤ a2.toInt := Int32.le_iff_toInt_le.mp q_1
    exact h9ret a2 σ0 m0 f0 (by first | assumption | omega | simp_all)
  · intro q_1
    have b_3 : ¬ a1.toInt ≤ a2.toInt := mt Int32.le_iff_toInt_le.mpr q_1
    exact h9ret a1 σ0 m0 f0 (by first | assumption | omega | simp_all)
set_option maxRecDepth 100000 in
set_option maxHeartbeats 4000000 in
theorem k_X12_isMower {l : Launch} {V : Vx} {a1 : Int32} {σ0 : Sg} {Qk : Int32 → Sg → Prop} (m0 : MI σ0) (h9ret : ∀ (r : Int32) (σ' : Sg), MI σ' → Fr [] [] σ0 σ' → (0 ≤ r.toInt) → (r.toInt ≤ 1) → ((r.toInt = 1 ∧ 0 ≤ a1.toInt ∧ a1.toInt < (gi σ0 74 0).toInt) ∨ (r.toInt = 0 ∧ (a1.toInt < 0 ∨ (gi σ0 74 0).toInt ≤ a1.toInt))) → Qk r σ') : K_X12_isMower l V a1 σ0 Qk := by
  refine e_X12_isMower (fun M hl hV hN C => ?_)
  subst hl
  subst hV
  have f0 : Fr [] [] σ0 σ0 := Fr_rf
  refine s_X12_isMower_0 C hN ?_
  have t_1 : (0 : Int32).toInt = 0 := rfl
  have t_2 := MI_f0 m0
  have t_3 : (1 : Int32).toInt = 1 := rfl
  have t_4 : ((gi σ0 74 0) - (1 : Int32)).toInt = (gi σ0 74 0).toInt - (1 : Int32).toInt := i_sub (by omega) (by omega)
  refine k_X12_in m0  (fun r2 σ1 mσ1 cσ1 plσ1 phσ1 pσ1_0 => ?_)
  have fσ1 : Fr [] [] σ0 σ1 := Fr_tr f0 cσ1 (by decide) (by decide)
  refine ⟨i_bool (by omega) (by omega), ?_⟩
  have t_5 := MI_f0 m0
  exact h9ret r2 σ1 mσ1 fσ1 (by omega) (by omega) (by first | assumption | omega | simp_all)
set_option maxRecDepth 100000 in
set_option maxHeartbeats 4000000 in
theorem k_X12_set {l : Launch} {V : Vx} {a1 : Int32} {a2 : Int32} {a3 : Int32} {σ0 : Sg} {Qk : Int32 → Sg → Prop} (m0 : MI σ0) (h9ret : ∀ (r : Int32) (σ' : Sg), MI σ' → Fr [105, 106, 107, 108] [] σ0 σ' → Qk r σ') : K_X12_set l V a1 a2 a3 σ0 Qk := by
  refine e_X12_set (fun M hl hV hN C => ?_)
  subst hl
  subst hV
  have T : ∀ n : Nat, (∀ (x1 : Int32) (x2 : Int32) (x3 : Int32) (z0 : Int32) (z1 : Int32) (z2 : Int32) (σ : Sg), MI σ → Fr [105, 106, 107, 108] [] σ0 σ → (0 ≤ x1.toInt) → (x1.toInt ≤ 5) → 3 < n → PS M 45 [(0, .ref 74), (1, .int x1), (2, .int x2), (3, .int x3)] [.int z0, .int z1, .int z2, .ref 74] σ (0, 0)) ∧ (∀ (x1 : Int32) (x2 : Int32) (x3 : Int32) (x4 : Int32) (σ : Sg), MI σ → Fr [105, 106, 107, 108] [] σ0 σ → (0 ≤ x1.toInt) → (x1.toInt ≤ 5) → 2 < n → PS M 114 [(0, .ref 74), (1, .int x1), (2, .int x2), (3, .int x3), (4, .int x4)] [] σ (0, 0)) ∧ (∀ (x1 : Int32) (x2 : Int32) (x3 : Int32) (x4 : Int32) (σ : Sg), MI σ → Fr [105, 106, 107, 108] [] σ0 σ → (0 ≤ x1.toInt) → (x1.toInt ≤ 5) → 1 < n → PS M 138 [(0, .ref 74), (1, .int x1), (2, .int x2), (3, .int x3), (4, .int x4)] [] σ (0, 0)) := by
    intro n
    induction n with
    | zero => exact ⟨fun _ _ _ _ _ _ _ _ _ _ _ h8 => absurd h8 (Nat.not_lt_zero _), fun _ _ _ _ _ _ _ _ _ h8 => absurd h8 (Nat.not_lt_zero _), fun _ _ _ _ _ _ _ _ _ h8 => absurd h8 (Nat.not_lt_zero _)⟩
    | succ n ih =>
      obtain ⟨ih45, ih114, ih138⟩ := ih
      refine ⟨?_, ?_, ?_⟩
      · intro x1 x2 x3 z0 z1 z2 σ mσ fσ lx1 ux1 hmu
        refine s_X12_set_45 C hN ?_
        refine k_X12_in mσ  (fun r2 σ1 mσ1 cσ1 plσ1 phσ1 pσ1_0 => ?_)
        have fσ1 : Fr [105, 106, 107, 108] [] σ0 σ1 := Fr_tr fσ cσ1 (by decide) (by decide)
        refine ⟨?_, ?_⟩
        · intro q_1
          have t_2 : (0 : Int32).toInt = 0 := rfl
          have b_3 : ¬ r2.toInt = (0 : Int32).toInt := fun h9 => q_1 (Int32.toInt_inj.mp h9)
          refine ⟨?_, ?_⟩
          · intro q_4
            have b_5 : ¬ x2.toInt = (0 : Int32).toInt := fun h9 => q_4 (Int32.toInt_inj.mp h9)
            refine ⟨?_, ?_⟩
            · intro q_6
              have t_7 : (1 : Int32).toInt = 1 := rfl
              have b_8 : ¬ x2.toInt = (1 : Int32).toInt := fun h9 => q_6 (Int32.toInt_inj.mp h9)
              refine ⟨?_, ?_⟩
              · intro q_9
                have t_10 : (2 : Int32).toInt = 2 := rfl
                have b_11 : ¬ x2.toInt = (2 : Int32).toInt := fun h9 => q_9 (Int32.toInt_inj.mp h9)
                have hv_12 : vp_in x1 6 := vp_in_iff.mpr ⟨by omega, by omega⟩
                refine ⟨hv_12, ?_⟩
                intro v8 ev8
                refine ⟨?_, ?_⟩
                · intro q_13
                  have b_14 : ¬ x2.toInt = (0 : Int32).toInt := fun h9 => q_13 (Int32.toInt_inj.mp h9)
                  exact ih114 x1 x2 x3 v8 σ1 mσ1 fσ1 (by omega) (by omega) (by omega)
                · intro q_13
                  have b_15 : x2.toInt = (0 : Int32).toInt := congrArg Int32.toInt q_13
                  refine ⟨hv_12, ?_⟩
                  intro σ11 eσ11
                  have mσ11 : MI σ11 := by rw [eσ11]; exact MIs_au (a := 105) mσ1 rfl rfl
                  have fσ11 : Fr [105, 106, 107, 108] [] σ0 σ11 := by rw [eσ11]; exact Fr_si fσ1 (by decide) (fun h9 => absurd h9 (by decide))
                  exact ih114 x1 x2 x3 v8 σ11 mσ11 fσ11 (by omega) (by omega) (by omega)
              · intro q_9
                have t_16 : (2 : Int32).toInt = 2 := rfl
                have b_17 : x2.toInt = (2 : Int32).toInt := congrArg Int32.toInt q_9
                have hv_18 : vp_in x1 6 := vp_in_iff.mpr ⟨by omega, by omega⟩
                refine ⟨hv_18, ?_⟩
                intro v13 ev13
                refine ⟨?_, ?_⟩
                · intro q_19
                  have b_20 : ¬ x2.toInt = (0 : Int32).toInt := fun h9 => q_19 (Int32.toInt_inj.mp h9)
                  exact ih114 x1 x2 x3 v13 σ1 mσ1 fσ1 (by omega) (by omega) (by omega)
                · intro q_19
                  have b_21 : x2.toInt = (0 : Int32).toInt := congrArg Int32.toInt q_19
                  refine ⟨hv_18, ?_⟩
                  intro σ16 eσ16
                  have mσ16 : MI σ16 := by rw [eσ16]; exact MIs_au (a := 105) mσ1 rfl rfl
                  have fσ16 : Fr [105, 106, 107, 108] [] σ0 σ16 := by rw [eσ16]; exact Fr_si fσ1 (by decide) (fun h9 => absurd h9 (by decide))
                  exact ih114 x1 x2 x3 v13 σ16 mσ16 fσ16 (by omega) (by omega) (by omega)
            · intro q_6
              have t_22 : (1 : Int32).toInt = 1 := rfl
              have b_23 : x2.toInt = (1 : Int32).toInt := congrArg Int32.toInt q_6
              have hv_24 : vp_in x1 6 := vp_in_iff.mpr ⟨by omega, by omega⟩
              refine ⟨hv_24, ?_⟩
              intro v18 ev18
              refine ⟨?_, ?_⟩
              · intro q_25
                have b_26 : ¬ x2.toInt = (0 : Int32).toInt := fun h9 => q_25 (Int32.toInt_inj.mp h9)
                exact ih114 x1 x2 x3 v18 σ1 mσ1 fσ1 (by omega) (by omega) (by omega)
              · intro q_25
                have b_27 : x2.toInt = (0 : Int32).toInt := congrArg Int32.toInt q_25
                refine ⟨hv_24, ?_⟩
                intro σ21 eσ21
                have mσ21 : MI σ21 := by rw [eσ21]; exact MIs_au (a := 105) mσ1 rfl rfl
                have fσ21 : Fr [105, 106, 107, 108] [] σ0 σ21 := by rw [eσ21]; exact Fr_si fσ1 (by decide) (fun h9 => absurd h9 (by decide))
                exact ih114 x1 x2 x3 v18 σ21 mσ21 fσ21 (by omega) (by omega) (by omega)
          · intro q_4
            have b_28 : x2.toInt = (0 : Int32).toInt := congrArg Int32.toInt q_4
            have hv_29 : vp_in x1 6 := vp_in_iff.mpr ⟨by omega, by omega⟩
            refine ⟨hv_29, ?_⟩
            intro v23 ev23
            refine ⟨?_, ?_⟩
            · intro q_30
              have b_31 : ¬ x2.toInt = (0 : Int32).toInt := fun h9 => q_30 (Int32.toInt_inj.mp h9)
              exact ih114 x1 x2 x3 v23 σ1 mσ1 fσ1 (by omega) (by omega) (by omega)
            · intro q_30
              have b_32 : x2.toInt = (0 : Int32).toInt := congrArg Int32.toInt q_30
              refine ⟨hv_29, ?_⟩
              intro σ26 eσ26
              have mσ26 : MI σ26 := by rw [eσ26]; exact MIs_au (a := 105) mσ1 rfl rfl
              have fσ26 : Fr [105, 106, 107, 108] [] σ0 σ26 := by rw [eσ26]; exact Fr_si fσ1 (by decide) (fun h9 => absurd h9 (by decide))
              exact ih114 x1 x2 x3 v23 σ26 mσ26 fσ26 (by omega) (by omega) (by omega)
        · intro q_1
          have t_33 : (0 : Int32).toInt = 0 := rfl
          have b_34 : r2.toInt = (0 : Int32).toInt := congrArg Int32.toInt q_1
          exact h9ret (-2 : Int32) σ1 mσ1 fσ1
      · intro x1 x2 x3 x4 σ mσ fσ lx1 ux1 hmu
        refine s_X12_set_114 C hN ?_
        refine ⟨?_, ?_⟩
        · intro q_35
          have t_36 : (1 : Int32).toInt = 1 := rfl
          have b_37 : ¬ x2.toInt = (1 : Int32).toInt := fun h9 => q_35 (Int32.toInt_inj.mp h9)
          refine ⟨?_, ?_⟩
          · intro q_38
            have t_39 : (2 : Int32).toInt = 2 := rfl
            have b_40 : ¬ x2.toInt = (2 : Int32).toInt := fun h9 => q_38 (Int32.toInt_inj.mp h9)
            exact ih138 x1 x2 x3 x4 σ mσ fσ (by omega) (by omega) (by omega)
          · intro q_38
            have t_41 : (2 : Int32).toInt = 2 := rfl
            have b_42 : x2.toInt = (2 : Int32).toInt := congrArg Int32.toInt q_38
            have hv_43 : vp_in x1 6 := vp_in_iff.mpr ⟨by omega, by omega⟩
            refine ⟨hv_43, ?_⟩
            intro σ4 eσ4
            have mσ4 : MI σ4 := by rw [eσ4]; exact MIs_au (a := 107) mσ rfl rfl
            have fσ4 : Fr [105, 106, 107, 108] [] σ0 σ4 := by rw [eσ4]; exact Fr_si fσ (by decide) (fun h9 => absurd h9 (by decide))
            exact ih138 x1 x2 x3 x4 σ4 mσ4 fσ4 (by omega) (by omega) (by omega)
        · intro q_35
          have t_44 : (1 : Int32).toInt = 1 := rfl
          have b_45 : x2.toInt = (1 : Int32).toInt := congrArg Int32.toInt q_35
          have hv_46 : vp_in x1 6 := vp_in_iff.mpr ⟨by omega, by omega⟩
          refine ⟨hv_46, ?_⟩
          intro σ6 eσ6
          have mσ6 : MI σ6 := by rw [eσ6]; exact MIs_au (a := 106) mσ rfl rfl
          have fσ6 : Fr [105, 106, 107, 108] [] σ0 σ6 := by rw [eσ6]; exact Fr_si fσ (by decide) (fun h9 => absurd h9 (by decide))
          refine ⟨?_, ?_⟩
          · intro q_47
            have t_48 : (2 : Int32).toInt = 2 := rfl
            have b_49 : ¬ x2.toInt = (2 : Int32).toInt := fun h9 => q_47 (Int32.toInt_inj.mp h9)
            exact ih138 x1 x2 x3 x4 σ6 mσ6 fσ6 (by omega) (by omega) (by omega)
          · intro q_47
            have t_50 : (2 : Int32).toInt = 2 := rfl
            have b_51 : x2.toInt = (2 : Int32).toInt := congrArg Int32.toInt q_47
            refine ⟨hv_46, ?_⟩
            intro σ9 eσ9
            have mσ9 : MI σ9 := by rw [eσ9]; exact MIs_au (a := 107) mσ6 rfl rfl
            have fσ9 : Fr [105, 106, 107, 108] [] σ0 σ9 := by rw [eσ9]; exact Fr_si fσ6 (by decide) (fun h9 => absurd h9 (by decide))
            exact ih138 x1 x2 x3 x4 σ9 mσ9 fσ9 (by omega) (by omega) (by omega)
      · intro x1 x2 x3 x4 σ mσ fσ lx1 ux1 hmu
        refine s_X12_set_138 C hN ?_
        refine ⟨?_, ?_⟩
        · intro q_52
          have t_53 : (3 : Int32).toInt = 3 := rfl
          have b_54 : ¬ x2.toInt = (3 : Int32).toInt := fun h9 => q_52 (Int32.toInt_inj.mp h9)
          exact h9ret x4 σ mσ fσ
        · intro q_52
          have t_55 : (3 : Int32).toInt = 3 := rfl
          have b_56 : x2.toInt = (3 : Int32).toInt := congrArg Int32.toInt q_52
          have hv_57 : vp_in x1 6 := vp_in_iff.mpr ⟨by omega, by omega⟩
          refine ⟨hv_57, ?_⟩
          intro σ3 eσ3
          have mσ3 : MI σ3 := by rw [eσ3]; exact MIs_au (a := 108) mσ rfl rfl
          have fσ3 : Fr [105, 106, 107, 108] [] σ0 σ3 := by rw [eσ3]; exact Fr_si fσ (by decide) (fun h9 => absurd h9 (by decide))
          exact h9ret x4 σ3 mσ3 fσ3
  obtain ⟨U45, U114, U138⟩ := T 9
  have f0 : Fr [105, 106, 107, 108] [] σ0 σ0 := Fr_rf
  refine s_X12_set_0 C hN ?_
  refine k_X12_isMower m0  (fun r2 σ1 mσ1 cσ1 plσ1 phσ1 pσ1_0 => ?_)
  have fσ1 : Fr [105, 106, 107, 108] [] σ0 σ1 := Fr_tr f0 cσ1 (by decide) (by decide)
  have t_58 := MI_f0 m0
  refine ⟨?_, ?_⟩
  · intro q_59
    have t_60 : (0 : Int32).toInt = 0 := rfl
    have b_61 : r2.toInt = (0 : Int32).toInt := congrArg Int32.toInt q_59
    exact h9ret (-1 : Int32) σ1 mσ1 fσ1
  · intro q_59
    have t_62 : (0 : Int32).toInt = 0 := rfl
    have b_63 : ¬ r2.toInt = (0 : Int32).toInt := fun h9 => q_59 (Int32.toInt_inj.mp h9)
    have t_64 : (3 : Int32).toInt = 3 := rfl
    refine k_X12_in mσ1  (fun r5 σ4 mσ4 cσ4 plσ4 phσ4 pσ4_0 => ?_)
    have fσ4 : Fr [105, 106, 107, 108] [] σ0 σ4 := Fr_tr fσ1 cσ4 (by decide) (by decide)
    refine ⟨?_, ?_⟩
    · intro q_65
      have b_66 : ¬ r5.toInt = (0 : Int32).toInt := fun h9 => q_65 (Int32.toInt_inj.mp h9)
      refine ⟨?_, ?_⟩
      · intro q_67
        have b_68 : ¬ a2.toInt = (0 : Int32).toInt := fun h9 => q_67 (Int32.toInt_inj.mp h9)
        refine ⟨?_, ?_⟩
        · intro q_69
          have t_70 : (1 : Int32).toInt = 1 := rfl
          have b_71 : ¬ a2.toInt = (1 : Int32).toInt := fun h9 => q_69 (Int32.toInt_inj.mp h9)
          have t_72 : (99 : Int32).toInt = 99 := rfl
          exact U45 a1 a2 a3 (99 : Int32) (0 : Int32) a3 σ4 mσ4 fσ4 (by omega) (by omega) (by omega)
        · intro q_69
          have t_73 : (1 : Int32).toInt = 1 := rfl
          have b_74 : a2.toInt = (1 : Int32).toInt := congrArg Int32.toInt q_69
          have t_75 : (10 : Int32).toInt = 10 := rfl
          exact U45 a1 a2 a3 (10 : Int32) (0 : Int32) a3 σ4 mσ4 fσ4 (by omega) (by omega) (by omega)
      · intro q_67
        have b_76 : a2.toInt = (0 : Int32).toInt := congrArg Int32.toInt q_67
        have t_77 : (9999 : Int32).toInt = 9999 := rfl
        exact U45 a1 a2 a3 (9999 : Int32) (0 : Int32) a3 σ4 mσ4 fσ4 (by omega) (by omega) (by omega)
    · intro q_65
      have b_78 : r5.toInt = (0 : Int32).toInt := congrArg Int32.toInt q_65
      exact h9ret (-1 : Int32) σ4 mσ4 fσ4
set_option maxRecDepth 100000 in
set_option maxHeartbeats 4000000 in
theorem k_X12_row {l : Launch} {V : Vx} {a1 : Int32} {a2 : Int32} {a3 : Int32} {σ0 : Sg} {Qk : Int32 → Sg → Prop} (m0 : MI σ0) (h9ret : ∀ (r : Int32) (σ' : Sg), MI σ' → Fr [109] [] σ0 σ' → Qk r σ') : K_X12_row l V a1 a2 a3 σ0 Qk := by
  refine e_X12_row (fun M hl hV hN C => ?_)
  subst hl
  subst hV
  have f0 : Fr [109] [] σ0 σ0 := Fr_rf
  refine s_X12_row_0 C hN ?_
  refine k_X12_isMower m0  (fun r2 σ1 mσ1 cσ1 plσ1 phσ1 pσ1_0 => ?_)
  have fσ1 : Fr [109] [] σ0 σ1 := Fr_tr f0 cσ1 (by decide) (by decide)
  have t_1 := MI_f0 m0
  refine ⟨?_, ?_⟩
  · intro q_2
    have t_3 : (0 : Int32).toInt = 0 := rfl
    have b_4 : r2.toInt = (0 : Int32).toInt := congrArg Int32.toInt q_2
    exact h9ret (-1 : Int32) σ1 mσ1 fσ1
  · intro q_2
    have t_5 : (0 : Int32).toInt = 0 := rfl
    have b_6 : ¬ r2.toInt = (0 : Int32).toInt := fun h9 => q_2 (Int32.toInt_inj.mp h9)
    have t_7 : (3 : Int32).toInt = 3 := rfl
    refine k_X12_in mσ1  (fun r5 σ4 mσ4 cσ4 plσ4 phσ4 pσ4_0 => ?_)
    have fσ4 : Fr [109] [] σ0 σ4 := Fr_tr fσ1 cσ4 (by decide) (by decide)
    refine ⟨?_, ?_⟩
    · intro q_8
      have b_9 : ¬ r5.toInt = (0 : Int32).toInt := fun h9 => q_8 (Int32.toInt_inj.mp h9)
      have t_10 : (9 : Int32).toInt = 9 := rfl
      refine k_X12_in mσ4  (fun r8 σ7 mσ7 cσ7 plσ7 phσ7 pσ7_0 => ?_)
      have fσ7 : Fr [109] [] σ0 σ7 := Fr_tr fσ4 cσ7 (by decide) (by decide)
      refine ⟨?_, ?_⟩
      · intro q_11
        have b_12 : ¬ r8.toInt = (0 : Int32).toInt := fun h9 => q_11 (Int32.toInt_inj.mp h9)
        have hv_13 : vp_in a1 6 := vp_in_iff.mpr ⟨by omega, by omega⟩
        refine ⟨hv_13, ?_⟩
        refine ⟨?_, ?_⟩
        · intro q_14
          have t_15 : (6 : Int32).toInt = 6 := rfl
          have b_16 : (gi σ7 103 a1.toNatClampNeg).toInt = (6 : Int32).toInt := congrArg Int32.toInt q_14
          have t_17 : (4 : Int32).toInt = 4 := rfl
          have hv_18 : vp_in (((4 : Int32) * a1) + a2) 24 := vp_in_iff.mpr ⟨by omega, by omega⟩
          refine ⟨hv_18, ?_⟩
          intro v13 ev13
          refine ⟨hv_18, ?_⟩
          intro σ15 eσ15
          have mσ15 : MI σ15 := by rw [eσ15]; exact MIs_au (a := 109) mσ7 rfl rfl
          have fσ15 : Fr [109] [] σ0 σ15 := by rw [eσ15]; exact Fr_si fσ7 (by decide) (fun h9 => absurd h9 (by decide))
          exact h9ret v13 σ15 mσ15 fσ15
        · intro q_14
          have t_19 : (6 : Int32).toInt = 6 := rfl
          have b_20 : ¬ (gi σ7 103 a1.toNatClampNeg).toInt = (6 : Int32).toInt := fun h9 => q_14 (Int32.toInt_inj.mp h9)
          exact h9ret (-3 : Int32) σ7 mσ7 fσ7
      · intro q_11
        have b_21 : r8.toInt = (0 : Int32).toInt := congrArg Int32.toInt q_11
        exact h9ret (-2 : Int32) σ7 mσ7 fσ7
    · intro q_8
      have b_22 : r5.toInt = (0 : Int32).toInt := congrArg Int32.toInt q_8
      exact h9ret (-1 : Int32) σ4 mσ4 fσ4
set_option maxRecDepth 100000 in
set_option maxHeartbeats 4000000 in
theorem k_X12_feed {l : Launch} {V : Vx} {a1 : Int32} {σ0 : Sg} {Qk : Int32 → Sg → Prop} (m0 : MI σ0) (h9ret : ∀ (r : Int32) (σ' : Sg), MI σ' → Fr [74, 116] [13] σ0 σ' → Qk r σ') : K_X12_feed l V a1 σ0 Qk := by
  refine e_X12_feed (fun M hl hV hN C => ?_)
  subst hl
  subst hV
  have f0 : Fr [74, 116] [13] σ0 σ0 := Fr_rf
  refine s_X12_feed_0 C hN ?_
  have t_1 : (0 : Int32).toInt = 0 := rfl
  have t_2 : (127 : Int32).toInt = 127 := rfl
  refine k_X12_in m0  (fun r2 σ1 mσ1 cσ1 plσ1 phσ1 pσ1_0 => ?_)
  have fσ1 : Fr [74, 116] [13] σ0 σ1 := Fr_tr f0 cσ1 (by decide) (by decide)
  refine ⟨?_, ?_⟩
  · intro q_3
    have b_4 : ¬ r2.toInt = (0 : Int32).toInt := fun h9 => q_3 (Int32.toInt_inj.mp h9)
    refine ⟨?_, ?_⟩
    · intro q_5
      have t_6 := MI_f13 mσ1
      have t_7 : (100 : Int32).toInt = 100 := rfl
      have b_8 : ¬ (gi σ1 74 13).toInt = (100 : Int32).toInt := fun h9 => q_5 (Int32.toInt_inj.mp h9)
      have hv_9 : vp_in (gi σ1 74 13) 100 := vp_in_iff.mpr ⟨by omega, by omega⟩
      refine ⟨hv_9, ?_⟩
      intro σ6 eσ6
      have mσ6 : MI σ6 := by rw [eσ6]; exact MIs_au (a := 116) mσ1 rfl rfl
      have fσ6 : Fr [74, 116] [13] σ0 σ6 := by rw [eσ6]; exact Fr_si fσ1 (by decide) (fun h9 => absurd h9 (by decide))
      intro σ7 eσ7
      have t_10 := MI_f13 mσ6
      have t_11 : (1 : Int32).toInt = 1 := rfl
      have t_12 : ((gi σ6 74 13) + (1 : Int32)).toInt = (gi σ6 74 13).toInt + (1 : Int32).toInt := i_add (by omega) (by omega)
      have mσ7 : MI σ7 := by rw [eσ7]; exact MIs_f13 mσ6 (by omega) (by omega)
      have fσ7 : Fr [74, 116] [13] σ0 σ7 := by rw [eσ7]; exact Fr_si fσ6 (by decide) (fun _ => by decide)
      exact h9ret (gi σ7 74 13) σ7 mσ7 fσ7
    · intro q_5
      have t_13 := MI_f13 mσ1
      have t_14 : (100 : Int32).toInt = 100 := rfl
      have b_15 : (gi σ1 74 13).toInt = (100 : Int32).toInt := congrArg Int32.toInt q_5
      exact h9ret (-4 : Int32) σ1 mσ1 fσ1
  · intro q_3
    have b_16 : r2.toInt = (0 : Int32).toInt := congrArg Int32.toInt q_3
    exact h9ret (-2 : Int32) σ1 mσ1 fσ1
set_option maxRecDepth 100000 in
set_option maxHeartbeats 4000000 in
theorem k_X12_next {l : Launch} {V : Vx} {σ0 : Sg} {Qk : Int32 → Sg → Prop} (m0 : MI σ0) (h9ret : ∀ (r : Int32) (σ' : Sg), MI σ' → Fr [] [] σ0 σ' → Qk r σ') : K_X12_next l V σ0 Qk := by
  refine e_X12_next (fun M hl hV hN C => ?_)
  subst hl
  subst hV
  have f0 : Fr [] [] σ0 σ0 := Fr_rf
  refine s_X12_next_0 C hN ?_
  refine ⟨?_, ?_⟩
  · intro q_1
    have t_2 := MI_f13 m0
    have t_3 := MI_f14 m0
    have b_4 : (gi σ0 74 13).toInt ≤ (gi σ0 74 14).toInt := Int32.le_iff_toInt_le.mp q_1
    exact h9ret (-1 : Int32) σ0 m0 f0
  · intro q_1
    have t_5 := MI_f13 m0
    have t_6 := MI_f14 m0
    have b_7 : ¬ (gi σ0 74 13).toInt ≤ (gi σ0 74 14).toInt := mt Int32.le_iff_toInt_le.mpr q_1
    have hv_8 : vp_in (gi σ0 74 14) 100 := vp_in_iff.mpr ⟨by omega, by omega⟩
    refine ⟨hv_8, ?_⟩
    exact h9ret (gi σ0 116 (gi σ0 74 14).toNatClampNeg) σ0 m0 f0
set_option maxRecDepth 100000 in
set_option maxHeartbeats 4000000 in
theorem k_X12_begin {l : Launch} {V : Vx} {σ0 : Sg} {Qk : Int32 → Sg → Prop} (m0 : MI σ0) (h9ret : ∀ (r : Int32) (σ' : Sg), MI σ' → Fr [] [] σ0 σ' → (0 ≤ r.toInt) → (r.toInt ≤ 50) → (((gi σ0 74 12).toInt < 0 ∧ r.toInt = 0) ∨ (0 ≤ (gi σ0 74 12).toInt ∧ r.toInt = 10 * (gi σ0 74 12).toInt)) → Qk r σ') : K_X12_begin l V σ0 Qk := by
  refine e_X12_begin (fun M hl hV hN C => ?_)
  subst hl
  subst hV
  have f0 : Fr [] [] σ0 σ0 := Fr_rf
  refine s_X12_begin_0 C hN ?_
  refine ⟨?_, ?_⟩
  · intro q_1
    have t_2 : (0 : Int32).toInt = 0 := rfl
    have t_3 := MI_f12 m0
    have b_4 : (0 : Int32).toInt ≤ (gi σ0 74 12).toInt := Int32.le_iff_toInt_le.mp q_1
    have t_5 : (10 : Int32).toInt = 10 := rfl
    have t_6 : ((10 : Int32) * (gi σ0 74 12)).toInt = 10 * (gi σ0 74 12).toInt := i_mull rfl (by omega) (by omega)
    have t_7 := MI_f12 m0
    exact h9ret ((10 : Int32) * (gi σ0 74 12)) σ0 m0 f0 (by omega) (by omega) (by first | assumption | omega | simp_all)
  · intro q_1
    have t_8 : (0 : Int32).toInt = 0 := rfl
    have t_9 := MI_f12 m0
    have b_10 : ¬ (0 : Int32).toInt ≤ (gi σ0 74 12).toInt := mt Int32.le_iff_toInt_le.mpr q_1
    have t_11 := MI_f12 m0
    exact h9ret (0 : Int32) σ0 m0 f0 (by omega) (by omega) (by first | assumption | omega | simp_all)
set_option maxRecDepth 100000 in
set_option maxHeartbeats 4000000 in
theorem k_X12_behind {l : Launch} {V : Vx} {σ0 : Sg} {Qk : Int32 → Sg → Prop} (m0 : MI σ0) (h9ret : ∀ (r : Int32) (σ' : Sg), MI σ' → Fr [] [] σ0 σ' → (0 ≤ r.toInt) → (r.toInt ≤ 60) → (((gi σ0 74 12).toInt < 0 ∧ r.toInt = 0) ∨ (0 ≤ (gi σ0 74 12).toInt ∧ r.toInt = 10 * (gi σ0 74 12).toInt + (gi σ0 117 (gi σ0 74 12).toNatClampNeg).toInt)) → Qk r σ') : K_X12_behind l V σ0 Qk := by
  refine e_X12_behind (fun M hl hV hN C => ?_)
  subst hl
  subst hV
  have f0 : Fr [] [] σ0 σ0 := Fr_rf
  refine s_X12_behind_0 C hN ?_
  refine ⟨?_, ?_⟩
  · intro q_1
    have t_2 : (0 : Int32).toInt = 0 := rfl
    have t_3 := MI_f12 m0
    have b_4 : (0 : Int32).toInt ≤ (gi σ0 74 12).toInt := Int32.le_iff_toInt_le.mp q_1
    have hv_5 : vp_in (gi σ0 74 12) 6 := vp_in_iff.mpr ⟨by omega, by omega⟩
    refine ⟨hv_5, ?_⟩
    have t_6 : (10 : Int32).toInt = 10 := rfl
    have t_7 : ((10 : Int32) * (gi σ0 74 12)).toInt = 10 * (gi σ0 74 12).toInt := i_mull rfl (by omega) (by omega)
    have t_8 := MI_a117 m0 hv_5
    have t_9 : (((10 : Int32) * (gi σ0 74 12)) + (gi σ0 117 (gi σ0 74 12).toNatClampNeg)).toInt = ((10 : Int32) * (gi σ0 74 12)).toInt + (gi σ0 117 (gi σ0 74 12).toNatClampNeg).toInt := i_add (by omega) (by omega)
    have t_10 := MI_f12 m0
    exact h9ret (((10 : Int32) * (gi σ0 74 12)) + (gi σ0 117 (gi σ0 74 12).toNatClampNeg)) σ0 m0 f0 (by omega) (by omega) (by first | assumption | omega | simp_all)
  · intro q_1
    have t_11 : (0 : Int32).toInt = 0 := rfl
    have t_12 := MI_f12 m0
    have b_13 : ¬ (0 : Int32).toInt ≤ (gi σ0 74 12).toInt := mt Int32.le_iff_toInt_le.mpr q_1
    have t_14 := MI_f12 m0
    exact h9ret (0 : Int32) σ0 m0 f0 (by omega) (by omega) (by first | assumption | omega | simp_all)
set_option maxRecDepth 100000 in
set_option maxHeartbeats 4000000 in
theorem k_X12_save {l : Launch} {V : Vx} {σ0 : Sg} {Qk : Sg → Prop} (m0 : MI σ0) (h9ret : ∀ (σ' : Sg), MI σ' → Fr [74, 132, 134, 135, 136, 137] [33] σ0 σ' → ((gi σ' 74 33).toInt = (gi σ0 74 1).toInt) → Qk σ') : K_X12_save l V σ0 Qk := by
  refine e_X12_save (fun M hl hV hN C => ?_)
  subst hl
  subst hV
  have T : ∀ n : Nat, (∀ (x1 : Int32) (σ : Sg), MI σ → Fr [74, 132, 134, 135, 136, 137] [33] σ0 σ → (0 ≤ x1.toInt) → (x1.toInt ≤ 6) → ((gi σ 74 33).toInt = (gi σ0 74 1).toInt) → (7 - x1.toInt).toNat < n → PS M 10 [(0, .ref 74), (1, .int x1)] [] σ (0, 0)) := by
    intro n
    induction n with
    | zero => exact fun _ _ _ _ _ _ _ h8 => absurd h8 (Nat.not_lt_zero _)
    | succ n ih =>
      have ih10 := ih
      · intro x1 σ mσ fσ lx1 ux1 i0 hmu
        refine s_X12_save_10 C hN ?_
        refine ⟨?_, ?_⟩
        · intro q_1
          have t_2 : (6 : Int32).toInt = 6 := rfl
          have b_3 : (6 : Int32).toInt ≤ x1.toInt := Int32.le_iff_toInt_le.mp q_1
          exact h9ret σ mσ fσ (by first | assumption | omega | simp_all)
        · intro q_1
          have t_4 : (6 : Int32).toInt = 6 := rfl
          have b_5 : ¬ (6 : Int32).toInt ≤ x1.toInt := mt Int32.le_iff_toInt_le.mpr q_1
          have hv_6 : vp_in x1 6 := vp_in_iff.mpr ⟨by omega, by omega⟩
          refine ⟨hv_6, ?_⟩
          refine ⟨hv_6, ?_⟩
          intro σ4 eσ4
          have mσ4 : MI σ4 := by rw [eσ4]; exact MIs_au (a := 134) mσ rfl rfl
          have fσ4 : Fr [74, 132, 134, 135, 136, 137] [33] σ0 σ4 := by rw [eσ4]; exact Fr_si fσ (by decide) (fun h9 => absurd h9 (by decide))
          have k_7 : (gi σ4 74 1).toInt = (gi σ 74 1).toInt := by rw [eσ4]; exact congrArg Int32.toInt (gi_si_ne (Or.inl (by decide)))
          have k_8 : (gi σ4 74 33).toInt = (gi σ 74 33).toInt := by rw [eσ4]; exact congrArg Int32.toInt (gi_si_ne (Or.inl (by decide)))
          refine ⟨hv_6, ?_⟩
          refine ⟨hv_6, ?_⟩
          intro σ7 eσ7
          have mσ7 : MI σ7 := by rw [eσ7]; exact MIs_au (a := 135) mσ4 rfl rfl
          have fσ7 : Fr [74, 132, 134, 135, 136, 137] [33] σ0 σ7 := by rw [eσ7]; exact Fr_si fσ4 (by decide) (fun h9 => absurd h9 (by decide))
          have k_9 : (gi σ7 74 1).toInt = (gi σ4 74 1).toInt := by rw [eσ7]; exact congrArg Int32.toInt (gi_si_ne (Or.inl (by decide)))
          have k_10 : (gi σ7 74 33).toInt = (gi σ4 74 33).toInt := by rw [eσ7]; exact congrArg Int32.toInt (gi_si_ne (Or.inl (by decide)))
          refine ⟨hv_6, ?_⟩
          refine ⟨hv_6, ?_⟩
          intro σ10 eσ10
          have mσ10 : MI σ10 := by rw [eσ10]; exact MIs_au (a := 136) mσ7 rfl rfl
          have fσ10 : Fr [74, 132, 134, 135, 136, 137] [33] σ0 σ10 := by rw [eσ10]; exact Fr_si fσ7 (by decide) (fun h9 => absurd h9 (by decide))
          have k_11 : (gi σ10 74 1).toInt = (gi σ7 74 1).toInt := by rw [eσ10]; exact congrArg Int32.toInt (gi_si_ne (Or.inl (by decide)))
          have k_12 : (gi σ10 74 33).toInt = (gi σ7 74 33).toInt := by rw [eσ10]; exact congrArg Int32.toInt (gi_si_ne (Or.inl (by decide)))
          refine ⟨hv_6, ?_⟩
          refine ⟨hv_6, ?_⟩
          intro σ13 eσ13
          have mσ13 : MI σ13 := by rw [eσ13]; exact MIs_au (a := 137) mσ10 rfl rfl
          have fσ13 : Fr [74, 132, 134, 135, 136, 137] [33] σ0 σ13 := by rw [eσ13]; exact Fr_si fσ10 (by decide) (fun h9 => absurd h9 (by decide))
          have k_13 : (gi σ13 74 1).toInt = (gi σ10 74 1).toInt := by rw [eσ13]; exact congrArg Int32.toInt (gi_si_ne (Or.inl (by decide)))
          have k_14 : (gi σ13 74 33).toInt = (gi σ10 74 33).toInt := by rw [eσ13]; exact congrArg Int32.toInt (gi_si_ne (Or.inl (by decide)))
          refine ⟨hv_6, ?_⟩
          intro σ15 eσ15
          have mσ15 : MI σ15 := by rw [eσ15]; exact MIs_au (a := 132) mσ13 rfl rfl
          have fσ15 : Fr [74, 132, 134, 135, 136, 137] [33] σ0 σ15 := by rw [eσ15]; exact Fr_si fσ13 (by decide) (fun h9 => absurd h9 (by decide))
          have k_15 : (gi σ15 74 1).toInt = (gi σ13 74 1).toInt := by rw [eσ15]; exact congrArg Int32.toInt (gi_si_ne (Or.inl (by decide)))
          have k_16 : (gi σ15 74 33).toInt = (gi σ13 74 33).toInt := by rw [eσ15]; exact congrArg Int32.toInt (gi_si_ne (Or.inl (by decide)))
          intro v16 ev16
          have t_17 : (1 : Int32).toInt = 1 := rfl
          have t_18 : (x1 + (1 : Int32)).toInt = x1.toInt + (1 : Int32).toInt := i_add (by omega) (by omega)
          have t_19 : v16.toInt = (x1 + (1 : Int32)).toInt := congrArg Int32.toInt ev16
          exact ih10 v16 σ15 mσ15 fσ15 (by omega) (by omega) (by first | assumption | omega | simp_all) (by omega)
  have U10 := T 9
  have f0 : Fr [74, 132, 134, 135, 136, 137] [33] σ0 σ0 := Fr_rf
  refine s_X12_save_0 C hN ?_
  intro σ1 eσ1
  have t_20 := MI_f1 m0
  have mσ1 : MI σ1 := by rw [eσ1]; exact MIs_f33 m0 (by omega) (by omega)
  have fσ1 : Fr [74, 132, 134, 135, 136, 137] [33] σ0 σ1 := by rw [eσ1]; exact Fr_si f0 (by decide) (fun _ => by decide)
  have k_21 : (gi σ1 74 1).toInt = (gi σ0 74 1).toInt := by rw [eσ1]; exact congrArg Int32.toInt (gi_si_ne (Or.inr (by decide)))
  have k_22 : (gi σ1 74 33).toInt = (gi σ0 74 1).toInt := by rw [eσ1]; exact congrArg Int32.toInt gi_si_eq
  have t_23 : (0 : Int32).toInt = 0 := rfl
  exact U10 (0 : Int32) σ1 mσ1 fσ1 (by omega) (by omega) (by first | assumption | omega | simp_all) (by omega)
set_option maxRecDepth 100000 in
set_option maxHeartbeats 4000000 in
theorem k_X12_putBack {l : Launch} {V : Vx} {σ0 : Sg} {Qk : Sg → Prop} (m0 : MI σ0) (h9ret : ∀ (σ' : Sg), MI σ' → Fr [74, 105, 106, 107, 108] [1] σ0 σ' → ((gi σ' 74 1).toInt = (gi σ0 74 33).toInt) → Qk σ') : K_X12_putBack l V σ0 Qk := by
  refine e_X12_putBack (fun M hl hV hN C => ?_)
  subst hl
  subst hV
  have T : ∀ n : Nat, (∀ (x1 : Int32) (σ : Sg), MI σ → Fr [74, 105, 106, 107, 108] [1] σ0 σ → (0 ≤ x1.toInt) → (x1.toInt ≤ 6) → ((gi σ 74 1).toInt = (gi σ0 74 33).toInt) → (7 - x1.toInt).toNat < n → PS M 10 [(0, .ref 74), (1, .int x1)] [] σ (0, 0)) := by
    intro n
    induction n with
    | zero => exact fun _ _ _ _ _ _ _ h8 => absurd h8 (Nat.not_lt_zero _)
    | succ n ih =>
      have ih10 := ih
      · intro x1 σ mσ fσ lx1 ux1 i0 hmu
        refine s_X12_putBack_10 C hN ?_
        refine ⟨?_, ?_⟩
        · intro q_1
          have t_2 : (6 : Int32).toInt = 6 := rfl
          have b_3 : (6 : Int32).toInt ≤ x1.toInt := Int32.le_iff_toInt_le.mp q_1
          exact h9ret σ mσ fσ (by first | assumption | omega | simp_all)
        · intro q_1
          have t_4 : (6 : Int32).toInt = 6 := rfl
          have b_5 : ¬ (6 : Int32).toInt ≤ x1.toInt := mt Int32.le_iff_toInt_le.mpr q_1
          have hv_6 : vp_in x1 6 := vp_in_iff.mpr ⟨by omega, by omega⟩
          refine ⟨hv_6, ?_⟩
          refine ⟨hv_6, ?_⟩
          intro σ4 eσ4
          have mσ4 : MI σ4 := by rw [eσ4]; exact MIs_au (a := 105) mσ rfl rfl
          have fσ4 : Fr [74, 105, 106, 107, 108] [1] σ0 σ4 := by rw [eσ4]; exact Fr_si fσ (by decide) (fun h9 => absurd h9 (by decide))
          have k_7 : (gi σ4 74 1).toInt = (gi σ 74 1).toInt := by rw [eσ4]; exact congrArg Int32.toInt (gi_si_ne (Or.inl (by decide)))
          have k_8 : (gi σ4 74 33).toInt = (gi σ 74 33).toInt := by rw [eσ4]; exact congrArg Int32.toInt (gi_si_ne (Or.inl (by decide)))
          refine ⟨hv_6, ?_⟩
          refine ⟨hv_6, ?_⟩
          intro σ7 eσ7
          have mσ7 : MI σ7 := by rw [eσ7]; exact MIs_au (a := 106) mσ4 rfl rfl
          have fσ7 : Fr [74, 105, 106, 107, 108] [1] σ0 σ7 := by rw [eσ7]; exact Fr_si fσ4 (by decide) (fun h9 => absurd h9 (by decide))
          have k_9 : (gi σ7 74 1).toInt = (gi σ4 74 1).toInt := by rw [eσ7]; exact congrArg Int32.toInt (gi_si_ne (Or.inl (by decide)))
          have k_10 : (gi σ7 74 33).toInt = (gi σ4 74 33).toInt := by rw [eσ7]; exact congrArg Int32.toInt (gi_si_ne (Or.inl (by decide)))
          refine ⟨hv_6, ?_⟩
          refine ⟨hv_6, ?_⟩
          intro σ10 eσ10
          have mσ10 : MI σ10 := by rw [eσ10]; exact MIs_au (a := 107) mσ7 rfl rfl
          have fσ10 : Fr [74, 105, 106, 107, 108] [1] σ0 σ10 := by rw [eσ10]; exact Fr_si fσ7 (by decide) (fun h9 => absurd h9 (by decide))
          have k_11 : (gi σ10 74 1).toInt = (gi σ7 74 1).toInt := by rw [eσ10]; exact congrArg Int32.toInt (gi_si_ne (Or.inl (by decide)))
          have k_12 : (gi σ10 74 33).toInt = (gi σ7 74 33).toInt := by rw [eσ10]; exact congrArg Int32.toInt (gi_si_ne (Or.inl (by decide)))
          refine ⟨hv_6, ?_⟩
          refine ⟨hv_6, ?_⟩
          intro σ13 eσ13
          have mσ13 : MI σ13 := by rw [eσ13]; exact MIs_au (a := 108) mσ10 rfl rfl
          have fσ13 : Fr [74, 105, 106, 107, 108] [1] σ0 σ13 := by rw [eσ13]; exact Fr_si fσ10 (by decide) (fun h9 => absurd h9 (by decide))
          have k_13 : (gi σ13 74 1).toInt = (gi σ10 74 1).toInt := by rw [eσ13]; exact congrArg Int32.toInt (gi_si_ne (Or.inl (by decide)))
          have k_14 : (gi σ13 74 33).toInt = (gi σ10 74 33).toInt := by rw [eσ13]; exact congrArg Int32.toInt (gi_si_ne (Or.inl (by decide)))
          intro v14 ev14
          have t_15 : (1 : Int32).toInt = 1 := rfl
          have t_16 : (x1 + (1 : Int32)).toInt = x1.toInt + (1 : Int32).toInt := i_add (by omega) (by omega)
          have t_17 : v14.toInt = (x1 + (1 : Int32)).toInt := congrArg Int32.toInt ev14
          exact ih10 v14 σ13 mσ13 fσ13 (by omega) (by omega) (by first | assumption | omega | simp_all) (by omega)
  have U10 := T 9
  have f0 : Fr [74, 105, 106, 107, 108] [1] σ0 σ0 := Fr_rf
  refine s_X12_putBack_0 C hN ?_
  intro σ1 eσ1
  have t_18 := MI_f33 m0
  have mσ1 : MI σ1 := by rw [eσ1]; exact MIs_f1 m0 (by omega) (by omega)
  have fσ1 : Fr [74, 105, 106, 107, 108] [1] σ0 σ1 := by rw [eσ1]; exact Fr_si f0 (by decide) (fun _ => by decide)
  have k_19 : (gi σ1 74 1).toInt = (gi σ0 74 33).toInt := by rw [eσ1]; exact congrArg Int32.toInt gi_si_eq
  have k_20 : (gi σ1 74 33).toInt = (gi σ0 74 33).toInt := by rw [eσ1]; exact congrArg Int32.toInt (gi_si_ne (Or.inr (by decide)))
  have t_21 : (0 : Int32).toInt = 0 := rfl
  exact U10 (0 : Int32) σ1 mσ1 fσ1 (by omega) (by omega) (by first | assumption | omega | simp_all) (by omega)
set_option maxRecDepth 100000 in
set_option maxHeartbeats 4000000 in
theorem k_X12_all {l : Launch} {V : Vx} {σ0 : Sg} {Qk : Int32 → Sg → Prop} (m0 : MI σ0) (h9ret : ∀ (r : Int32) (σ' : Sg), MI σ' → Fr [] [] σ0 σ' → Qk r σ') : K_X12_all l V σ0 Qk := by
  refine e_X12_all (fun M hl hV hN C => ?_)
  subst hl
  subst hV
  have T : ∀ n : Nat, (∀ (x1 : Int32) (x2 : Int32) (σ : Sg), MI σ → Fr [] [] σ0 σ → (0 ≤ x2.toInt) → (x2.toInt ≤ 6) → (7 - x2.toInt).toNat < n → PS M 4 [(0, .ref 74), (1, .int x1), (2, .int x2)] [] σ (0, 0)) := by
    intro n
    induction n with
    | zero => exact fun _ _ _ _ _ _ _ h8 => absurd h8 (Nat.not_lt_zero _)
    | succ n ih =>
      have ih4 := ih
      · intro x1 x2 σ mσ fσ lx2 ux2 hmu
        refine s_X12_all_4 C hN ?_
        refine ⟨?_, ?_⟩
        · intro q_1
          have t_2 := MI_f0 mσ
          have b_3 : (gi σ 74 0).toInt ≤ x2.toInt := Int32.le_iff_toInt_le.mp q_1
          exact h9ret x1 σ mσ fσ
        · intro q_1
          have t_4 := MI_f0 mσ
          have b_5 : ¬ (gi σ 74 0).toInt ≤ x2.toInt := mt Int32.le_iff_toInt_le.mpr q_1
          have hv_6 : vp_in x2 6 := vp_in_iff.mpr ⟨by omega, by omega⟩
          refine ⟨hv_6, ?_⟩
          intro v3 ev3
          intro v4 ev4
          have t_7 : (1 : Int32).toInt = 1 := rfl
          have t_8 : (x2 + (1 : Int32)).toInt = x2.toInt + (1 : Int32).toInt := i_add (by omega) (by omega)
          have t_9 : v4.toInt = (x2 + (1 : Int32)).toInt := congrArg Int32.toInt ev4
          exact ih4 v3 v4 σ mσ fσ (by omega) (by omega) (by omega)
  have U4 := T 9
  have f0 : Fr [] [] σ0 σ0 := Fr_rf
  refine s_X12_all_0 C hN ?_
  have t_10 : (0 : Int32).toInt = 0 := rfl
  exact U4 (0 : Int32) (0 : Int32) σ0 m0 f0 (by omega) (by omega) (by omega)
set_option maxRecDepth 100000 in
set_option maxHeartbeats 4000000 in
theorem k_X12_lastOf {l : Launch} {V : Vx} {a1 : Int32} {a2 : Int32} {σ0 : Sg} {Qk : Int32 → Sg → Prop} (m0 : MI σ0) (h9ret : ∀ (r : Int32) (σ' : Sg), MI σ' → Fr [] [] σ0 σ' → Qk r σ') : K_X12_lastOf l V a1 a2 σ0 Qk := by
  refine e_X12_lastOf (fun M hl hV hN C => ?_)
  subst hl
  subst hV
  have T : ∀ n : Nat, (∀ (x1 : Int32) (x3 : Int32) (x4 : Int32) (σ : Sg), MI σ → Fr [] [] σ0 σ → (0 ≤ x4.toInt) → (x4.toInt ≤ 60) → (61 - x4.toInt).toNat < n → PS M 8 [(0, .ref 74), (1, .int x1), (3, .int x3), (4, .int x4)] [] σ (0, 0)) := by
    intro n
    induction n with
    | zero => exact fun _ _ _ _ _ _ _ _ h8 => absurd h8 (Nat.not_lt_zero _)
    | succ n ih =>
      have ih8 := ih
      · intro x1 x3 x4 σ mσ fσ lx4 ux4 hmu
        refine s_X12_lastOf_8 C hN ?_
        refine k_X12_behind mσ  (fun r2 σ1 mσ1 cσ1 plσ1 phσ1 pσ1_0 => ?_)
        have fσ1 : Fr [] [] σ0 σ1 := Fr_tr fσ cσ1 (by decide) (by decide)
        have t_1 := MI_f12 mσ
        refine ⟨?_, ?_⟩
        · intro q_2
          have b_3 : r2.toInt ≤ x4.toInt := Int32.le_iff_toInt_le.mp q_2
          exact h9ret x3 σ1 mσ1 fσ1
        · intro q_2
          have b_4 : ¬ r2.toInt ≤ x4.toInt := mt Int32.le_iff_toInt_le.mpr q_2
          have hv_5 : vp_in x4 60 := vp_in_iff.mpr ⟨by omega, by omega⟩
          refine ⟨hv_5, ?_⟩
          refine ⟨?_, ?_⟩
          · intro q_6
            have b_7 : ¬ (gi σ1 118 x4.toNatClampNeg).toInt = x1.toInt := fun h9 => q_6 (Int32.toInt_inj.mp h9)
            intro v6 ev6
            have t_8 : (1 : Int32).toInt = 1 := rfl
            have t_9 : (x4 + (1 : Int32)).toInt = x4.toInt + (1 : Int32).toInt := i_add (by omega) (by omega)
            have t_10 : v6.toInt = (x4 + (1 : Int32)).toInt := congrArg Int32.toInt ev6
            exact ih8 x1 x3 v6 σ1 mσ1 fσ1 (by omega) (by omega) (by omega)
          · intro q_6
            have b_11 : (gi σ1 118 x4.toNatClampNeg).toInt = x1.toInt := congrArg Int32.toInt q_6
            refine ⟨hv_5, ?_⟩
            intro v8 ev8
            intro v9 ev9
            have t_12 : (1 : Int32).toInt = 1 := rfl
            have t_13 : (x4 + (1 : Int32)).toInt = x4.toInt + (1 : Int32).toInt := i_add (by omega) (by omega)
            have t_14 : v9.toInt = (x4 + (1 : Int32)).toInt := congrArg Int32.toInt ev9
            exact ih8 x1 v8 v9 σ1 mσ1 fσ1 (by omega) (by omega) (by omega)
  have U8 := T 90
  have f0 : Fr [] [] σ0 σ0 := Fr_rf
  refine s_X12_lastOf_0 C hN ?_
  refine k_X12_begin m0  (fun r2 σ1 mσ1 cσ1 plσ1 phσ1 pσ1_0 => ?_)
  have fσ1 : Fr [] [] σ0 σ1 := Fr_tr f0 cσ1 (by decide) (by decide)
  have t_15 := MI_f12 m0
  exact U8 a1 a2 r2 σ1 mσ1 fσ1 (by omega) (by omega) (by omega)
set_option maxRecDepth 100000 in
set_option maxHeartbeats 4000000 in
theorem k_X12_gap {l : Launch} {V : Vx} {σ0 : Sg} {Qk : Int32 → Sg → Prop} (m0 : MI σ0) (h9ret : ∀ (r : Int32) (σ' : Sg), MI σ' → Fr [] [] σ0 σ' → Qk r σ') : K_X12_gap l V σ0 Qk := by
  refine e_X12_gap (fun M hl hV hN C => ?_)
  subst hl
  subst hV
  have f0 : Fr [] [] σ0 σ0 := Fr_rf
  refine s_X12_gap_0 C hN ?_
  refine ⟨?_, ?_⟩
  · intro q_1
    have t_2 : (0 : Int32).toInt = 0 := rfl
    have b_3 : (0 : Int32).toInt ≤ (gi σ0 74 28).toInt := Int32.le_iff_toInt_le.mp q_1
    exact h9ret (gi σ0 74 28) σ0 m0 f0
  · intro q_1
    have t_4 : (0 : Int32).toInt = 0 := rfl
    have b_5 : ¬ (0 : Int32).toInt ≤ (gi σ0 74 28).toInt := mt Int32.le_iff_toInt_le.mpr q_1
    have t_6 : (2 : Int32).toInt = 2 := rfl
    refine k_X12_lastOf m0  (fun r3 σ2 mσ2 cσ2 => ?_)
    have fσ2 : Fr [] [] σ0 σ2 := Fr_tr f0 cσ2 (by decide) (by decide)
    exact h9ret r3 σ2 mσ2 fσ2
set_option maxRecDepth 100000 in
set_option maxHeartbeats 4000000 in
theorem k_X12_fieldLong {l : Launch} {V : Vx} {σ0 : Sg} {Qk : Int32 → Sg → Prop} (m0 : MI σ0) (h9ret : ∀ (r : Int32) (σ' : Sg), MI σ' → Fr [] [] σ0 σ' → Qk r σ') : K_X12_fieldLong l V σ0 Qk := by
  refine e_X12_fieldLong (fun M hl hV hN C => ?_)
  subst hl
  subst hV
  have f0 : Fr [] [] σ0 σ0 := Fr_rf
  refine s_X12_fieldLong_0 C hN ?_
  have t_1 : (4 : Int32).toInt = 4 := rfl
  have t_2 : (60 : Int32).toInt = 60 := rfl
  refine k_X12_lastOf m0  (fun r2 σ1 mσ1 cσ1 => ?_)
  have fσ1 : Fr [] [] σ0 σ1 := Fr_tr f0 cσ1 (by decide) (by decide)
  have t_3 : (1 : Int32).toInt = 1 := rfl
  refine k_X12_most mσ1  (fun r4 σ3 mσ3 cσ3 pσ3_0 => ?_)
  have fσ3 : Fr [] [] σ0 σ3 := Fr_tr fσ1 cσ3 (by decide) (by decide)
  exact h9ret r4 σ3 mσ3 fσ3
set_option maxRecDepth 100000 in
set_option maxHeartbeats 4000000 in
theorem k_X12_factOf {l : Launch} {V : Vx} {a1 : Int32} {a2 : Int32} {σ0 : Sg} {Qk : Int32 → Sg → Prop} (m0 : MI σ0) (l_a2 : 0 ≤ a2.toInt) (u_a2 : a2.toInt ≤ 5) (h9ret : ∀ (r : Int32) (σ' : Sg), MI σ' → Fr [] [] σ0 σ' → Qk r σ') : K_X12_factOf l V a1 a2 σ0 Qk := by
  refine e_X12_factOf (fun M hl hV hN C => ?_)
  subst hl
  subst hV
  have f0 : Fr [] [] σ0 σ0 := Fr_rf
  refine s_X12_factOf_0 C hN ?_
  refine ⟨?_, ?_, ?_, ?_, ?_, ?_⟩
  · intro q_1
    exact h9ret ((gi σ0 74 1) - (gi σ0 74 1) / (10 : Int32) * (10 : Int32)) σ0 m0 f0
  · intro q_1
    exact h9ret a2 σ0 m0 f0
  · intro q_1
    have hv_2 : vp_in a2 6 := vp_in_iff.mpr ⟨by omega, by omega⟩
    refine ⟨hv_2, ?_⟩
    exact h9ret (gi σ0 103 a2.toNatClampNeg) σ0 m0 f0
  · intro q_1
    exact h9ret (gi σ0 74 30) σ0 m0 f0
  · intro q_1
    have hv_3 : vp_in a2 6 := vp_in_iff.mpr ⟨by omega, by omega⟩
    refine ⟨hv_3, ?_⟩
    exact h9ret (gi σ0 106 a2.toNatClampNeg) σ0 m0 f0
  · intro q_1
    have hv_4 : vp_in a2 6 := vp_in_iff.mpr ⟨by omega, by omega⟩
    refine ⟨hv_4, ?_⟩
    exact h9ret ((gi σ0 107 a2.toNatClampNeg) / (10 : Int32)) σ0 m0 f0
set_option maxRecDepth 100000 in
set_option maxHeartbeats 4000000 in
theorem k_X12_hasty {l : Launch} {V : Vx} {a1 : Int32} {a2 : Int32} {σ0 : Sg} {Qk : Int32 → Sg → Prop} (m0 : MI σ0) (l_a1 : 0 ≤ a1.toInt) (u_a1 : a1.toInt ≤ 5) (h9ret : ∀ (r : Int32) (σ' : Sg), MI σ' → Fr [] [] σ0 σ' → Qk r σ') : K_X12_hasty l V a1 a2 σ0 Qk := by
  refine e_X12_hasty (fun M hl hV hN C => ?_)
  subst hl
  subst hV
  have f0 : Fr [] [] σ0 σ0 := Fr_rf
  refine s_X12_hasty_0 C hN ?_
  have hv_1 : vp_in a1 6 := vp_in_iff.mpr ⟨by omega, by omega⟩
  refine ⟨hv_1, ?_⟩
  refine ⟨?_, ?_⟩
  · intro q_2
    have t_3 : (5 : Int32).toInt = 5 := rfl
    have b_4 : (gi σ0 106 a1.toNatClampNeg).toInt ≤ (5 : Int32).toInt := Int32.le_iff_toInt_le.mp q_2
    exact h9ret a2 σ0 m0 f0
  · intro q_2
    have t_5 : (5 : Int32).toInt = 5 := rfl
    have b_6 : ¬ (gi σ0 106 a1.toNatClampNeg).toInt ≤ (5 : Int32).toInt := mt Int32.le_iff_toInt_le.mpr q_2
    refine ⟨hv_1, ?_⟩
    exact h9ret (a2 + (gi σ0 104 a1.toNatClampNeg)) σ0 m0 f0
set_option maxRecDepth 100000 in
set_option maxHeartbeats 4000000 in
theorem k_X12_isPressed {l : Launch} {V : Vx} {a1 : Int32} {σ0 : Sg} {Qk : Int32 → Sg → Prop} (m0 : MI σ0) (l_a1 : 0 ≤ a1.toInt) (u_a1 : a1.toInt ≤ 5) (h9ret : ∀ (r : Int32) (σ' : Sg), MI σ' → Fr [] [] σ0 σ' → (0 ≤ r.toInt) → (r.toInt ≤ 1) → Qk r σ') : K_X12_isPressed l V a1 σ0 Qk := by
  refine e_X12_isPressed (fun M hl hV hN C => ?_)
  subst hl
  subst hV
  have f0 : Fr [] [] σ0 σ0 := Fr_rf
  refine s_X12_isPressed_0 C hN ?_
  refine ⟨?_, ?_⟩
  · intro q_1
    have t_2 := MI_f2 m0
    have t_3 : (1 : Int32).toInt = 1 := rfl
    have t_4 : (a1 + (1 : Int32)).toInt = a1.toInt + (1 : Int32).toInt := i_add (by omega) (by omega)
    have b_5 : (gi σ0 74 2).toInt ≤ (a1 + (1 : Int32)).toInt := Int32.le_iff_toInt_le.mp q_1
    have t_6 : (0 : Int32).toInt = 0 := rfl
    exact h9ret (0 : Int32) σ0 m0 f0 (by omega) (by omega)
  · intro q_1
    have t_7 := MI_f2 m0
    have t_8 : (1 : Int32).toInt = 1 := rfl
    have t_9 : (a1 + (1 : Int32)).toInt = a1.toInt + (1 : Int32).toInt := i_add (by omega) (by omega)
    have b_10 : ¬ (gi σ0 74 2).toInt ≤ (a1 + (1 : Int32)).toInt := mt Int32.le_iff_toInt_le.mpr q_1
    have hv_11 : vp_in a1 6 := vp_in_iff.mpr ⟨by omega, by omega⟩
    refine ⟨hv_11, ?_⟩
    have t_12 := MI_a110 m0 hv_11
    have hv_13 : vp_in (gi σ0 110 a1.toNatClampNeg) 6 := vp_in_iff.mpr ⟨by omega, by omega⟩
    refine ⟨hv_13, ?_⟩
    have hv_14 : vp_in (a1 + (1 : Int32)) 6 := vp_in_iff.mpr ⟨by omega, by omega⟩
    refine ⟨hv_14, ?_⟩
    have t_15 := MI_a110 m0 hv_14
    have hv_16 : vp_in (gi σ0 110 (a1 + (1 : Int32)).toNatClampNeg) 6 := vp_in_iff.mpr ⟨by omega, by omega⟩
    refine ⟨hv_16, ?_⟩
    refine k_X12_gap m0  (fun r7 σ6 mσ6 cσ6 => ?_)
    have fσ6 : Fr [] [] σ0 σ6 := Fr_tr f0 cσ6 (by decide) (by decide)
    refine ⟨?_, ?_⟩
    · intro q_17
      have t_18 : (3 : Int32).toInt = 3 := rfl
      have b_19 : (r7 + (3 : Int32)).toInt ≤ ((gi σ0 105 (gi σ0 110 a1.toNatClampNeg).toNatClampNeg) - (gi σ0 105 (gi σ0 110 (a1 + (1 : Int32)).toNatClampNeg).toNatClampNeg)).toInt := Int32.le_iff_toInt_le.mp q_17
      have t_20 : (0 : Int32).toInt = 0 := rfl
      exact h9ret (0 : Int32) σ6 mσ6 fσ6 (by omega) (by omega)
    · intro q_17
      have t_21 : (3 : Int32).toInt = 3 := rfl
      have b_22 : ¬ (r7 + (3 : Int32)).toInt ≤ ((gi σ0 105 (gi σ0 110 a1.toNatClampNeg).toNatClampNeg) - (gi σ0 105 (gi σ0 110 (a1 + (1 : Int32)).toNatClampNeg).toNatClampNeg)).toInt := mt Int32.le_iff_toInt_le.mpr q_17
      exact h9ret (1 : Int32) σ6 mσ6 fσ6 (by omega) (by omega)
set_option maxRecDepth 100000 in
set_option maxHeartbeats 4000000 in
theorem k_X12_strideOf {l : Launch} {V : Vx} {a1 : Int32} {a2 : Int32} {a3 : Int32} {σ0 : Sg} {Qk : Int32 → Sg → Prop} (m0 : MI σ0) (l_a1 : 0 ≤ a1.toInt) (u_a1 : a1.toInt ≤ 5) (l_a2 : 0 ≤ a2.toInt) (u_a2 : a2.toInt ≤ 5) (h9ret : ∀ (r : Int32) (σ' : Sg), MI σ' → Fr [] [] σ0 σ' → Qk r σ') : K_X12_strideOf l V a1 a2 a3 σ0 Qk := by
  refine e_X12_strideOf (fun M hl hV hN C => ?_)
  subst hl
  subst hV
  have f0 : Fr [] [] σ0 σ0 := Fr_rf
  refine s_X12_strideOf_0 C hN ?_
  have hv_1 : vp_in a2 6 := vp_in_iff.mpr ⟨by omega, by omega⟩
  refine ⟨hv_1, ?_⟩
  have t_2 : (0 : Int32).toInt = 0 := rfl
  have t_3 : (20 : Int32).toInt = 20 := rfl
  refine k_X12_most m0  (fun r3 σ2 mσ2 cσ2 pσ2_0 => ?_)
  have fσ2 : Fr [] [] σ0 σ2 := Fr_tr f0 cσ2 (by decide) (by decide)
  refine ⟨hv_1, ?_⟩
  refine ⟨?_, ?_, ?_, ?_, ?_, ?_, ?_⟩
  · intro q_4
    exact h9ret r3 σ2 mσ2 fσ2
  · intro q_4
    exact h9ret a3 σ2 mσ2 fσ2
  · intro q_4
    refine k_X12_hasty mσ2 (by omega) (by omega) (fun r7 σ6 mσ6 cσ6 => ?_)
    have fσ6 : Fr [] [] σ0 σ6 := Fr_tr fσ2 cσ6 (by decide) (by decide)
    exact h9ret r7 σ6 mσ6 fσ6
  · intro q_4
    exact h9ret (r3 / (2 : Int32)) σ2 mσ2 fσ2
  · intro q_4
    refine ⟨hv_1, ?_⟩
    exact h9ret (a3 - ((gi σ2 104 a2.toNatClampNeg) / (3 : Int32))) σ2 mσ2 fσ2
  · intro q_4
    refine k_X12_hasty mσ2 (by omega) (by omega) (fun r10 σ9 mσ9 cσ9 => ?_)
    have fσ9 : Fr [] [] σ0 σ9 := Fr_tr fσ2 cσ9 (by decide) (by decide)
    refine k_X12_isPressed mσ9 (by omega) (by omega) (fun r12 σ11 mσ11 cσ11 plσ11 phσ11 => ?_)
    have fσ11 : Fr [] [] σ0 σ11 := Fr_tr fσ9 cσ11 (by decide) (by decide)
    refine ⟨?_, ?_⟩
    · intro q_5
      have b_6 : r12.toInt = (0 : Int32).toInt := congrArg Int32.toInt q_5
      exact h9ret (r10 + (0 : Int32)) σ11 mσ11 fσ11
    · intro q_5
      have b_7 : ¬ r12.toInt = (0 : Int32).toInt := fun h9 => q_5 (Int32.toInt_inj.mp h9)
      exact h9ret (r10 + (2 : Int32)) σ11 mσ11 fσ11
  · intro q_4
    have t_8 : (4 : Int32).toInt = 4 := rfl
    have t_9 : ((4 : Int32) * a2).toInt = 4 * a2.toInt := i_mull rfl (by omega) (by omega)
    have t_10 := MI_f1 mσ2
    have t_11 : ((gi σ2 74 1) - (((gi σ2 74 1) / (4 : Int32)) * (4 : Int32))).toInt = (gi σ2 74 1).toInt % 4 := i_rem (by omega) (by decide) rfl
    have t_12 : (((4 : Int32) * a2) + ((gi σ2 74 1) - (((gi σ2 74 1) / (4 : Int32)) * (4 : Int32)))).toInt = ((4 : Int32) * a2).toInt + ((gi σ2 74 1) - (((gi σ2 74 1) / (4 : Int32)) * (4 : Int32))).toInt := i_add (by omega) (by omega)
    have hv_13 : vp_in (((4 : Int32) * a2) + ((gi σ2 74 1) - (gi σ2 74 1) / (4 : Int32) * (4 : Int32))) 24 := vp_in_iff.mpr ⟨by omega, by omega⟩
    refine ⟨hv_13, ?_⟩
    exact h9ret ((r3 / (2 : Int32)) + (gi σ2 109 (((4 : Int32) * a2) + ((gi σ2 74 1) - (gi σ2 74 1) / (4 : Int32) * (4 : Int32))).toNatClampNeg)) σ2 mσ2 fσ2
set_option maxRecDepth 100000 in
set_option maxHeartbeats 4000000 in
theorem k_X12_goWhet {l : Launch} {V : Vx} {σ0 : Sg} {Qk : Sg → Prop} (m0 : MI σ0) (pre0 : (gi σ0 74 1).toInt ≤ 18000) (h9ret : ∀ (σ' : Sg), MI σ' → Fr [74, 106, 107, 108] [1] σ0 σ' → ((gi σ' 74 1).toInt = (gi σ0 74 1).toInt + 1) → Qk σ') : K_X12_goWhet l V σ0 Qk := by
  refine e_X12_goWhet (fun M hl hV hN C => ?_)
  subst hl
  subst hV
  have T : ∀ n : Nat, (∀ (x1 : Int32) (σ : Sg), MI σ → Fr [74, 106, 107, 108] [1] σ0 σ → (0 ≤ x1.toInt) → (x1.toInt ≤ 6) → ((gi σ 74 1).toInt = (gi σ0 74 1).toInt) → (7 - x1.toInt).toNat < n → PS M 2 [(0, .ref 74), (1, .int x1)] [] σ (0, 0)) := by
    intro n
    induction n with
    | zero => exact fun _ _ _ _ _ _ _ h8 => absurd h8 (Nat.not_lt_zero _)
    | succ n ih =>
      have ih2 := ih
      · intro x1 σ mσ fσ lx1 ux1 i0 hmu
        refine s_X12_goWhet_2 C hN ?_
        refine ⟨?_, ?_⟩
        · intro q_1
          have t_2 := MI_f0 mσ
          have b_3 : (gi σ 74 0).toInt ≤ x1.toInt := Int32.le_iff_toInt_le.mp q_1
          intro σ2 eσ2
          have t_4 := MI_f1 mσ
          have t_5 : (1 : Int32).toInt = 1 := rfl
          have t_6 : ((gi σ 74 1) + (1 : Int32)).toInt = (gi σ 74 1).toInt + (1 : Int32).toInt := i_add (by omega) (by omega)
          have mσ2 : MI σ2 := by rw [eσ2]; exact MIs_f1 mσ (by omega) (by omega)
          have fσ2 : Fr [74, 106, 107, 108] [1] σ0 σ2 := by rw [eσ2]; exact Fr_si fσ (by decide) (fun _ => by decide)
          have k_7 : (gi σ2 74 1).toInt = ((gi σ 74 1) + (1 : Int32)).toInt := by rw [eσ2]; exact congrArg Int32.toInt gi_si_eq
          exact h9ret σ2 mσ2 fσ2 (by first | assumption | omega | simp_all)
        · intro q_1
          have t_8 := MI_f0 mσ
          have b_9 : ¬ (gi σ 74 0).toInt ≤ x1.toInt := mt Int32.le_iff_toInt_le.mpr q_1
          have hv_10 : vp_in x1 6 := vp_in_iff.mpr ⟨by omega, by omega⟩
          refine ⟨hv_10, ?_⟩
          intro σ4 eσ4
          have mσ4 : MI σ4 := by rw [eσ4]; exact MIs_au (a := 106) mσ rfl rfl
          have fσ4 : Fr [74, 106, 107, 108] [1] σ0 σ4 := by rw [eσ4]; exact Fr_si fσ (by decide) (fun h9 => absurd h9 (by decide))
          have k_11 : (gi σ4 74 1).toInt = (gi σ 74 1).toInt := by rw [eσ4]; exact congrArg Int32.toInt (gi_si_ne (Or.inl (by decide)))
          refine ⟨hv_10, ?_⟩
          have t_12 : (0 : Int32).toInt = 0 := rfl
          have t_13 : (1 : Int32).toInt = 1 := rfl
          refine k_X12_most mσ4  (fun r7 σ6 mσ6 cσ6 pσ6_0 => ?_)
          have fσ6 : Fr [74, 106, 107, 108] [1] σ0 σ6 := Fr_tr fσ4 cσ6 (by decide) (by decide)
          have k_14 : (gi σ6 74 1).toInt = (gi σ4 74 1).toInt := congrArg Int32.toInt (cσ6.2.1 1 (by decide))
          refine ⟨hv_10, ?_⟩
          intro σ9 eσ9
          have mσ9 : MI σ9 := by rw [eσ9]; exact MIs_au (a := 107) mσ6 rfl rfl
          have fσ9 : Fr [74, 106, 107, 108] [1] σ0 σ9 := by rw [eσ9]; exact Fr_si fσ6 (by decide) (fun h9 => absurd h9 (by decide))
          have k_15 : (gi σ9 74 1).toInt = (gi σ6 74 1).toInt := by rw [eσ9]; exact congrArg Int32.toInt (gi_si_ne (Or.inl (by decide)))
          refine ⟨hv_10, ?_⟩
          refine k_X12_most mσ9  (fun r12 σ11 mσ11 cσ11 pσ11_0 => ?_)
          have fσ11 : Fr [74, 106, 107, 108] [1] σ0 σ11 := Fr_tr fσ9 cσ11 (by decide) (by decide)
          have k_16 : (gi σ11 74 1).toInt = (gi σ9 74 1).toInt := congrArg Int32.toInt (cσ11.2.1 1 (by decide))
          refine ⟨hv_10, ?_⟩
          intro σ14 eσ14
          have mσ14 : MI σ14 := by rw [eσ14]; exact MIs_au (a := 108) mσ11 rfl rfl
          have fσ14 : Fr [74, 106, 107, 108] [1] σ0 σ14 := by rw [eσ14]; exact Fr_si fσ11 (by decide) (fun h9 => absurd h9 (by decide))
          have k_17 : (gi σ14 74 1).toInt = (gi σ11 74 1).toInt := by rw [eσ14]; exact congrArg Int32.toInt (gi_si_ne (Or.inl (by decide)))
          intro v15 ev15
          have t_18 : (x1 + (1 : Int32)).toInt = x1.toInt + (1 : Int32).toInt := i_add (by omega) (by omega)
          have t_19 : v15.toInt = (x1 + (1 : Int32)).toInt := congrArg Int32.toInt ev15
          exact ih2 v15 σ14 mσ14 fσ14 (by omega) (by omega) (by first | assumption | omega | simp_all) (by omega)
  have U2 := T 9
  have f0 : Fr [74, 106, 107, 108] [1] σ0 σ0 := Fr_rf
  refine s_X12_goWhet_0 C hN ?_
  have t_20 : (0 : Int32).toInt = 0 := rfl
  exact U2 (0 : Int32) σ0 m0 f0 (by omega) (by omega) (by first | assumption | omega | simp_all) (by omega)
set_option maxRecDepth 100000 in
set_option maxHeartbeats 4000000 in
theorem k_X12_goPause {l : Launch} {V : Vx} {a1 : Int32} {σ0 : Sg} {Qk : Sg → Prop} (m0 : MI σ0) (l_a1 : 0 ≤ a1.toInt) (u_a1 : a1.toInt ≤ 60) (pre0 : (gi σ0 74 1).toInt ≤ 18000) (h9ret : ∀ (σ' : Sg), MI σ' → Fr [74, 107, 108] [1] σ0 σ' → ((gi σ' 74 1).toInt = (gi σ0 74 1).toInt + a1.toInt) → Qk σ') : K_X12_goPause l V a1 σ0 Qk := by
  refine e_X12_goPause (fun M hl hV hN C => ?_)
  subst hl
  subst hV
  have T : ∀ n : Nat, (∀ (x1 : Int32) (x2 : Int32) (σ : Sg), MI σ → Fr [74, 107, 108] [1] σ0 σ → (0 ≤ x1.toInt) → (x1.toInt ≤ 60) → (0 ≤ x2.toInt) → (x2.toInt ≤ 6) → ((gi σ 74 1).toInt = (gi σ0 74 1).toInt) → (x1 = a1) → (7 - x2.toInt).toNat < n → PS M 2 [(0, .ref 74), (1, .int x1), (2, .int x2)] [] σ (0, 0)) := by
    intro n
    induction n with
    | zero => exact fun _ _ _ _ _ _ _ _ _ _ _ h8 => absurd h8 (Nat.not_lt_zero _)
    | succ n ih =>
      have ih2 := ih
      · intro x1 x2 σ mσ fσ lx1 ux1 lx2 ux2 i0 i1 hmu
        refine s_X12_goPause_2 C hN ?_
        refine ⟨?_, ?_⟩
        · intro q_1
          have t_2 := MI_f0 mσ
          have b_3 : (gi σ 74 0).toInt ≤ x2.toInt := Int32.le_iff_toInt_le.mp q_1
          intro σ2 eσ2
          have t_4 := MI_f1 mσ
          have t_5 : ((gi σ 74 1) + x1).toInt = (gi σ 74 1).toInt + x1.toInt := i_add (by omega) (by omega)
          have mσ2 : MI σ2 := by rw [eσ2]; exact MIs_f1 mσ (by omega) (by omega)
          have fσ2 : Fr [74, 107, 108] [1] σ0 σ2 := by rw [eσ2]; exact Fr_si fσ (by decide) (fun _ => by decide)
          have k_6 : (gi σ2 74 1).toInt = ((gi σ 74 1) + x1).toInt := by rw [eσ2]; exact congrArg Int32.toInt gi_si_eq
          exact h9ret σ2 mσ2 fσ2 (by first | assumption | omega | simp_all)
        · intro q_1
          have t_7 := MI_f0 mσ
          have b_8 : ¬ (gi σ 74 0).toInt ≤ x2.toInt := mt Int32.le_iff_toInt_le.mpr q_1
          have hv_9 : vp_in x2 6 := vp_in_iff.mpr ⟨by omega, by omega⟩
          refine ⟨hv_9, ?_⟩
          have t_10 : (0 : Int32).toInt = 0 := rfl
          have t_11 : (3 : Int32).toInt = 3 := rfl
          have t_12 : ((3 : Int32) * x1).toInt = 3 * x1.toInt := i_mull rfl (by omega) (by omega)
          refine k_X12_most mσ  (fun r5 σ4 mσ4 cσ4 pσ4_0 => ?_)
          have fσ4 : Fr [74, 107, 108] [1] σ0 σ4 := Fr_tr fσ cσ4 (by decide) (by decide)
          have k_13 : (gi σ4 74 1).toInt = (gi σ 74 1).toInt := congrArg Int32.toInt (cσ4.2.1 1 (by decide))
          refine ⟨hv_9, ?_⟩
          intro σ7 eσ7
          have mσ7 : MI σ7 := by rw [eσ7]; exact MIs_au (a := 107) mσ4 rfl rfl
          have fσ7 : Fr [74, 107, 108] [1] σ0 σ7 := by rw [eσ7]; exact Fr_si fσ4 (by decide) (fun h9 => absurd h9 (by decide))
          have k_14 : (gi σ7 74 1).toInt = (gi σ4 74 1).toInt := by rw [eσ7]; exact congrArg Int32.toInt (gi_si_ne (Or.inl (by decide)))
          refine ⟨hv_9, ?_⟩
          refine k_X12_most mσ7  (fun r10 σ9 mσ9 cσ9 pσ9_0 => ?_)
          have fσ9 : Fr [74, 107, 108] [1] σ0 σ9 := Fr_tr fσ7 cσ9 (by decide) (by decide)
          have k_15 : (gi σ9 74 1).toInt = (gi σ7 74 1).toInt := congrArg Int32.toInt (cσ9.2.1 1 (by decide))
          refine ⟨hv_9, ?_⟩
          intro σ12 eσ12
          have mσ12 : MI σ12 := by rw [eσ12]; exact MIs_au (a := 108) mσ9 rfl rfl
          have fσ12 : Fr [74, 107, 108] [1] σ0 σ12 := by rw [eσ12]; exact Fr_si fσ9 (by decide) (fun h9 => absurd h9 (by decide))
          have k_16 : (gi σ12 74 1).toInt = (gi σ9 74 1).toInt := by rw [eσ12]; exact congrArg Int32.toInt (gi_si_ne (Or.inl (by decide)))
          intro v13 ev13
          have t_17 : (1 : Int32).toInt = 1 := rfl
          have t_18 : (x2 + (1 : Int32)).toInt = x2.toInt + (1 : Int32).toInt := i_add (by omega) (by omega)
          have t_19 : v13.toInt = (x2 + (1 : Int32)).toInt := congrArg Int32.toInt ev13
          exact ih2 x1 v13 σ12 mσ12 fσ12 (by omega) (by omega) (by omega) (by omega) (by first | assumption | omega | simp_all) (by first | assumption | omega | simp_all) (by omega)
  have U2 := T 9
  have f0 : Fr [74, 107, 108] [1] σ0 σ0 := Fr_rf
  refine s_X12_goPause_0 C hN ?_
  have t_20 : (0 : Int32).toInt = 0 := rfl
  exact U2 a1 (0 : Int32) σ0 m0 f0 (by omega) (by omega) (by omega) (by omega) (by first | assumption | omega | simp_all) (by first | assumption | omega | simp_all) (by omega)
set_option maxRecDepth 100000 in
set_option maxHeartbeats 4000000 in
theorem k_X12_isDone {l : Launch} {V : Vx} {σ0 : Sg} {Qk : Int32 → Sg → Prop} (m0 : MI σ0) (h9ret : ∀ (r : Int32) (σ' : Sg), MI σ' → Fr [] [] σ0 σ' → (0 ≤ r.toInt) → (r.toInt ≤ 1) → Qk r σ') : K_X12_isDone l V σ0 Qk := by
  refine e_X12_isDone (fun M hl hV hN C => ?_)
  subst hl
  subst hV
  have T : ∀ n : Nat, (∀ (x1 : Int32) (σ : Sg), MI σ → Fr [] [] σ0 σ → (0 ≤ x1.toInt) → (x1.toInt ≤ 6) → (7 - x1.toInt).toNat < n → PS M 2 [(0, .ref 74), (1, .int x1)] [] σ (0, 0)) := by
    intro n
    induction n with
    | zero => exact fun _ _ _ _ _ _ h8 => absurd h8 (Nat.not_lt_zero _)
    | succ n ih =>
      have ih2 := ih
      · intro x1 σ mσ fσ lx1 ux1 hmu
        refine s_X12_isDone_2 C hN ?_
        refine ⟨?_, ?_⟩
        · intro q_1
          have t_2 := MI_f0 mσ
          have b_3 : (gi σ 74 0).toInt ≤ x1.toInt := Int32.le_iff_toInt_le.mp q_1
          have t_4 : (1 : Int32).toInt = 1 := rfl
          exact h9ret (1 : Int32) σ mσ fσ (by omega) (by omega)
        · intro q_1
          have t_5 := MI_f0 mσ
          have b_6 : ¬ (gi σ 74 0).toInt ≤ x1.toInt := mt Int32.le_iff_toInt_le.mpr q_1
          have hv_7 : vp_in x1 6 := vp_in_iff.mpr ⟨by omega, by omega⟩
          refine ⟨hv_7, ?_⟩
          refine k_X12_fieldLong mσ  (fun r4 σ3 mσ3 cσ3 => ?_)
          have fσ3 : Fr [] [] σ0 σ3 := Fr_tr fσ cσ3 (by decide) (by decide)
          refine ⟨?_, ?_⟩
          · intro q_8
            have b_9 : r4.toInt ≤ (gi σ 105 x1.toNatClampNeg).toInt := Int32.le_iff_toInt_le.mp q_8
            intro v6 ev6
            have t_10 : (1 : Int32).toInt = 1 := rfl
            have t_11 : (x1 + (1 : Int32)).toInt = x1.toInt + (1 : Int32).toInt := i_add (by omega) (by omega)
            have t_12 : v6.toInt = (x1 + (1 : Int32)).toInt := congrArg Int32.toInt ev6
            exact ih2 v6 σ3 mσ3 fσ3 (by omega) (by omega) (by omega)
          · intro q_8
            have b_13 : ¬ r4.toInt ≤ (gi σ 105 x1.toNatClampNeg).toInt := mt Int32.le_iff_toInt_le.mpr q_8
            have t_14 : (0 : Int32).toInt = 0 := rfl
            exact h9ret (0 : Int32) σ3 mσ3 fσ3 (by omega) (by omega)
  have U2 := T 9
  have f0 : Fr [] [] σ0 σ0 := Fr_rf
  refine s_X12_isDone_0 C hN ?_
  have t_15 : (0 : Int32).toInt = 0 := rfl
  exact U2 (0 : Int32) σ0 m0 f0 (by omega) (by omega) (by omega)
set_option maxRecDepth 100000 in
set_option maxHeartbeats 4000000 in
theorem k_X12_isTape {l : Launch} {V : Vx} {a1 : Int32} {σ0 : Sg} {Qk : Int32 → Sg → Prop} (m0 : MI σ0) (h9ret : ∀ (r : Int32) (σ' : Sg), MI σ' → Fr [] [] σ0 σ' → (0 ≤ r.toInt) → (r.toInt ≤ 1) → ((r.toInt = 1 ∧ 0 ≤ a1.toInt ∧ a1.toInt ≤ 5) ∨ (r.toInt = 0 ∧ (a1.toInt < 0 ∨ 5 < a1.toInt))) → Qk r σ') : K_X12_isTape l V a1 σ0 Qk := by
  refine e_X12_isTape (fun M hl hV hN C => ?_)
  subst hl
  subst hV
  have f0 : Fr [] [] σ0 σ0 := Fr_rf
  refine s_X12_isTape_0 C hN ?_
  have t_1 : (0 : Int32).toInt = 0 := rfl
  have t_2 : (5 : Int32).toInt = 5 := rfl
  refine k_X12_in m0  (fun r2 σ1 mσ1 cσ1 plσ1 phσ1 pσ1_0 => ?_)
  have fσ1 : Fr [] [] σ0 σ1 := Fr_tr f0 cσ1 (by decide) (by decide)
  refine ⟨i_bool (by omega) (by omega), ?_⟩
  exact h9ret r2 σ1 mσ1 fσ1 (by omega) (by omega) (by first | assumption | omega | simp_all)
set_option maxRecDepth 100000 in
set_option maxHeartbeats 4000000 in
theorem k_X12_trace {l : Launch} {V : Vx} {a1 : Int32} {σ0 : Sg} {Qk : Int32 → Sg → Prop} (m0 : MI σ0) (h9ret : ∀ (r : Int32) (σ' : Sg), MI σ' → Fr [] [] σ0 σ' → Qk r σ') : K_X12_trace l V a1 σ0 Qk := by
  refine e_X12_trace (fun M hl hV hN C => ?_)
  subst hl
  subst hV
  have f0 : Fr [] [] σ0 σ0 := Fr_rf
  refine s_X12_trace_0 C hN ?_
  have t_1 : (0 : Int32).toInt = 0 := rfl
  have t_2 : (19 : Int32).toInt = 19 := rfl
  refine k_X12_in m0  (fun r2 σ1 mσ1 cσ1 plσ1 phσ1 pσ1_0 => ?_)
  have fσ1 : Fr [] [] σ0 σ1 := Fr_tr f0 cσ1 (by decide) (by decide)
  refine ⟨?_, ?_⟩
  · intro q_3
    have b_4 : r2.toInt = (0 : Int32).toInt := congrArg Int32.toInt q_3
    exact h9ret (-1 : Int32) σ1 mσ1 fσ1
  · intro q_3
    have b_5 : ¬ r2.toInt = (0 : Int32).toInt := fun h9 => q_3 (Int32.toInt_inj.mp h9)
    refine ⟨?_, ?_⟩
    · intro q_6
      have t_7 := MI_f69 mσ1
      have b_8 : (gi σ1 74 69).toInt ≤ a1.toInt := Int32.le_iff_toInt_le.mp q_6
      exact h9ret (-1 : Int32) σ1 mσ1 fσ1
    · intro q_6
      have t_9 := MI_f69 mσ1
      have b_10 : ¬ (gi σ1 74 69).toInt ≤ a1.toInt := mt Int32.le_iff_toInt_le.mpr q_6
      have hv_11 : vp_in a1 20 := vp_in_iff.mpr ⟨by omega, by omega⟩
      refine ⟨hv_11, ?_⟩
      exact h9ret (gi σ1 170 a1.toNatClampNeg) σ1 mσ1 fσ1
set_option maxRecDepth 100000 in
set_option maxHeartbeats 4000000 in
theorem k_X12_count {l : Launch} {V : Vx} {a1 : Int32} {σ0 : Sg} {Qk : Int32 → Sg → Prop} (m0 : MI σ0) (h9ret : ∀ (r : Int32) (σ' : Sg), MI σ' → Fr [] [] σ0 σ' → Qk r σ') : K_X12_count l V a1 σ0 Qk := by
  refine e_X12_count (fun M hl hV hN C => ?_)
  subst hl
  subst hV
  have f0 : Fr [] [] σ0 σ0 := Fr_rf
  refine s_X12_count_0 C hN ?_
  refine ⟨?_, ?_, ?_, ?_, ?_, ?_, ?_, ?_⟩
  · intro q_1
    exact h9ret (-2 : Int32) σ0 m0 f0
  · intro q_1
    exact h9ret (gi σ0 74 0) σ0 m0 f0
  · intro q_1
    exact h9ret (gi σ0 74 11) σ0 m0 f0
  · intro q_1
    exact h9ret (gi σ0 74 41) σ0 m0 f0
  · intro q_1
    exact h9ret (gi σ0 74 45) σ0 m0 f0
  · intro q_1
    exact h9ret (gi σ0 74 46) σ0 m0 f0
  · intro q_1
    exact h9ret (gi σ0 74 13) σ0 m0 f0
  · intro q_1
    exact h9ret (gi σ0 74 69) σ0 m0 f0
set_option maxRecDepth 100000 in
set_option maxHeartbeats 4000000 in
theorem k_X12_narrow {l : Launch} {V : Vx} {a1 : Int32} {a2 : Int64} {σ0 : Sg} {Qk : Int64 → Sg → Prop} (m0 : MI σ0) (h9ret : ∀ (r : Int64) (σ' : Sg), MI σ' → Fr [] [] σ0 σ' → Qk r σ') : K_X12_narrow l V a1 a2 σ0 Qk := by
  refine e_X12_narrow (fun M hl hV hN C => ?_)
  subst hl
  subst hV
  have f0 : Fr [] [] σ0 σ0 := Fr_rf
  refine s_X12_narrow_0 C hN ?_
  refine ⟨?_, ?_⟩
  · intro q_1
    have t_2 : (0 : Int32).toInt = 0 := rfl
    have b_3 : ¬ a1.toInt = (0 : Int32).toInt := fun h9 => q_1 (Int32.toInt_inj.mp h9)
    refine ⟨?_, ?_⟩
    · intro q_4
      have t_5 : (1 : Int32).toInt = 1 := rfl
      have b_6 : ¬ a1.toInt = (1 : Int32).toInt := fun h9 => q_4 (Int32.toInt_inj.mp h9)
      refine ⟨?_, ?_⟩
      · intro q_7
        have t_8 : (2 : Int32).toInt = 2 := rfl
        have b_9 : ¬ a1.toInt = (2 : Int32).toInt := fun h9 => q_7 (Int32.toInt_inj.mp h9)
        refine ⟨?_, ?_⟩
        · intro q_10
          have t_11 : (4 : Int32).toInt = 4 := rfl
          have b_12 : ¬ a1.toInt = (4 : Int32).toInt := fun h9 => q_10 (Int32.toInt_inj.mp h9)
          exact h9ret a2 σ0 m0 f0
        · intro q_10
          have t_13 : (4 : Int32).toInt = 4 := rfl
          have b_14 : a1.toInt = (4 : Int32).toInt := congrArg Int32.toInt q_10
          refine ⟨?_, ?_⟩
          · intro q_15
            exact h9ret (0 : Int64) σ0 m0 f0
          · intro q_15
            exact h9ret (1 : Int64) σ0 m0 f0
      · intro q_7
        have t_16 : (2 : Int32).toInt = 2 := rfl
        have b_17 : a1.toInt = (2 : Int32).toInt := congrArg Int32.toInt q_7
        exact h9ret a2.toInt32.toInt64 σ0 m0 f0
    · intro q_4
      have t_18 : (1 : Int32).toInt = 1 := rfl
      have b_19 : a1.toInt = (1 : Int32).toInt := congrArg Int32.toInt q_4
      exact h9ret a2.toInt32.toInt16.toInt32.toInt64 σ0 m0 f0
  · intro q_1
    have t_20 : (0 : Int32).toInt = 0 := rfl
    have b_21 : a1.toInt = (0 : Int32).toInt := congrArg Int32.toInt q_1
    exact h9ret a2.toInt32.toInt8.toInt32.toInt64 σ0 m0 f0
set_option maxRecDepth 100000 in
set_option maxHeartbeats 4000000 in
theorem k_X12_holds {l : Launch} {V : Vx} {a1 : Int32} {a2 : Int32} {σ0 : Sg} {Qk : Int32 → Sg → Prop} (m0 : MI σ0) (l_a1 : 0 ≤ a1.toInt) (u_a1 : a1.toInt ≤ 59) (l_a2 : 0 ≤ a2.toInt) (u_a2 : a2.toInt ≤ 5) (pre0 : ∃ f : Nat, f < 6 ∧ okCl σ0 f a1.toNatClampNeg) (h9ret : ∀ (r : Int32) (σ' : Sg), MI σ' → Fr [129] [] σ0 σ' → (0 ≤ r.toInt) → (r.toInt ≤ 1) → Qk r σ') : K_X12_holds l V a1 a2 σ0 Qk := by
  refine e_X12_holds (fun M hl hV hN C => ?_)
  subst hl
  subst hV
  obtain ⟨fd, hfd, lo, hi, e1, e2, b1, b2, b3, H, hH0, hH⟩ := pre0
  have T : ∀ n : Nat, (∀ (x1 : Int32) (x2 : Int32) (x3 : Int32) (x4 : Int32) (σ : Sg), MI σ → Fr [129] [] σ0 σ → (0 ≤ x1.toInt) → (x1.toInt ≤ 59) → (0 ≤ x2.toInt) → (x2.toInt ≤ 5) → (0 ≤ x3.toInt) → (x3.toInt ≤ 100) → (0 ≤ x4.toInt) → (x4.toInt ≤ 600) → (x1 = a1) → ((lo : Int) ≤ x4.toInt) → (x4.toInt ≤ hi) → (x3.toInt = H x4.toInt.toNat) → (601 - x4.toInt).toNat < n → PS M 10 [(0, .ref 74), (1, .int x1), (2, .int x2), (3, .int x3), (4, .int x4)] [] σ (0, 0)) := by
    intro n
    induction n with
    | zero => exact fun _ _ _ _ _ _ _ _ _ _ _ _ _ _ _ _ _ _ _ h8 => absurd h8 (Nat.not_lt_zero _)
    | succ n ih =>
      have ih10 := ih
      · intro x1 x2 x3 x4 σ mσ fσ lx1 ux1 lx2 ux2 lx3 ux3 lx4 ux4 i0 i1 i2 i3 hmu
        subst i0
        have g1 : (gi σ 121 x1.toNatClampNeg).toInt = hi := by rw [show gi σ 121 x1.toNatClampNeg = gi σ0 121 x1.toNatClampNeg from congrFun (fσ.1 121 (by decide)).1 _]; exact e2
        have g2 : ∀ j, gi σ 122 j = gi σ0 122 j := fun j => congrFun (fσ.1 122 (by decide)).1 j
        have g3 : ∀ w : Int32, w.toInt = x4.toInt + 1 → H w.toInt.toNat = H (x4.toInt.toNat + 1) := fun w hw => by rw [show w.toInt.toNat = x4.toInt.toNat + 1 by omega]
        have hS := hH x4.toInt.toNat
        refine s_X12_holds_10 C hN ?_
        have hv_1 : vp_in x1 60 := vp_in_iff.mpr ⟨by omega, by omega⟩
        refine ⟨hv_1, ?_⟩
        refine ⟨?_, ?_⟩
        · intro q_2
          have b_3 : (gi σ 121 x1.toNatClampNeg).toInt ≤ x4.toInt := Int32.le_iff_toInt_le.mp q_2
          have t_4 : (0 : Int32).toInt = 0 := rfl
          have hv_5 : vp_in (0 : Int32) 100 := vp_in_iff.mpr ⟨by omega, by omega⟩
          refine ⟨hv_5, ?_⟩
          have t_6 := MI_a129 mσ hv_5
          refine ⟨i_bool (by omega) (by omega), ?_⟩
          exact h9ret (gi σ 129 (0 : Int32).toNatClampNeg) σ mσ fσ (by omega) (by omega)
        · intro q_2
          have b_7 : ¬ (gi σ 121 x1.toNatClampNeg).toInt ≤ x4.toInt := mt Int32.le_iff_toInt_le.mpr q_2
          have hv_8 : vp_in x4 600 := vp_in_iff.mpr ⟨by omega, by omega⟩
          refine ⟨hv_8, ?_⟩
          intro v5 ev5
          have hk := hS (by omega) (by omega)
          have e5 : v5 = gi σ0 122 x4.toInt.toNat := by rw [ev5]; exact g2 _
          rw [← e5] at hk
          obtain ⟨k1, k2, k3⟩ := hk
          have k1 : v5.toInt = -33 → 1 ≤ H x4.toInt.toNat ∧ H (x4.toInt.toNat + 1) = H x4.toInt.toNat := fun q => k1 (Int32.toInt_inj.mp q)
          have k2 : ¬ v5.toInt = -33 → v5.toInt < 0 → 2 ≤ H x4.toInt.toNat ∧ H (x4.toInt.toNat + 1) + 1 = H x4.toInt.toNat := fun q => k2 (fun e => q (congrArg Int32.toInt e))
          refine ⟨?_, ?_⟩
          · intro q_9
            have t_10 : (-33 : Int32).toInt = -33 := rfl
            have b_11 : ¬ v5.toInt = (-33 : Int32).toInt := fun h9 => q_9 (Int32.toInt_inj.mp h9)
            refine ⟨?_, ?_⟩
            · intro q_12
              have t_13 : (0 : Int32).toInt = 0 := rfl
              have b_14 : (0 : Int32).toInt ≤ v5.toInt := Int32.le_iff_toInt_le.mp q_12
              have t_15 : (1000 : Int32).toInt = 1000 := rfl
              refine k_X12_factOf mσ (by omega) (by omega) (fun r9 σ8 mσ8 cσ8 => ?_)
              have fσ8 : Fr [129] [] σ0 σ8 := Fr_tr fσ cσ8 (by decide) (by decide)
              intro v10 ev10
              have t_16 : (100 : Int32).toInt = 100 := rfl
              have t_17 : (10 : Int32).toInt = 10 := rfl
              refine ⟨?_, ?_⟩
              · intro q_18
                have b_19 : ¬ v10.toInt = (0 : Int32).toInt := fun h9 => q_18 (Int32.toInt_inj.mp h9)
                refine ⟨?_, ?_⟩
                · intro q_20
                  have t_21 : (1 : Int32).toInt = 1 := rfl
                  have b_22 : ¬ v10.toInt = (1 : Int32).toInt := fun h9 => q_20 (Int32.toInt_inj.mp h9)
                  refine ⟨?_, ?_⟩
                  · intro q_23
                    have b_24 : r9.toInt ≤ (v5 - ((v5 / (100 : Int32)) * (100 : Int32))).toInt := Int32.le_iff_toInt_le.mp q_23
                    have hv_25 : vp_in x3 100 := vp_in_iff.mpr ⟨by omega, by omega⟩
                    refine ⟨hv_25, ?_⟩
                    intro σ15 eσ15
                    have mσ15 : MI σ15 := by rw [eσ15]; exact MIs_z129 mσ8
                    have fσ15 : Fr [129] [] σ0 σ15 := by rw [eσ15]; exact Fr_si fσ8 (by decide) (fun h9 => absurd h9 (by decide))
                    intro v16 ev16
                    have t_26 : (x3 + (1 : Int32)).toInt = x3.toInt + (1 : Int32).toInt := i_add (by omega) (by omega)
                    have t_27 : v16.toInt = (x3 + (1 : Int32)).toInt := congrArg Int32.toInt ev16
                    intro v17 ev17
                    have t_28 : (x4 + (1 : Int32)).toInt = x4.toInt + (1 : Int32).toInt := i_add (by omega) (by omega)
                    have t_29 : v17.toInt = (x4 + (1 : Int32)).toInt := congrArg Int32.toInt ev17
                    try have g4 := g3 v17 (by omega)
                    exact ih10 x1 x2 v16 v17 σ15 mσ15 fσ15 (by omega) (by omega) (by omega) (by omega) (by omega) (by omega) (by omega) (by omega) (by first | assumption | omega | simp_all) (by first | assumption | omega | simp_all) (by first | assumption | omega | simp_all) (by first | assumption | omega | simp_all) (by omega)
                  · intro q_23
                    have b_30 : ¬ r9.toInt ≤ (v5 - ((v5 / (100 : Int32)) * (100 : Int32))).toInt := mt Int32.le_iff_toInt_le.mpr q_23
                    have hv_31 : vp_in x3 100 := vp_in_iff.mpr ⟨by omega, by omega⟩
                    refine ⟨hv_31, ?_⟩
                    intro σ19 eσ19
                    have mσ19 : MI σ19 := by rw [eσ19]; exact MIs_z129 mσ8
                    have fσ19 : Fr [129] [] σ0 σ19 := by rw [eσ19]; exact Fr_si fσ8 (by decide) (fun h9 => absurd h9 (by decide))
                    intro v20 ev20
                    have t_32 : (x3 + (1 : Int32)).toInt = x3.toInt + (1 : Int32).toInt := i_add (by omega) (by omega)
                    have t_33 : v20.toInt = (x3 + (1 : Int32)).toInt := congrArg Int32.toInt ev20
                    intro v21 ev21
                    have t_34 : (x4 + (1 : Int32)).toInt = x4.toInt + (1 : Int32).toInt := i_add (by omega) (by omega)
                    have t_35 : v21.toInt = (x4 + (1 : Int32)).toInt := congrArg Int32.toInt ev21
                    try have g4 := g3 v21 (by omega)
                    exact ih10 x1 x2 v20 v21 σ19 mσ19 fσ19 (by omega) (by omega) (by omega) (by omega) (by omega) (by omega) (by omega) (by omega) (by first | assumption | omega | simp_all) (by first | assumption | omega | simp_all) (by first | assumption | omega | simp_all) (by first | assumption | omega | simp_all) (by omega)
                · intro q_20
                  have t_36 : (1 : Int32).toInt = 1 := rfl
                  have b_37 : v10.toInt = (1 : Int32).toInt := congrArg Int32.toInt q_20
                  refine ⟨?_, ?_⟩
                  · intro q_38
                    have b_39 : ¬ r9.toInt = (v5 - ((v5 / (100 : Int32)) * (100 : Int32))).toInt := fun h9 => q_38 (Int32.toInt_inj.mp h9)
                    have hv_40 : vp_in x3 100 := vp_in_iff.mpr ⟨by omega, by omega⟩
                    refine ⟨hv_40, ?_⟩
                    intro σ24 eσ24
                    have mσ24 : MI σ24 := by rw [eσ24]; exact MIs_z129 mσ8
                    have fσ24 : Fr [129] [] σ0 σ24 := by rw [eσ24]; exact Fr_si fσ8 (by decide) (fun h9 => absurd h9 (by decide))
                    intro v25 ev25
                    have t_41 : (x3 + (1 : Int32)).toInt = x3.toInt + (1 : Int32).toInt := i_add (by omega) (by omega)
                    have t_42 : v25.toInt = (x3 + (1 : Int32)).toInt := congrArg Int32.toInt ev25
                    intro v26 ev26
                    have t_43 : (x4 + (1 : Int32)).toInt = x4.toInt + (1 : Int32).toInt := i_add (by omega) (by omega)
                    have t_44 : v26.toInt = (x4 + (1 : Int32)).toInt := congrArg Int32.toInt ev26
                    try have g4 := g3 v26 (by omega)
                    exact ih10 x1 x2 v25 v26 σ24 mσ24 fσ24 (by omega) (by omega) (by omega) (by omega) (by omega) (by omega) (by omega) (by omega) (by first | assumption | omega | simp_all) (by first | assumption | omega | simp_all) (by first | assumption | omega | simp_all) (by first | assumption | omega | simp_all) (by omega)
                  · intro q_38
                    have b_45 : r9.toInt = (v5 - ((v5 / (100 : Int32)) * (100 : Int32))).toInt := congrArg Int32.toInt q_38
                    have hv_46 : vp_in x3 100 := vp_in_iff.mpr ⟨by omega, by omega⟩
                    refine ⟨hv_46, ?_⟩
                    intro σ28 eσ28
                    have mσ28 : MI σ28 := by rw [eσ28]; exact MIs_z129 mσ8
                    have fσ28 : Fr [129] [] σ0 σ28 := by rw [eσ28]; exact Fr_si fσ8 (by decide) (fun h9 => absurd h9 (by decide))
                    intro v29 ev29
                    have t_47 : (x3 + (1 : Int32)).toInt = x3.toInt + (1 : Int32).toInt := i_add (by omega) (by omega)
                    have t_48 : v29.toInt = (x3 + (1 : Int32)).toInt := congrArg Int32.toInt ev29
                    intro v30 ev30
                    have t_49 : (x4 + (1 : Int32)).toInt = x4.toInt + (1 : Int32).toInt := i_add (by omega) (by omega)
                    have t_50 : v30.toInt = (x4 + (1 : Int32)).toInt := congrArg Int32.toInt ev30
                    try have g4 := g3 v30 (by omega)
                    exact ih10 x1 x2 v29 v30 σ28 mσ28 fσ28 (by omega) (by omega) (by omega) (by omega) (by omega) (by omega) (by omega) (by omega) (by first | assumption | omega | simp_all) (by first | assumption | omega | simp_all) (by first | assumption | omega | simp_all) (by first | assumption | omega | simp_all) (by omega)
              · intro q_18
                have b_51 : v10.toInt = (0 : Int32).toInt := congrArg Int32.toInt q_18
                refine ⟨?_, ?_⟩
                · intro q_52
                  have b_53 : (v5 - ((v5 / (100 : Int32)) * (100 : Int32))).toInt ≤ r9.toInt := Int32.le_iff_toInt_le.mp q_52
                  have hv_54 : vp_in x3 100 := vp_in_iff.mpr ⟨by omega, by omega⟩
                  refine ⟨hv_54, ?_⟩
                  intro σ33 eσ33
                  have mσ33 : MI σ33 := by rw [eσ33]; exact MIs_z129 mσ8
                  have fσ33 : Fr [129] [] σ0 σ33 := by rw [eσ33]; exact Fr_si fσ8 (by decide) (fun h9 => absurd h9 (by decide))
                  intro v34 ev34
                  have t_55 : (1 : Int32).toInt = 1 := rfl
                  have t_56 : (x3 + (1 : Int32)).toInt = x3.toInt + (1 : Int32).toInt := i_add (by omega) (by omega)
                  have t_57 : v34.toInt = (x3 + (1 : Int32)).toInt := congrArg Int32.toInt ev34
                  intro v35 ev35
                  have t_58 : (x4 + (1 : Int32)).toInt = x4.toInt + (1 : Int32).toInt := i_add (by omega) (by omega)
                  have t_59 : v35.toInt = (x4 + (1 : Int32)).toInt := congrArg Int32.toInt ev35
                  try have g4 := g3 v35 (by omega)
                  exact ih10 x1 x2 v34 v35 σ33 mσ33 fσ33 (by omega) (by omega) (by omega) (by omega) (by omega) (by omega) (by omega) (by omega) (by first | assumption | omega | simp_all) (by first | assumption | omega | simp_all) (by first | assumption | omega | simp_all) (by first | assumption | omega | simp_all) (by omega)
                · intro q_52
                  have b_60 : ¬ (v5 - ((v5 / (100 : Int32)) * (100 : Int32))).toInt ≤ r9.toInt := mt Int32.le_iff_toInt_le.mpr q_52
                  have hv_61 : vp_in x3 100 := vp_in_iff.mpr ⟨by omega, by omega⟩
                  refine ⟨hv_61, ?_⟩
                  intro σ37 eσ37
                  have mσ37 : MI σ37 := by rw [eσ37]; exact MIs_z129 mσ8
                  have fσ37 : Fr [129] [] σ0 σ37 := by rw [eσ37]; exact Fr_si fσ8 (by decide) (fun h9 => absurd h9 (by decide))
                  intro v38 ev38
                  have t_62 : (1 : Int32).toInt = 1 := rfl
                  have t_63 : (x3 + (1 : Int32)).toInt = x3.toInt + (1 : Int32).toInt := i_add (by omega) (by omega)
                  have t_64 : v38.toInt = (x3 + (1 : Int32)).toInt := congrArg Int32.toInt ev38
                  intro v39 ev39
                  have t_65 : (x4 + (1 : Int32)).toInt = x4.toInt + (1 : Int32).toInt := i_add (by omega) (by omega)
                  have t_66 : v39.toInt = (x4 + (1 : Int32)).toInt := congrArg Int32.toInt ev39
                  try have g4 := g3 v39 (by omega)
                  exact ih10 x1 x2 v38 v39 σ37 mσ37 fσ37 (by omega) (by omega) (by omega) (by omega) (by omega) (by omega) (by omega) (by omega) (by first | assumption | omega | simp_all) (by first | assumption | omega | simp_all) (by first | assumption | omega | simp_all) (by first | assumption | omega | simp_all) (by omega)
            · intro q_12
              have t_67 : (0 : Int32).toInt = 0 := rfl
              have b_68 : ¬ (0 : Int32).toInt ≤ v5.toInt := mt Int32.le_iff_toInt_le.mpr q_12
              intro v40 ev40
              have t_69 : (1 : Int32).toInt = 1 := rfl
              have t_70 : (-(1 : Int32)).toInt = -(1 : Int32).toInt := i_neg (by omega)
              have t_71 : (x3 + (-(1 : Int32))).toInt = x3.toInt + (-(1 : Int32)).toInt := i_add (by omega) (by omega)
              have t_72 : v40.toInt = (x3 + (-(1 : Int32))).toInt := congrArg Int32.toInt ev40
              refine ⟨?_, ?_⟩
              · intro q_73
                have t_74 : (-38 : Int32).toInt = -38 := rfl
                have b_75 : ¬ v5.toInt = (-38 : Int32).toInt := fun h9 => q_73 (Int32.toInt_inj.mp h9)
                have t_76 : (v40 - (1 : Int32)).toInt = v40.toInt - (1 : Int32).toInt := i_sub (by omega) (by omega)
                have hv_77 : vp_in (v40 - (1 : Int32)) 100 := vp_in_iff.mpr ⟨by omega, by omega⟩
                refine ⟨hv_77, ?_⟩
                refine ⟨?_, ?_⟩
                · intro q_78
                  have t_79 := MI_a129 mσ hv_77
                  have b_80 : ¬ (gi σ 129 (v40 - (1 : Int32)).toNatClampNeg).toInt = (0 : Int32).toInt := fun h9 => q_78 (Int32.toInt_inj.mp h9)
                  refine ⟨hv_77, ?_⟩
                  intro σ45 eσ45
                  have mσ45 : MI σ45 := by rw [eσ45]; exact MIs_z129 mσ
                  have fσ45 : Fr [129] [] σ0 σ45 := by rw [eσ45]; exact Fr_si fσ (by decide) (fun h9 => absurd h9 (by decide))
                  intro v46 ev46
                  have t_81 : (x4 + (1 : Int32)).toInt = x4.toInt + (1 : Int32).toInt := i_add (by omega) (by omega)
                  have t_82 : v46.toInt = (x4 + (1 : Int32)).toInt := congrArg Int32.toInt ev46
                  try have g4 := g3 v46 (by omega)
                  exact ih10 x1 x2 v40 v46 σ45 mσ45 fσ45 (by omega) (by omega) (by omega) (by omega) (by omega) (by omega) (by omega) (by omega) (by first | assumption | omega | simp_all) (by first | assumption | omega | simp_all) (by first | assumption | omega | simp_all) (by first | assumption | omega | simp_all) (by omega)
                · intro q_78
                  have t_83 := MI_a129 mσ hv_77
                  have b_84 : (gi σ 129 (v40 - (1 : Int32)).toNatClampNeg).toInt = (0 : Int32).toInt := congrArg Int32.toInt q_78
                  have hv_85 : vp_in v40 100 := vp_in_iff.mpr ⟨by omega, by omega⟩
                  refine ⟨hv_85, ?_⟩
                  refine ⟨?_, ?_⟩
                  · intro q_86
                    have t_87 := MI_a129 mσ hv_85
                    have b_88 : (gi σ 129 v40.toNatClampNeg).toInt = (0 : Int32).toInt := congrArg Int32.toInt q_86
                    refine ⟨hv_77, ?_⟩
                    intro σ50 eσ50
                    have mσ50 : MI σ50 := by rw [eσ50]; exact MIs_z129 mσ
                    have fσ50 : Fr [129] [] σ0 σ50 := by rw [eσ50]; exact Fr_si fσ (by decide) (fun h9 => absurd h9 (by decide))
                    intro v51 ev51
                    have t_89 : (x4 + (1 : Int32)).toInt = x4.toInt + (1 : Int32).toInt := i_add (by omega) (by omega)
                    have t_90 : v51.toInt = (x4 + (1 : Int32)).toInt := congrArg Int32.toInt ev51
                    try have g4 := g3 v51 (by omega)
                    exact ih10 x1 x2 v40 v51 σ50 mσ50 fσ50 (by omega) (by omega) (by omega) (by omega) (by omega) (by omega) (by omega) (by omega) (by first | assumption | omega | simp_all) (by first | assumption | omega | simp_all) (by first | assumption | omega | simp_all) (by first | assumption | omega | simp_all) (by omega)
                  · intro q_86
                    have t_91 := MI_a129 mσ hv_85
                    have b_92 : ¬ (gi σ 129 v40.toNatClampNeg).toInt = (0 : Int32).toInt := fun h9 => q_86 (Int32.toInt_inj.mp h9)
                    refine ⟨hv_77, ?_⟩
                    intro σ53 eσ53
                    have mσ53 : MI σ53 := by rw [eσ53]; exact MIs_z129 mσ
                    have fσ53 : Fr [129] [] σ0 σ53 := by rw [eσ53]; exact Fr_si fσ (by decide) (fun h9 => absurd h9 (by decide))
                    intro v54 ev54
                    have t_93 : (x4 + (1 : Int32)).toInt = x4.toInt + (1 : Int32).toInt := i_add (by omega) (by omega)
                    have t_94 : v54.toInt = (x4 + (1 : Int32)).toInt := congrArg Int32.toInt ev54
                    try have g4 := g3 v54 (by omega)
                    exact ih10 x1 x2 v40 v54 σ53 mσ53 fσ53 (by omega) (by omega) (by omega) (by omega) (by omega) (by omega) (by omega) (by omega) (by first | assumption | omega | simp_all) (by first | assumption | omega | simp_all) (by first | assumption | omega | simp_all) (by first | assumption | omega | simp_all) (by omega)
              · intro q_73
                have t_95 : (-38 : Int32).toInt = -38 := rfl
                have b_96 : v5.toInt = (-38 : Int32).toInt := congrArg Int32.toInt q_73
                have t_97 : (v40 - (1 : Int32)).toInt = v40.toInt - (1 : Int32).toInt := i_sub (by omega) (by omega)
                have hv_98 : vp_in (v40 - (1 : Int32)) 100 := vp_in_iff.mpr ⟨by omega, by omega⟩
                refine ⟨hv_98, ?_⟩
                refine ⟨?_, ?_⟩
                · intro q_99
                  have t_100 := MI_a129 mσ hv_98
                  have b_101 : (gi σ 129 (v40 - (1 : Int32)).toNatClampNeg).toInt = (0 : Int32).toInt := congrArg Int32.toInt q_99
                  refine ⟨hv_98, ?_⟩
                  intro σ58 eσ58
                  have mσ58 : MI σ58 := by rw [eσ58]; exact MIs_z129 mσ
                  have fσ58 : Fr [129] [] σ0 σ58 := by rw [eσ58]; exact Fr_si fσ (by decide) (fun h9 => absurd h9 (by decide))
                  intro v59 ev59
                  have t_102 : (x4 + (1 : Int32)).toInt = x4.toInt + (1 : Int32).toInt := i_add (by omega) (by omega)
                  have t_103 : v59.toInt = (x4 + (1 : Int32)).toInt := congrArg Int32.toInt ev59
                  try have g4 := g3 v59 (by omega)
                  exact ih10 x1 x2 v40 v59 σ58 mσ58 fσ58 (by omega) (by omega) (by omega) (by omega) (by omega) (by omega) (by omega) (by omega) (by first | assumption | omega | simp_all) (by first | assumption | omega | simp_all) (by first | assumption | omega | simp_all) (by first | assumption | omega | simp_all) (by omega)
                · intro q_99
                  have t_104 := MI_a129 mσ hv_98
                  have b_105 : ¬ (gi σ 129 (v40 - (1 : Int32)).toNatClampNeg).toInt = (0 : Int32).toInt := fun h9 => q_99 (Int32.toInt_inj.mp h9)
                  have hv_106 : vp_in v40 100 := vp_in_iff.mpr ⟨by omega, by omega⟩
                  refine ⟨hv_106, ?_⟩
                  refine ⟨?_, ?_⟩
                  · intro q_107
                    have t_108 := MI_a129 mσ hv_106
                    have b_109 : (gi σ 129 v40.toNatClampNeg).toInt = (0 : Int32).toInt := congrArg Int32.toInt q_107
                    refine ⟨hv_98, ?_⟩
                    intro σ63 eσ63
                    have mσ63 : MI σ63 := by rw [eσ63]; exact MIs_z129 mσ
                    have fσ63 : Fr [129] [] σ0 σ63 := by rw [eσ63]; exact Fr_si fσ (by decide) (fun h9 => absurd h9 (by decide))
                    intro v64 ev64
                    have t_110 : (x4 + (1 : Int32)).toInt = x4.toInt + (1 : Int32).toInt := i_add (by omega) (by omega)
                    have t_111 : v64.toInt = (x4 + (1 : Int32)).toInt := congrArg Int32.toInt ev64
                    try have g4 := g3 v64 (by omega)
                    exact ih10 x1 x2 v40 v64 σ63 mσ63 fσ63 (by omega) (by omega) (by omega) (by omega) (by omega) (by omega) (by omega) (by omega) (by first | assumption | omega | simp_all) (by first | assumption | omega | simp_all) (by first | assumption | omega | simp_all) (by first | assumption | omega | simp_all) (by omega)
                  · intro q_107
                    have t_112 := MI_a129 mσ hv_106
                    have b_113 : ¬ (gi σ 129 v40.toNatClampNeg).toInt = (0 : Int32).toInt := fun h9 => q_107 (Int32.toInt_inj.mp h9)
                    refine ⟨hv_98, ?_⟩
                    intro σ66 eσ66
                    have mσ66 : MI σ66 := by rw [eσ66]; exact MIs_z129 mσ
                    have fσ66 : Fr [129] [] σ0 σ66 := by rw [eσ66]; exact Fr_si fσ (by decide) (fun h9 => absurd h9 (by decide))
                    intro v67 ev67
                    have t_114 : (x4 + (1 : Int32)).toInt = x4.toInt + (1 : Int32).toInt := i_add (by omega) (by omega)
                    have t_115 : v67.toInt = (x4 + (1 : Int32)).toInt := congrArg Int32.toInt ev67
                    try have g4 := g3 v67 (by omega)
                    exact ih10 x1 x2 v40 v67 σ66 mσ66 fσ66 (by omega) (by omega) (by omega) (by omega) (by omega) (by omega) (by omega) (by omega) (by first | assumption | omega | simp_all) (by first | assumption | omega | simp_all) (by first | assumption | omega | simp_all) (by first | assumption | omega | simp_all) (by omega)
          · intro q_9
            have t_116 : (-33 : Int32).toInt = -33 := rfl
            have b_117 : v5.toInt = (-33 : Int32).toInt := congrArg Int32.toInt q_9
            have t_118 : (1 : Int32).toInt = 1 := rfl
            have t_119 : (x3 - (1 : Int32)).toInt = x3.toInt - (1 : Int32).toInt := i_sub (by omega) (by omega)
            have hv_120 : vp_in (x3 - (1 : Int32)) 100 := vp_in_iff.mpr ⟨by omega, by omega⟩
            refine ⟨hv_120, ?_⟩
            refine ⟨?_, ?_⟩
            · intro q_121
              have t_122 := MI_a129 mσ hv_120
              have t_123 : (0 : Int32).toInt = 0 := rfl
              have b_124 : ¬ (gi σ 129 (x3 - (1 : Int32)).toNatClampNeg).toInt = (0 : Int32).toInt := fun h9 => q_121 (Int32.toInt_inj.mp h9)
              refine ⟨hv_120, ?_⟩
              intro σ71 eσ71
              have mσ71 : MI σ71 := by rw [eσ71]; exact MIs_z129 mσ
              have fσ71 : Fr [129] [] σ0 σ71 := by rw [eσ71]; exact Fr_si fσ (by decide) (fun h9 => absurd h9 (by decide))
              intro v72 ev72
              have t_125 : (x4 + (1 : Int32)).toInt = x4.toInt + (1 : Int32).toInt := i_add (by omega) (by omega)
              have t_126 : v72.toInt = (x4 + (1 : Int32)).toInt := congrArg Int32.toInt ev72
              try have g4 := g3 v72 (by omega)
              exact ih10 x1 x2 x3 v72 σ71 mσ71 fσ71 (by omega) (by omega) (by omega) (by omega) (by omega) (by omega) (by omega) (by omega) (by first | assumption | omega | simp_all) (by first | assumption | omega | simp_all) (by first | assumption | omega | simp_all) (by first | assumption | omega | simp_all) (by omega)
            · intro q_121
              have t_127 := MI_a129 mσ hv_120
              have t_128 : (0 : Int32).toInt = 0 := rfl
              have b_129 : (gi σ 129 (x3 - (1 : Int32)).toNatClampNeg).toInt = (0 : Int32).toInt := congrArg Int32.toInt q_121
              refine ⟨hv_120, ?_⟩
              intro σ74 eσ74
              have mσ74 : MI σ74 := by rw [eσ74]; exact MIs_z129 mσ
              have fσ74 : Fr [129] [] σ0 σ74 := by rw [eσ74]; exact Fr_si fσ (by decide) (fun h9 => absurd h9 (by decide))
              intro v75 ev75
              have t_130 : (x4 + (1 : Int32)).toInt = x4.toInt + (1 : Int32).toInt := i_add (by omega) (by omega)
              have t_131 : v75.toInt = (x4 + (1 : Int32)).toInt := congrArg Int32.toInt ev75
              try have g4 := g3 v75 (by omega)
              exact ih10 x1 x2 x3 v75 σ74 mσ74 fσ74 (by omega) (by omega) (by omega) (by omega) (by omega) (by omega) (by omega) (by omega) (by first | assumption | omega | simp_all) (by first | assumption | omega | simp_all) (by first | assumption | omega | simp_all) (by first | assumption | omega | simp_all) (by omega)
  have U10 := T 700
  have f0 : Fr [129] [] σ0 σ0 := Fr_rf
  refine s_X12_holds_0 C hN ?_
  have hv_132 : vp_in a1 60 := vp_in_iff.mpr ⟨by omega, by omega⟩
  refine ⟨hv_132, ?_⟩
  intro v2 ev2
  have t_133 : (0 : Int32).toInt = 0 := rfl
  try have g4 := g3 v2 (by omega)
  exact U10 a1 a2 (0 : Int32) v2 σ0 m0 f0 (by omega) (by omega) (by omega) (by omega) (by omega) (by omega) (by omega) (by omega) (by first | assumption | omega | simp_all) (by first | assumption | omega | simp_all) (by first | assumption | omega | simp_all) (by first | assumption | omega | simp_all) (by omega)
set_option maxRecDepth 100000 in
set_option maxHeartbeats 4000000 in
theorem k_X12_paceAt {l : Launch} {V : Vx} {a1 : Int32} {σ0 : Sg} {Qk : Int32 → Sg → Prop} (m0 : MI σ0) (l_a1 : 0 ≤ a1.toInt) (u_a1 : a1.toInt ≤ 5) (h9ret : ∀ (r : Int32) (σ' : Sg), MI σ' → Fr [74, 129] [30] σ0 σ' → Qk r σ') : K_X12_paceAt l V a1 σ0 Qk := by
  refine e_X12_paceAt (fun M hl hV hN C => ?_)
  subst hl
  subst hV
  have T : ∀ n : Nat, (∀ (x1 : Int32) (x2 : Int32) (x3 : Int32) (σ : Sg), MI σ → Fr [74, 129] [30] σ0 σ → (0 ≤ x1.toInt) → (x1.toInt ≤ 5) → (0 ≤ x3.toInt) → (x3.toInt ≤ 60) → ((gi σ 74 12).toInt = (gi σ0 74 12).toInt) → ((gi σ0 74 12).toInt < 0 ∨ (0 ≤ (gi σ0 74 12).toInt ∧ 10 * (gi σ0 74 12).toInt ≤ x3.toInt)) → (61 - x3.toInt).toNat < n → PS M 13 [(0, .ref 74), (1, .int x1), (2, .int x2), (3, .int x3)] [] σ (0, 0)) := by
    intro n
    induction n with
    | zero => exact fun _ _ _ _ _ _ _ _ _ _ _ _ h8 => absurd h8 (Nat.not_lt_zero _)
    | succ n ih =>
      have ih13 := ih
      · intro x1 x2 x3 σ mσ fσ lx1 ux1 lx3 ux3 i0 i1 hmu
        refine s_X12_paceAt_13 C hN ?_
        refine k_X12_behind mσ  (fun r2 σ1 mσ1 cσ1 plσ1 phσ1 pσ1_0 => ?_)
        have fσ1 : Fr [74, 129] [30] σ0 σ1 := Fr_tr fσ cσ1 (by decide) (by decide)
        have k_1 : (gi σ1 74 12).toInt = (gi σ 74 12).toInt := congrArg Int32.toInt (cσ1.2.1 12 (by decide))
        have t_2 := MI_f12 mσ
        refine ⟨?_, ?_⟩
        · intro q_3
          have b_4 : r2.toInt ≤ x3.toInt := Int32.le_iff_toInt_le.mp q_3
          have t_5 : (0 : Int32).toInt = 0 := rfl
          refine k_X12_most mσ1  (fun r5 σ4 mσ4 cσ4 pσ4_0 => ?_)
          have fσ4 : Fr [74, 129] [30] σ0 σ4 := Fr_tr fσ1 cσ4 (by decide) (by decide)
          have k_6 : (gi σ4 74 12).toInt = (gi σ1 74 12).toInt := congrArg Int32.toInt (cσ4.2.1 12 (by decide))
          exact h9ret r5 σ4 mσ4 fσ4
        · intro q_3
          have b_7 : ¬ r2.toInt ≤ x3.toInt := mt Int32.le_iff_toInt_le.mpr q_3
          have hv_8 : vp_in x3 60 := vp_in_iff.mpr ⟨by omega, by omega⟩
          refine ⟨hv_8, ?_⟩
          refine ⟨?_, ?_⟩
          · intro q_9
            have t_10 : (1 : Int32).toInt = 1 := rfl
            have b_11 : (1 : Int32).toInt < (gi σ1 118 x3.toNatClampNeg).toInt := Int32.lt_iff_toInt_lt.mp q_9
            intro v8 ev8
            have t_12 : (x3 + (1 : Int32)).toInt = x3.toInt + (1 : Int32).toInt := i_add (by omega) (by omega)
            have t_13 : v8.toInt = (x3 + (1 : Int32)).toInt := congrArg Int32.toInt ev8
            exact ih13 x1 x2 v8 σ1 mσ1 fσ1 (by omega) (by omega) (by omega) (by omega) (by first | assumption | omega | simp_all) (by first | assumption | omega | simp_all) (by omega)
          · intro q_9
            have t_14 : (1 : Int32).toInt = 1 := rfl
            have b_15 : ¬ (1 : Int32).toInt < (gi σ1 118 x3.toNatClampNeg).toInt := mt Int32.lt_iff_toInt_lt.mpr q_9
            have hv_16 : vp_in x1 6 := vp_in_iff.mpr ⟨by omega, by omega⟩
            refine ⟨hv_16, ?_⟩
            have t_17 := MI_a110 mσ1 hv_16
            refine k_X12_holds mσ1 (by omega) (by omega) (by omega) (by omega) (okCl_of mσ1 (by omega) (by omega) (by omega) (by omega)) (fun r11 σ10 mσ10 cσ10 plσ10 phσ10 => ?_)
            have fσ10 : Fr [74, 129] [30] σ0 σ10 := Fr_tr fσ1 cσ10 (by decide) (by decide)
            have k_18 : (gi σ10 74 12).toInt = (gi σ1 74 12).toInt := congrArg Int32.toInt (cσ10.2.1 12 (by decide))
            refine ⟨?_, ?_⟩
            · intro q_19
              have t_20 : (0 : Int32).toInt = 0 := rfl
              have b_21 : ¬ r11.toInt = (0 : Int32).toInt := fun h9 => q_19 (Int32.toInt_inj.mp h9)
              refine ⟨hv_8, ?_⟩
              refine ⟨?_, ?_⟩
              · intro q_22
                have b_23 : ¬ (gi σ10 118 x3.toNatClampNeg).toInt = (0 : Int32).toInt := fun h9 => q_22 (Int32.toInt_inj.mp h9)
                refine ⟨hv_8, ?_⟩
                intro v16 ev16
                intro v17 ev17
                have t_24 : (x3 + (1 : Int32)).toInt = x3.toInt + (1 : Int32).toInt := i_add (by omega) (by omega)
                have t_25 : v17.toInt = (x3 + (1 : Int32)).toInt := congrArg Int32.toInt ev17
                exact ih13 x1 v16 v17 σ10 mσ10 fσ10 (by omega) (by omega) (by omega) (by omega) (by first | assumption | omega | simp_all) (by first | assumption | omega | simp_all) (by omega)
              · intro q_22
                have b_26 : (gi σ10 118 x3.toNatClampNeg).toInt = (0 : Int32).toInt := congrArg Int32.toInt q_22
                refine ⟨hv_8, ?_⟩
                intro v19 ev19
                intro v20 ev20
                have t_27 : (x3 + (1 : Int32)).toInt = x3.toInt + (1 : Int32).toInt := i_add (by omega) (by omega)
                have t_28 : v20.toInt = (x3 + (1 : Int32)).toInt := congrArg Int32.toInt ev20
                exact ih13 x1 v19 v20 σ10 mσ10 fσ10 (by omega) (by omega) (by omega) (by omega) (by first | assumption | omega | simp_all) (by first | assumption | omega | simp_all) (by omega)
            · intro q_19
              have t_29 : (0 : Int32).toInt = 0 := rfl
              have b_30 : r11.toInt = (0 : Int32).toInt := congrArg Int32.toInt q_19
              intro v21 ev21
              have t_31 : (x3 + (1 : Int32)).toInt = x3.toInt + (1 : Int32).toInt := i_add (by omega) (by omega)
              have t_32 : v21.toInt = (x3 + (1 : Int32)).toInt := congrArg Int32.toInt ev21
              exact ih13 x1 x2 v21 σ10 mσ10 fσ10 (by omega) (by omega) (by omega) (by omega) (by first | assumption | omega | simp_all) (by first | assumption | omega | simp_all) (by omega)
  have U13 := T 90
  have f0 : Fr [74, 129] [30] σ0 σ0 := Fr_rf
  refine s_X12_paceAt_0 C hN ?_
  intro σ1 eσ1
  have mσ1 : MI σ1 := by rw [eσ1]; exact MIs_f30 m0 (by omega) (by omega)
  have fσ1 : Fr [74, 129] [30] σ0 σ1 := by rw [eσ1]; exact Fr_si f0 (by decide) (fun _ => by decide)
  have k_33 : (gi σ1 74 12).toInt = (gi σ0 74 12).toInt := by rw [eσ1]; exact congrArg Int32.toInt (gi_si_ne (Or.inr (by decide)))
  refine k_X12_begin mσ1  (fun r3 σ2 mσ2 cσ2 plσ2 phσ2 pσ2_0 => ?_)
  have fσ2 : Fr [74, 129] [30] σ0 σ2 := Fr_tr fσ1 cσ2 (by decide) (by decide)
  have k_34 : (gi σ2 74 12).toInt = (gi σ1 74 12).toInt := congrArg Int32.toInt (cσ2.2.1 12 (by decide))
  have t_35 := MI_f12 mσ1
  have t_36 : (6 : Int32).toInt = 6 := rfl
  exact U13 a1 (6 : Int32) r3 σ2 mσ2 fσ2 (by omega) (by omega) (by omega) (by omega) (by first | assumption | omega | simp_all) (by first | assumption | omega | simp_all) (by omega)
set_option maxRecDepth 100000 in
set_option maxHeartbeats 4000000 in
theorem k_X12_strideAt {l : Launch} {V : Vx} {a1 : Int32} {σ0 : Sg} {Qk : Int32 → Sg → Prop} (m0 : MI σ0) (l_a1 : 0 ≤ a1.toInt) (u_a1 : a1.toInt ≤ 5) (h9ret : ∀ (r : Int32) (σ' : Sg), MI σ' → Fr [74, 129] [30] σ0 σ' → ((gi σ' 74 1).toInt = (gi σ0 74 1).toInt) → Qk r σ') : K_X12_strideAt l V a1 σ0 Qk := by
  refine e_X12_strideAt (fun M hl hV hN C => ?_)
  subst hl
  subst hV
  have f0 : Fr [74, 129] [30] σ0 σ0 := Fr_rf
  refine s_X12_strideAt_0 C hN ?_
  have hv_1 : vp_in a1 6 := vp_in_iff.mpr ⟨by omega, by omega⟩
  refine ⟨hv_1, ?_⟩
  intro v2 ev2
  have t_2 := MI_a110 m0 hv_1
  have t_3 : v2.toInt = (gi σ0 110 a1.toNatClampNeg).toInt := congrArg Int32.toInt ev2
  refine k_X12_paceAt m0 (by omega) (by omega) (fun r4 σ3 mσ3 cσ3 => ?_)
  have fσ3 : Fr [74, 129] [30] σ0 σ3 := Fr_tr f0 cσ3 (by decide) (by decide)
  have k_4 : (gi σ3 74 1).toInt = (gi σ0 74 1).toInt := congrArg Int32.toInt (cσ3.2.1 1 (by decide))
  refine k_X12_strideOf mσ3 (by omega) (by omega) (by omega) (by omega) (fun r6 σ5 mσ5 cσ5 => ?_)
  have fσ5 : Fr [74, 129] [30] σ0 σ5 := Fr_tr fσ3 cσ5 (by decide) (by decide)
  have k_5 : (gi σ5 74 1).toInt = (gi σ3 74 1).toInt := congrArg Int32.toInt (cσ5.2.1 1 (by decide))
  have t_6 : (0 : Int32).toInt = 0 := rfl
  refine k_X12_most mσ5  (fun r8 σ7 mσ7 cσ7 pσ7_0 => ?_)
  have fσ7 : Fr [74, 129] [30] σ0 σ7 := Fr_tr fσ5 cσ7 (by decide) (by decide)
  have k_7 : (gi σ7 74 1).toInt = (gi σ5 74 1).toInt := congrArg Int32.toInt (cσ7.2.1 1 (by decide))
  have hv_8 : vp_in v2 6 := vp_in_iff.mpr ⟨by omega, by omega⟩
  refine ⟨hv_8, ?_⟩
  refine ⟨?_, ?_⟩
  · intro q_9
    have b_10 : ¬ (gi σ7 106 v2.toNatClampNeg).toInt = (0 : Int32).toInt := fun h9 => q_9 (Int32.toInt_inj.mp h9)
    exact h9ret r8 σ7 mσ7 fσ7 (by first | assumption | omega | simp_all)
  · intro q_9
    have b_11 : (gi σ7 106 v2.toNatClampNeg).toInt = (0 : Int32).toInt := congrArg Int32.toInt q_9
    have t_12 : (2 : Int32).toInt = 2 := rfl
    exact h9ret (r8 / (2 : Int32)) σ7 mσ7 fσ7 (by first | assumption | omega | simp_all)
set_option maxRecDepth 100000 in
set_option maxHeartbeats 4000000 in
theorem k_X12_goes {l : Launch} {V : Vx} {a1 : Int32} {σ0 : Sg} {Qk : Int32 → Sg → Prop} (m0 : MI σ0) (l_a1 : 0 ≤ a1.toInt) (u_a1 : a1.toInt ≤ 5) (h9ret : ∀ (r : Int32) (σ' : Sg), MI σ' → Fr [105, 106, 107, 108] [] σ0 σ' → (0 ≤ r.toInt) → (r.toInt ≤ 1) → Qk r σ') : K_X12_goes l V a1 σ0 Qk := by
  refine e_X12_goes (fun M hl hV hN C => ?_)
  subst hl
  subst hV
  have T : ∀ n : Nat, (∀ (x1 : Int32) (x2 : Int32) (z0 : Int32) (σ : Sg), MI σ → Fr [105, 106, 107, 108] [] σ0 σ → (0 ≤ x1.toInt) → (x1.toInt ≤ 5) → (0 ≤ x2.toInt) → (x2.toInt ≤ 5) → 2 < n → PS M 82 [(0, .ref 74), (1, .int x1), (2, .int x2)] [.int z0] σ (0, 0)) ∧ (∀ (x1 : Int32) (x5 : Int32) (σ : Sg), MI σ → Fr [105, 106, 107, 108] [] σ0 σ → (0 ≤ x1.toInt) → (x1.toInt ≤ 5) → 1 < n → PS M 203 [(0, .ref 74), (1, .int x1), (5, .int x5)] [] σ (0, 0)) := by
    intro n
    induction n with
    | zero => exact ⟨fun _ _ _ _ _ _ _ _ _ _ h8 => absurd h8 (Nat.not_lt_zero _), fun _ _ _ _ _ _ _ h8 => absurd h8 (Nat.not_lt_zero _)⟩
    | succ n ih =>
      obtain ⟨ih82, ih203⟩ := ih
      refine ⟨?_, ?_⟩
      · intro x1 x2 z0 σ mσ fσ lx1 ux1 lx2 ux2 hmu
        refine s_X12_goes_82 C hN ?_
        have hv_1 : vp_in x2 6 := vp_in_iff.mpr ⟨by omega, by omega⟩
        refine ⟨hv_1, ?_⟩
        refine ⟨hv_1, ?_⟩
        have hv_2 : vp_in x1 6 := vp_in_iff.mpr ⟨by omega, by omega⟩
        refine ⟨hv_2, ?_⟩
        refine k_X12_least mσ  (fun r5 σ4 mσ4 cσ4 pσ4_0 => ?_)
        have fσ4 : Fr [105, 106, 107, 108] [] σ0 σ4 := Fr_tr fσ cσ4 (by decide) (by decide)
        refine k_X12_most mσ4  (fun r7 σ6 mσ6 cσ6 pσ6_0 => ?_)
        have fσ6 : Fr [105, 106, 107, 108] [] σ0 σ6 := Fr_tr fσ4 cσ6 (by decide) (by decide)
        refine ⟨hv_1, ?_⟩
        intro v9 ev9
        refine ⟨hv_1, ?_⟩
        intro σ11 eσ11
        have mσ11 : MI σ11 := by rw [eσ11]; exact MIs_au (a := 105) mσ6 rfl rfl
        have fσ11 : Fr [105, 106, 107, 108] [] σ0 σ11 := by rw [eσ11]; exact Fr_si fσ6 (by decide) (fun h9 => absurd h9 (by decide))
        refine ⟨?_, ?_⟩
        · intro q_3
          have t_4 : (0 : Int32).toInt = 0 := rfl
          have b_5 : v9.toInt ≤ (0 : Int32).toInt := Int32.le_iff_toInt_le.mp q_3
          refine ⟨hv_1, ?_⟩
          have t_6 : (2 : Int32).toInt = 2 := rfl
          refine k_X12_most mσ11  (fun r15 σ14 mσ14 cσ14 pσ14_0 => ?_)
          have fσ14 : Fr [105, 106, 107, 108] [] σ0 σ14 := Fr_tr fσ11 cσ14 (by decide) (by decide)
          refine ⟨hv_1, ?_⟩
          intro σ17 eσ17
          have mσ17 : MI σ17 := by rw [eσ17]; exact MIs_au (a := 107) mσ14 rfl rfl
          have fσ17 : Fr [105, 106, 107, 108] [] σ0 σ17 := by rw [eσ17]; exact Fr_si fσ14 (by decide) (fun h9 => absurd h9 (by decide))
          exact ih203 x1 v9 σ17 mσ17 fσ17 (by omega) (by omega) (by omega)
        · intro q_3
          have t_7 : (0 : Int32).toInt = 0 := rfl
          have b_8 : ¬ v9.toInt ≤ (0 : Int32).toInt := mt Int32.le_iff_toInt_le.mpr q_3
          refine ⟨hv_1, ?_⟩
          have t_9 : (1 : Int32).toInt = 1 := rfl
          refine k_X12_most mσ11  (fun r20 σ19 mσ19 cσ19 pσ19_0 => ?_)
          have fσ19 : Fr [105, 106, 107, 108] [] σ0 σ19 := Fr_tr fσ11 cσ19 (by decide) (by decide)
          refine ⟨hv_1, ?_⟩
          intro σ22 eσ22
          have mσ22 : MI σ22 := by rw [eσ22]; exact MIs_au (a := 106) mσ19 rfl rfl
          have fσ22 : Fr [105, 106, 107, 108] [] σ0 σ22 := by rw [eσ22]; exact Fr_si fσ19 (by decide) (fun h9 => absurd h9 (by decide))
          refine ⟨hv_1, ?_⟩
          have t_10 : (3 : Int32).toInt = 3 := rfl
          refine k_X12_lastOf mσ22  (fun r25 σ24 mσ24 cσ24 => ?_)
          have fσ24 : Fr [105, 106, 107, 108] [] σ0 σ24 := Fr_tr fσ22 cσ24 (by decide) (by decide)
          have t_11 : (99 : Int32).toInt = 99 := rfl
          refine k_X12_least mσ24  (fun r27 σ26 mσ26 cσ26 pσ26_0 => ?_)
          have fσ26 : Fr [105, 106, 107, 108] [] σ0 σ26 := Fr_tr fσ24 cσ26 (by decide) (by decide)
          refine ⟨hv_1, ?_⟩
          intro σ29 eσ29
          have mσ29 : MI σ29 := by rw [eσ29]; exact MIs_au (a := 107) mσ26 rfl rfl
          have fσ29 : Fr [105, 106, 107, 108] [] σ0 σ29 := by rw [eσ29]; exact Fr_si fσ26 (by decide) (fun h9 => absurd h9 (by decide))
          exact ih203 x1 v9 σ29 mσ29 fσ29 (by omega) (by omega) (by omega)
      · intro x1 x5 σ mσ fσ lx1 ux1 hmu
        refine s_X12_goes_203 C hN ?_
        have hv_12 : vp_in x1 6 := vp_in_iff.mpr ⟨by omega, by omega⟩
        refine ⟨hv_12, ?_⟩
        refine ⟨?_, ?_⟩
        · intro q_13
          have b_14 : (gi σ 131 x1.toNatClampNeg).toInt ≤ x5.toInt := Int32.le_iff_toInt_le.mp q_13
          have t_15 : (0 : Int32).toInt = 0 := rfl
          exact h9ret (0 : Int32) σ mσ fσ (by omega) (by omega)
        · intro q_13
          have b_16 : ¬ (gi σ 131 x1.toNatClampNeg).toInt ≤ x5.toInt := mt Int32.le_iff_toInt_le.mpr q_13
          have t_17 : (1 : Int32).toInt = 1 := rfl
          exact h9ret (1 : Int32) σ mσ fσ (by omega) (by omega)
  obtain ⟨U82, U203⟩ := T 9
  have f0 : Fr [105, 106, 107, 108] [] σ0 σ0 := Fr_rf
  refine s_X12_goes_0 C hN ?_
  have hv_18 : vp_in a1 6 := vp_in_iff.mpr ⟨by omega, by omega⟩
  refine ⟨hv_18, ?_⟩
  intro v2 ev2
  have t_19 := MI_a110 m0 hv_18
  have t_20 : v2.toInt = (gi σ0 110 a1.toNatClampNeg).toInt := congrArg Int32.toInt ev2
  have hv_21 : vp_in v2 6 := vp_in_iff.mpr ⟨by omega, by omega⟩
  refine ⟨hv_21, ?_⟩
  refine ⟨?_, ?_⟩
  · intro q_22
    have t_23 : (0 : Int32).toInt = 0 := rfl
    have b_24 : (gi σ0 108 v2.toNatClampNeg).toInt ≤ (0 : Int32).toInt := Int32.le_iff_toInt_le.mp q_22
    refine ⟨?_, ?_⟩
    · intro q_25
      have b_26 : ¬ a1.toInt = (0 : Int32).toInt := fun h9 => q_25 (Int32.toInt_inj.mp h9)
      have t_27 : (1 : Int32).toInt = 1 := rfl
      have t_28 : (a1 - (1 : Int32)).toInt = a1.toInt - (1 : Int32).toInt := i_sub (by omega) (by omega)
      have hv_29 : vp_in (a1 - (1 : Int32)) 6 := vp_in_iff.mpr ⟨by omega, by omega⟩
      refine ⟨hv_29, ?_⟩
      have t_30 := MI_a110 m0 hv_29
      have hv_31 : vp_in (gi σ0 110 (a1 - (1 : Int32)).toNatClampNeg) 6 := vp_in_iff.mpr ⟨by omega, by omega⟩
      refine ⟨hv_31, ?_⟩
      refine k_X12_gap m0  (fun r9 σ8 mσ8 cσ8 => ?_)
      have fσ8 : Fr [105, 106, 107, 108] [] σ0 σ8 := Fr_tr f0 cσ8 (by decide) (by decide)
      have t_32 : (9999 : Int32).toInt = 9999 := rfl
      refine k_X12_least mσ8  (fun r11 σ10 mσ10 cσ10 pσ10_0 => ?_)
      have fσ10 : Fr [105, 106, 107, 108] [] σ0 σ10 := Fr_tr fσ8 cσ10 (by decide) (by decide)
      exact U82 a1 v2 r11 σ10 mσ10 fσ10 (by omega) (by omega) (by omega) (by omega) (by omega)
    · intro q_25
      have b_33 : a1.toInt = (0 : Int32).toInt := congrArg Int32.toInt q_25
      have t_34 : (9999 : Int32).toInt = 9999 := rfl
      exact U82 a1 v2 (9999 : Int32) σ0 m0 f0 (by omega) (by omega) (by omega) (by omega) (by omega)
  · intro q_22
    have t_35 : (0 : Int32).toInt = 0 := rfl
    have b_36 : ¬ (gi σ0 108 v2.toNatClampNeg).toInt ≤ (0 : Int32).toInt := mt Int32.le_iff_toInt_le.mpr q_22
    refine ⟨hv_21, ?_⟩
    refine ⟨hv_21, ?_⟩
    intro σ14 eσ14
    have mσ14 : MI σ14 := by rw [eσ14]; exact MIs_au (a := 108) m0 rfl rfl
    have fσ14 : Fr [105, 106, 107, 108] [] σ0 σ14 := by rw [eσ14]; exact Fr_si f0 (by decide) (fun h9 => absurd h9 (by decide))
    refine ⟨hv_21, ?_⟩
    have t_37 : (2 : Int32).toInt = 2 := rfl
    refine k_X12_most mσ14  (fun r17 σ16 mσ16 cσ16 pσ16_0 => ?_)
    have fσ16 : Fr [105, 106, 107, 108] [] σ0 σ16 := Fr_tr fσ14 cσ16 (by decide) (by decide)
    refine ⟨hv_21, ?_⟩
    intro σ19 eσ19
    have mσ19 : MI σ19 := by rw [eσ19]; exact MIs_au (a := 107) mσ16 rfl rfl
    have fσ19 : Fr [105, 106, 107, 108] [] σ0 σ19 := by rw [eσ19]; exact Fr_si fσ16 (by decide) (fun h9 => absurd h9 (by decide))
    exact h9ret (0 : Int32) σ19 mσ19 fσ19 (by omega) (by omega)
set_option maxRecDepth 100000 in
set_option maxHeartbeats 4000000 in
theorem k_X12_goMinute {l : Launch} {V : Vx} {σ0 : Sg} {Qk : Int32 → Sg → Prop} (m0 : MI σ0) (pre0 : (gi σ0 74 1).toInt ≤ 19000) (h9ret : ∀ (r : Int32) (σ' : Sg), MI σ' → Fr [74, 105, 106, 107, 108, 129, 131, 132] [1, 30] σ0 σ' → ((gi σ' 74 1).toInt = (gi σ0 74 1).toInt + 1) → Qk r σ') : K_X12_goMinute l V σ0 Qk := by
  refine e_X12_goMinute (fun M hl hV hN C => ?_)
  subst hl
  subst hV
  have T : ∀ n : Nat, (∀ (x1 : Int32) (σ : Sg), MI σ → Fr [74, 105, 106, 107, 108, 129, 131, 132] [1, 30] σ0 σ → (0 ≤ x1.toInt) → (x1.toInt ≤ 6) → ((gi σ 74 1).toInt = (gi σ0 74 1).toInt) → (7 - x1.toInt).toNat + 100 < n → PS M 2 [(0, .ref 74), (1, .int x1)] [] σ (0, 0)) ∧ (∀ (x1 : Int32) (x2 : Int32) (σ : Sg), MI σ → Fr [74, 105, 106, 107, 108, 129, 131, 132] [1, 30] σ0 σ → (0 ≤ x2.toInt) → (x2.toInt ≤ 6) → ((gi σ 74 1).toInt = (gi σ0 74 1).toInt) → (7 - x2.toInt).toNat < n → PS M 31 [(0, .ref 74), (1, .int x1), (2, .int x2)] [] σ (0, 0)) := by
    intro n
    induction n with
    | zero => exact ⟨fun _ _ _ _ _ _ _ h8 => absurd h8 (Nat.not_lt_zero _), fun _ _ _ _ _ _ _ _ h8 => absurd h8 (Nat.not_lt_zero _)⟩
    | succ n ih =>
      obtain ⟨ih2, ih31⟩ := ih
      refine ⟨?_, ?_⟩
      · intro x1 σ mσ fσ lx1 ux1 i0 hmu
        refine s_X12_goMinute_2 C hN ?_
        refine ⟨?_, ?_⟩
        · intro q_1
          have t_2 := MI_f2 mσ
          have b_3 : (gi σ 74 2).toInt ≤ x1.toInt := Int32.le_iff_toInt_le.mp q_1
          have t_4 : (0 : Int32).toInt = 0 := rfl
          exact ih31 (0 : Int32) (0 : Int32) σ mσ fσ (by omega) (by omega) (by first | assumption | omega | simp_all) (by omega)
        · intro q_1
          have t_5 := MI_f2 mσ
          have b_6 : ¬ (gi σ 74 2).toInt ≤ x1.toInt := mt Int32.le_iff_toInt_le.mpr q_1
          refine k_X12_strideAt mσ (by omega) (by omega) (fun r3 σ2 mσ2 cσ2 pσ2_0 => ?_)
          have fσ2 : Fr [74, 105, 106, 107, 108, 129, 131, 132] [1, 30] σ0 σ2 := Fr_tr fσ cσ2 (by decide) (by decide)
          have k_7 : (gi σ2 74 1).toInt = (gi σ 74 1).toInt := congrArg Int32.toInt (cσ2.2.1 1 (by decide))
          have hv_8 : vp_in x1 6 := vp_in_iff.mpr ⟨by omega, by omega⟩
          refine ⟨hv_8, ?_⟩
          intro σ5 eσ5
          have mσ5 : MI σ5 := by rw [eσ5]; exact MIs_au (a := 131) mσ2 rfl rfl
          have fσ5 : Fr [74, 105, 106, 107, 108, 129, 131, 132] [1, 30] σ0 σ5 := by rw [eσ5]; exact Fr_si fσ2 (by decide) (fun h9 => absurd h9 (by decide))
          have k_9 : (gi σ5 74 1).toInt = (gi σ2 74 1).toInt := by rw [eσ5]; exact congrArg Int32.toInt (gi_si_ne (Or.inl (by decide)))
          intro v6 ev6
          have t_10 : (1 : Int32).toInt = 1 := rfl
          have t_11 : (x1 + (1 : Int32)).toInt = x1.toInt + (1 : Int32).toInt := i_add (by omega) (by omega)
          have t_12 : v6.toInt = (x1 + (1 : Int32)).toInt := congrArg Int32.toInt ev6
          exact ih2 v6 σ5 mσ5 fσ5 (by omega) (by omega) (by first | assumption | omega | simp_all) (by omega)
      · intro x1 x2 σ mσ fσ lx2 ux2 i0 hmu
        refine s_X12_goMinute_31 C hN ?_
        refine ⟨?_, ?_⟩
        · intro q_13
          have t_14 := MI_f2 mσ
          have b_15 : (gi σ 74 2).toInt ≤ x2.toInt := Int32.le_iff_toInt_le.mp q_13
          intro σ2 eσ2
          have t_16 := MI_f1 mσ
          have t_17 : (1 : Int32).toInt = 1 := rfl
          have t_18 : ((gi σ 74 1) + (1 : Int32)).toInt = (gi σ 74 1).toInt + (1 : Int32).toInt := i_add (by omega) (by omega)
          have mσ2 : MI σ2 := by rw [eσ2]; exact MIs_f1 mσ (by omega) (by omega)
          have fσ2 : Fr [74, 105, 106, 107, 108, 129, 131, 132] [1, 30] σ0 σ2 := by rw [eσ2]; exact Fr_si fσ (by decide) (fun _ => by decide)
          have k_19 : (gi σ2 74 1).toInt = ((gi σ 74 1) + (1 : Int32)).toInt := by rw [eσ2]; exact congrArg Int32.toInt gi_si_eq
          exact h9ret x1 σ2 mσ2 fσ2 (by first | assumption | omega | simp_all)
        · intro q_13
          have t_20 := MI_f2 mσ
          have b_21 : ¬ (gi σ 74 2).toInt ≤ x2.toInt := mt Int32.le_iff_toInt_le.mpr q_13
          refine k_X12_goes mσ (by omega) (by omega) (fun r4 σ3 mσ3 cσ3 plσ3 phσ3 => ?_)
          have fσ3 : Fr [74, 105, 106, 107, 108, 129, 131, 132] [1, 30] σ0 σ3 := Fr_tr fσ cσ3 (by decide) (by decide)
          have k_22 : (gi σ3 74 1).toInt = (gi σ 74 1).toInt := congrArg Int32.toInt (cσ3.2.1 1 (by decide))
          refine ⟨?_, ?_⟩
          · intro q_23
            have t_24 : (0 : Int32).toInt = 0 := rfl
            have b_25 : ¬ r4.toInt = (0 : Int32).toInt := fun h9 => q_23 (Int32.toInt_inj.mp h9)
            have hv_26 : vp_in x2 6 := vp_in_iff.mpr ⟨by omega, by omega⟩
            refine ⟨hv_26, ?_⟩
            intro v7 ev7
            have t_27 : (1 : Int32).toInt = 1 := rfl
            have t_28 := MI_a110 mσ3 hv_26
            have t_29 : (31 : Int32).toInt = 31 := rfl
            refine ⟨hv_26, ?_⟩
            have hv_30 : vp_in (gi σ3 110 x2.toNatClampNeg) 6 := vp_in_iff.mpr ⟨by omega, by omega⟩
            refine ⟨hv_30, ?_⟩
            refine ⟨hv_30, ?_⟩
            intro σ11 eσ11
            have mσ11 : MI σ11 := by rw [eσ11]; exact MIs_au (a := 132) mσ3 rfl rfl
            have fσ11 : Fr [74, 105, 106, 107, 108, 129, 131, 132] [1, 30] σ0 σ11 := by rw [eσ11]; exact Fr_si fσ3 (by decide) (fun h9 => absurd h9 (by decide))
            have k_31 : (gi σ11 74 1).toInt = (gi σ3 74 1).toInt := by rw [eσ11]; exact congrArg Int32.toInt (gi_si_ne (Or.inl (by decide)))
            intro v12 ev12
            have t_32 : (x2 + (1 : Int32)).toInt = x2.toInt + (1 : Int32).toInt := i_add (by omega) (by omega)
            have t_33 : v12.toInt = (x2 + (1 : Int32)).toInt := congrArg Int32.toInt ev12
            exact ih31 v7 v12 σ11 mσ11 fσ11 (by omega) (by omega) (by first | assumption | omega | simp_all) (by omega)
          · intro q_23
            have t_34 : (0 : Int32).toInt = 0 := rfl
            have b_35 : r4.toInt = (0 : Int32).toInt := congrArg Int32.toInt q_23
            intro v13 ev13
            have t_36 : (1 : Int32).toInt = 1 := rfl
            have t_37 : (x2 + (1 : Int32)).toInt = x2.toInt + (1 : Int32).toInt := i_add (by omega) (by omega)
            have t_38 : v13.toInt = (x2 + (1 : Int32)).toInt := congrArg Int32.toInt ev13
            exact ih31 x1 v13 σ3 mσ3 fσ3 (by omega) (by omega) (by first | assumption | omega | simp_all) (by omega)
  obtain ⟨U2, U31⟩ := T 900
  have f0 : Fr [74, 105, 106, 107, 108, 129, 131, 132] [1, 30] σ0 σ0 := Fr_rf
  refine s_X12_goMinute_0 C hN ?_
  have t_39 : (0 : Int32).toInt = 0 := rfl
  exact U2 (0 : Int32) σ0 m0 f0 (by omega) (by omega) (by first | assumption | omega | simp_all) (by omega)
set_option maxRecDepth 100000 in
set_option maxHeartbeats 4000000 in
theorem k_X12_goMinutes {l : Launch} {V : Vx} {a1 : Int32} {σ0 : Sg} {Qk : Sg → Prop} (m0 : MI σ0) (l_a1 : -100 ≤ a1.toInt) (u_a1 : a1.toInt ≤ 200) (pre0 : (gi σ0 74 1).toInt ≤ 18000) (h9ret : ∀ (σ' : Sg), MI σ' → Fr [74, 105, 106, 107, 108, 129, 131, 132] [1, 30] σ0 σ' → ((gi σ0 74 1).toInt ≤ (gi σ' 74 1).toInt) → ((gi σ' 74 1).toInt ≤ (gi σ0 74 1).toInt + 200) → Qk σ') : K_X12_goMinutes l V a1 σ0 Qk := by
  refine e_X12_goMinutes (fun M hl hV hN C => ?_)
  subst hl
  subst hV
  have T : ∀ n : Nat, (∀ (x1 : Int32) (x2 : Int32) (σ : Sg), MI σ → Fr [74, 105, 106, 107, 108, 129, 131, 132] [1, 30] σ0 σ → (-100 ≤ x1.toInt) → (x1.toInt ≤ 200) → (0 ≤ x2.toInt) → (x2.toInt ≤ 200) → (x1 = a1) → ((gi σ 74 1).toInt = (gi σ0 74 1).toInt + x2.toInt) → (201 - x2.toInt).toNat < n → PS M 2 [(0, .ref 74), (1, .int x1), (2, .int x2)] [] σ (0, 0)) := by
    intro n
    induction n with
    | zero => exact fun _ _ _ _ _ _ _ _ _ _ _ h8 => absurd h8 (Nat.not_lt_zero _)
    | succ n ih =>
      have ih2 := ih
      · intro x1 x2 σ mσ fσ lx1 ux1 lx2 ux2 i0 i1 hmu
        refine s_X12_goMinutes_2 C hN ?_
        refine ⟨?_, ?_⟩
        · intro q_1
          have b_2 : x1.toInt ≤ x2.toInt := Int32.le_iff_toInt_le.mp q_1
          exact h9ret σ mσ fσ (by first | assumption | omega | simp_all) (by first | assumption | omega | simp_all)
        · intro q_1
          have b_3 : ¬ x1.toInt ≤ x2.toInt := mt Int32.le_iff_toInt_le.mpr q_1
          refine k_X12_goMinute mσ (by first | assumption | omega | simp_all) (fun r3 σ2 mσ2 cσ2 pσ2_0 => ?_)
          have fσ2 : Fr [74, 105, 106, 107, 108, 129, 131, 132] [1, 30] σ0 σ2 := Fr_tr fσ cσ2 (by decide) (by decide)
          intro v4 ev4
          have t_4 : (1 : Int32).toInt = 1 := rfl
          have t_5 : (x2 + (1 : Int32)).toInt = x2.toInt + (1 : Int32).toInt := i_add (by omega) (by omega)
          have t_6 : v4.toInt = (x2 + (1 : Int32)).toInt := congrArg Int32.toInt ev4
          exact ih2 x1 v4 σ2 mσ2 fσ2 (by omega) (by omega) (by omega) (by omega) (by first | assumption | omega | simp_all) (by first | assumption | omega | simp_all) (by omega)
  have U2 := T 300
  have f0 : Fr [74, 105, 106, 107, 108, 129, 131, 132] [1, 30] σ0 σ0 := Fr_rf
  refine s_X12_goMinutes_0 C hN ?_
  have t_7 : (0 : Int32).toInt = 0 := rfl
  exact U2 a1 (0 : Int32) σ0 m0 f0 (by omega) (by omega) (by omega) (by omega) (by first | assumption | omega | simp_all) (by first | assumption | omega | simp_all) (by omega)
set_option maxRecDepth 100000 in
set_option maxHeartbeats 4000000 in
theorem k_X12_allBehind {l : Launch} {V : Vx} {a1 : Int32} {σ0 : Sg} {Qk : Int32 → Sg → Prop} (m0 : MI σ0) (l_a1 : 0 ≤ a1.toInt) (u_a1 : a1.toInt ≤ 200) (pre0 : (gi σ0 74 1).toInt ≤ 9999) (h9ret : ∀ (r : Int32) (σ' : Sg), MI σ' → Fr [74, 105, 106, 107, 108, 129, 131, 132, 134, 135, 136, 137] [1, 30, 33] σ0 σ' → ((gi σ' 74 1).toInt = (gi σ0 74 1).toInt) → Qk r σ') : K_X12_allBehind l V a1 σ0 Qk := by
  refine e_X12_allBehind (fun M hl hV hN C => ?_)
  subst hl
  subst hV
  have f0 : Fr [74, 105, 106, 107, 108, 129, 131, 132, 134, 135, 136, 137] [1, 30, 33] σ0 σ0 := Fr_rf
  refine s_X12_allBehind_0 C hN ?_
  refine k_X12_save m0  (fun σ1 mσ1 cσ1 pσ1_0 => ?_)
  have fσ1 : Fr [74, 105, 106, 107, 108, 129, 131, 132, 134, 135, 136, 137] [1, 30, 33] σ0 σ1 := Fr_tr f0 cσ1 (by decide) (by decide)
  have k_1 : (gi σ1 74 1).toInt = (gi σ0 74 1).toInt := congrArg Int32.toInt (cσ1.2.1 1 (by decide))
  refine k_X12_goMinutes mσ1 (by omega) (by omega) (by first | assumption | omega | simp_all) (fun σ2 mσ2 cσ2 pσ2_0 pσ2_1 => ?_)
  have fσ2 : Fr [74, 105, 106, 107, 108, 129, 131, 132, 134, 135, 136, 137] [1, 30, 33] σ0 σ2 := Fr_tr fσ1 cσ2 (by decide) (by decide)
  have k_2 : (gi σ2 74 33).toInt = (gi σ1 74 33).toInt := congrArg Int32.toInt (cσ2.2.1 33 (by decide))
  refine k_X12_all mσ2  (fun r4 σ3 mσ3 cσ3 => ?_)
  have fσ3 : Fr [74, 105, 106, 107, 108, 129, 131, 132, 134, 135, 136, 137] [1, 30, 33] σ0 σ3 := Fr_tr fσ2 cσ3 (by decide) (by decide)
  have k_3 : (gi σ3 74 1).toInt = (gi σ2 74 1).toInt := congrArg Int32.toInt (cσ3.2.1 1 (by decide))
  have k_4 : (gi σ3 74 33).toInt = (gi σ2 74 33).toInt := congrArg Int32.toInt (cσ3.2.1 33 (by decide))
  refine k_X12_putBack mσ3  (fun σ5 mσ5 cσ5 pσ5_0 => ?_)
  have fσ5 : Fr [74, 105, 106, 107, 108, 129, 131, 132, 134, 135, 136, 137] [1, 30, 33] σ0 σ5 := Fr_tr fσ3 cσ5 (by decide) (by decide)
  have k_5 : (gi σ5 74 33).toInt = (gi σ3 74 33).toInt := congrArg Int32.toInt (cσ5.2.1 33 (by decide))
  exact h9ret r4 σ5 mσ5 fσ5 (by first | assumption | omega | simp_all)
