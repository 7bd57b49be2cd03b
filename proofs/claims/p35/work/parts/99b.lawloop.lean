/-! the law's loop -/
set_option maxHeartbeats 4000000 in
theorem lw_turn {M : Mx} {L : Nat} {xs : Nat → Int32} {j : Nat} {σ : Sg} {kn : Nat × Nat} {i : Int32} (S : LSt M L xs j σ kn) (hc : REL σ) (hi : i.toInt = 6 * (j : Int)) (hL : 6 * j + 6 ≤ L) (h3 : L ≤ 3072) (next : ∀ M2 σ2 kn2, LSt M2 L xs (j + 1) σ2 kn2 → REL σ2 → PS M2 1381 (lwv i) [] σ2 kn2) : PS M 27 (lwv i) [] σ kn := by
  obtain ⟨C, hS, hI, hU, hN0, hw, hk1, hk2, hN⟩ := id S
  refine P_aload_n C dL_law_27 0 rfl ?_
  refine P_iload_n C dL_law_28 3 rfl ?_
  refine P_scld C hS (vp_in_iff.mpr ⟨by omega, by omega⟩) dL_law_29 ?_
  refine P_bipush C (v := 63) dL_law_30 rfl ?_
  refine P_iand C dL_law_32 ?_
  refine P_tsw C dL_law_33 1381 (by decide) (fun _ => next M σ kn ⟨C, hS, hI, hU, hN0, hw, by omega, by omega, hN⟩ hc) (by decide) (fun i off ho q1 => ?_)
  rcases i with _ | _ | _ | _ | _ | _ | _ | _ | _ | _ | _ | _ | _ | _ | _ | _ | _ | _ | _ | _ | _ | _ | _ | _ | _ | _ | _ | _ | _ | _ | _ | _ | _ | _ | _ | _ | _ | _ | _ | i
  · obtain rfl : (171 : Int) = off := Option.some.inj ho
    exact ⟨lwc_0 S hc hi hL h3 next, by decide⟩
  · obtain rfl : (204 : Int) = off := Option.some.inj ho
    exact ⟨lwc_1 S hc hi hL h3 next, by decide⟩
  · obtain rfl : (237 : Int) = off := Option.some.inj ho
    exact ⟨lwc_2 S hc hi hL h3 next, by decide⟩
  · obtain rfl : (280 : Int) = off := Option.some.inj ho
    exact ⟨lwc_3 S hc hi hL h3 next, by decide⟩
  · obtain rfl : (323 : Int) = off := Option.some.inj ho
    exact ⟨lwc_4 S hc hi hL h3 next, by decide⟩
  · obtain rfl : (356 : Int) = off := Option.some.inj ho
    exact ⟨lwc_5 S hc hi hL h3 next, by decide⟩
  · obtain rfl : (379 : Int) = off := Option.some.inj ho
    exact ⟨lwc_6 S hc hi hL h3 next, by decide⟩
  · obtain rfl : (392 : Int) = off := Option.some.inj ho
    exact ⟨lwc_7 S hc hi hL h3 next, by decide⟩
  · obtain rfl : (415 : Int) = off := Option.some.inj ho
    exact ⟨lwc_8 S hc hi hL h3 next, by decide⟩
  · obtain rfl : (428 : Int) = off := Option.some.inj ho
    exact ⟨lwc_9 S hc hi hL h3 next, by decide⟩
  · obtain rfl : (441 : Int) = off := Option.some.inj ho
    exact ⟨lwc_10 S hc hi hL h3 next, by decide⟩
  · obtain rfl : (464 : Int) = off := Option.some.inj ho
    exact ⟨lwc_11 S hc hi hL h3 next, by decide⟩
  · obtain rfl : (497 : Int) = off := Option.some.inj ho
    exact ⟨lwc_12 S hc hi hL h3 next, by decide⟩
  · obtain rfl : (510 : Int) = off := Option.some.inj ho
    exact ⟨lwc_13 S hc hi hL h3 next, by decide⟩
  · obtain rfl : (543 : Int) = off := Option.some.inj ho
    exact ⟨lwc_14 S hc hi hL h3 next, by decide⟩
  · obtain rfl : (576 : Int) = off := Option.some.inj ho
    exact ⟨lwc_15 S hc hi hL h3 next, by decide⟩
  · obtain rfl : (609 : Int) = off := Option.some.inj ho
    exact ⟨lwc_16 S hc hi hL h3 next, by decide⟩
  · obtain rfl : (662 : Int) = off := Option.some.inj ho
    exact ⟨lwc_17 S hc hi hL h3 next, by decide⟩
  · obtain rfl : (685 : Int) = off := Option.some.inj ho
    exact ⟨lwc_18 S hc hi hL h3 next, by decide⟩
  · obtain rfl : (718 : Int) = off := Option.some.inj ho
    exact ⟨lwc_19 S hc hi hL h3 next, by decide⟩
  · obtain rfl : (751 : Int) = off := Option.some.inj ho
    exact ⟨lwc_20 S hc hi hL h3 next, by decide⟩
  · obtain rfl : (794 : Int) = off := Option.some.inj ho
    exact ⟨lwc_21 S hc hi hL h3 next, by decide⟩
  · obtain rfl : (807 : Int) = off := Option.some.inj ho
    exact ⟨lwc_22 S hc hi hL h3 next, by decide⟩
  · obtain rfl : (850 : Int) = off := Option.some.inj ho
    exact ⟨lwc_23 S hc hi hL h3 next, by decide⟩
  · obtain rfl : (883 : Int) = off := Option.some.inj ho
    exact ⟨lwc_24 S hc hi hL h3 next, by decide⟩
  · obtain rfl : (906 : Int) = off := Option.some.inj ho
    exact ⟨lwc_25 S hc hi hL h3 next, by decide⟩
  · obtain rfl : (919 : Int) = off := Option.some.inj ho
    exact ⟨lwc_26 S hc hi hL h3 next, by decide⟩
  · obtain rfl : (942 : Int) = off := Option.some.inj ho
    exact ⟨lwc_27 S hc hi hL h3 next, by decide⟩
  · obtain rfl : (955 : Int) = off := Option.some.inj ho
    exact ⟨lwc_28 S hc hi hL h3 next, by decide⟩
  · obtain rfl : (988 : Int) = off := Option.some.inj ho
    exact ⟨lwc_29 S hc hi hL h3 next, by decide⟩
  · obtain rfl : (1001 : Int) = off := Option.some.inj ho
    exact ⟨lwc_30 S hc hi hL h3 next, by decide⟩
  · obtain rfl : (1014 : Int) = off := Option.some.inj ho
    exact ⟨lwc_31 S hc hi hL h3 next, by decide⟩
  · obtain rfl : (1057 : Int) = off := Option.some.inj ho
    exact ⟨lwc_32 S hc hi hL h3 next, by decide⟩
  · obtain rfl : (1080 : Int) = off := Option.some.inj ho
    exact ⟨lwc_33 S hc hi hL h3 next, by decide⟩
  · obtain rfl : (1113 : Int) = off := Option.some.inj ho
    exact ⟨lwc_34 S hc hi hL h3 next, by decide⟩
  · obtain rfl : (1136 : Int) = off := Option.some.inj ho
    exact ⟨lwc_35 S hc hi hL h3 next, by decide⟩
  · obtain rfl : (1179 : Int) = off := Option.some.inj ho
    exact ⟨lwc_36 S hc hi hL h3 next, by decide⟩
  · obtain rfl : (1252 : Int) = off := Option.some.inj ho
    exact ⟨lwc_37 S hc hi hL h3 next, by decide⟩
  · obtain rfl : (1285 : Int) = off := Option.some.inj ho
    exact ⟨lwc_38 S hc hi hL h3 next, by decide⟩
  · exact absurd ho (by simp)
set_option maxHeartbeats 4000000 in
theorem lw_loop {L : Nat} {xs : Nat → Int32} (h3 : L ≤ 3072) : ∀ (n : Nat) (M : Mx) (j : Nat) (σ : Sg) (kn : Nat × Nat) (i : Int32), LSt M L xs j σ kn → REL σ → i.toInt = 6 * (j : Int) → 6 * j ≤ L → L < 6 * j + n → PS M 18 (lwv i) [] σ kn := by
  intro n
  induction n with
  | zero => intro M j σ kn i S hc hi hl hn; omega
  | succ n ih =>
    intro M j σ kn i S hc hi hl hn
    obtain ⟨C, hS, hI, hU, hN0, hw, hk1, hk2, hN⟩ := id S
    have eL := ofNat_i h3
    have e6 : (Int32.ofNat L - 6).toInt = (L : Int) - 6 := by
      rw [i_sub (by rw [eL]; show -2147483648 ≤ (L : Int) - 6; omega) (by rw [eL]; show (L : Int) - 6 ≤ 2147483647; omega), eL]
      rfl
    refine P_iload_n C dL_law_18 3 rfl ?_
    refine P_aload_n C dL_law_19 0 rfl ?_
    refine P_sclen C hS dL_law_20 ?_
    refine P_bipush C (v := 6) dL_law_21 rfl ?_
    refine P_isub C dL_law_23 ?_
    refine P_icmp_gt C (tgt := 1387) dL_law_24 (by decide) (fun _ => ?_) (fun h9 => ?_)
    · refine P_iconst C (v := 1) dL_law_1387 rfl ?_
      exact P_lw S (by omega)
    · have h8 : i.toInt ≤ (L : Int) - 6 := by
        have h7 := h9
        simp only [Int32.lt_iff_toInt_lt, Int32.le_iff_toInt_le] at h7
        rw [e6] at h7
        omega
      refine lw_turn S hc hi (by omega) h3 (fun M2 σ2 kn2 S2 hc2 => ?_)
      obtain ⟨C2, hS2, hI2, hU2, hN02, hw2, hk12, hk22, hN2⟩ := id S2
      refine P_iinc C2 (v := i + 6) (lv' := [(3, .int (i + 6)), (0, .ref 500), (1, .ref 0), (2, .ref 74)]) dL_law_1381 3 rfl rfl (by rw [hN2]; decide) rfl ?_
      refine P_sub (lv' := lwv (i + 6)) [1, 2, 3, 0] rfl ?_
      refine P_goto C2 (tgt := 18) dL_law_1384 (by decide) ?_
      have ei : (i + 6).toInt = 6 * ((j + 1 : Nat) : Int) := by
        rw [i_add (by show -2147483648 ≤ i.toInt + 6; omega) (by show i.toInt + 6 ≤ 2147483647; omega)]
        show i.toInt + 6 = _
        omega
      exact ih M2 (j + 1) σ2 kn2 (i + 6) S2 hc2 ei (by omega) (by omega)
