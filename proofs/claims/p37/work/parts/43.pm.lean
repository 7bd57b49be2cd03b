set_option maxRecDepth 100000 in
set_option maxHeartbeats 4000000 in
theorem k_X12_holds {l : Launch} {V : Vx} {a1 : Int32} {a2 : Int32} {σ0 : Sg} {Qk : Int32 → Sg → Prop} (m0 : MI σ0) (l_a1 : 0 ≤ a1.toInt) (u_a1 : a1.toInt ≤ 59) (l_a2 : 0 ≤ a2.toInt) (u_a2 : a2.toInt ≤ 5) (pre0 : ∃ f : Nat, f < 6 ∧ okCl σ0 f a1.toNatClampNeg) (h9ret : ∀ (r : Int32) (σ' : Sg), MI σ' → Fr [129] [] σ0 σ' → (0 ≤ r.toInt) → (r.toInt ≤ 1) → Qk r σ') : K_X12_holds l V a1 a2 σ0 Qk := by
  refine e_X12_holds (fun M hl hV hN C => ?_)
  subst hl
  subst hV
  obtain ⟨fd, hfd, lo, hi, e1, e2, b1, b2, b3, hseg⟩ := pre0
  obtain ⟨G, hG0, hG⟩ := okSegG hseg
  have T : ∀ n : Nat, (∀ (x1 : Int32) (x2 : Int32) (x3 : Int32) (x4 : Int32) (σ : Sg), MI σ → Fr [129] [] σ0 σ → (0 ≤ x1.toInt) → (x1.toInt ≤ 59) → (0 ≤ x2.toInt) → (x2.toInt ≤ 5) → (0 ≤ x3.toInt) → (x3.toInt ≤ 100) → (0 ≤ x4.toInt) → (x4.toInt ≤ 600) → (x1 = a1) → ((lo : Int) ≤ x4.toInt) → (x4.toInt ≤ hi) → (x3.toInt = G x4.toInt) → (601 - x4.toInt).toNat < n → PS M 10 [(0, .ref 74), (1, .int x1), (2, .int x2), (3, .int x3), (4, .int x4)] [] σ (0, 0)) := by
    intro n
    induction n with
    | zero => exact fun _ _ _ _ _ _ _ _ _ _ _ _ _ _ _ _ _ _ _ h8 => absurd h8 (Nat.not_lt_zero _)
    | succ n ih =>
      have ih10 := ih
      · intro x1 x2 x3 x4 σ mσ fσ lx1 ux1 lx2 ux2 lx3 ux3 lx4 ux4 i0 i1 i2 i3 hmu
        subst i0
        have g1 : (gi σ 121 x1.toNatClampNeg).toInt = hi := by rw [show gi σ 121 x1.toNatClampNeg = gi σ0 121 x1.toNatClampNeg from congrFun (fσ.1 121 (by decide)).1 _]; exact e2
        have g2 : ∀ j, gi σ 122 j = gi σ0 122 j := fun j => congrFun (fσ.1 122 (by decide)).1 j
        have g3 : ∀ w : Int32, w.toInt = x4.toInt + 1 → G w.toInt = G (x4.toInt + 1) := fun w hw => by rw [hw]
        have hS := fun (_ : Unit) => hG x4.toInt
        refine s_X12_holds_10 C hN ?_
        have hv_1 : vp_in x1 60 := vp_in_iff.mpr ⟨by omega, by omega⟩
        refine ⟨hv_1, ?_⟩
        refine ⟨?_, ?_⟩
        · intro q_2
          have b_3 : (gi σ 121 x1.toNatClampNeg).toInt ≤ x4.toInt := Int32.le_iff_toInt_le.mp q_2
          have t_4 : (0 : Int32).toInt = 0 := rfl
          have hv_5 : vp_in (0 : Int32) 100 := vp_in_iff.mpr ⟨by omega, by omega⟩
          refine ⟨hv_5, ?_⟩
          have t_6 := MI_a129 mσ hv_5
          refine ⟨i_bool (by omega) (by omega), ?_⟩
          exact h9ret (gi σ 129 (0 : Int32).toNatClampNeg) σ mσ fσ (by omega) (by omega)
        · intro q_2
          have b_7 : ¬ (gi σ 121 x1.toNatClampNeg).toInt ≤ x4.toInt := mt Int32.le_iff_toInt_le.mpr q_2
          have hv_8 : vp_in x4 600 := vp_in_iff.mpr ⟨by omega, by omega⟩
          refine ⟨hv_8, ?_⟩
          intro v5 ev5
          have hk := hS () (by omega) (by omega)
          have e5 : v5 = gi σ0 122 x4.toInt.toNat := by rw [ev5]; exact g2 _
          rw [← e5] at hk
          have k1 := fun (_ : Unit) => hk.1
          have k2 := fun (_ : Unit) => hk.2.1
          have k3 := fun (_ : Unit) => hk.2.2
          clear hk
          refine ⟨?_, ?_⟩
          · intro q_9
            have t_10 : (-33 : Int32).toInt = -33 := rfl
            have b_11 : ¬ v5.toInt = (-33 : Int32).toInt := fun h9 => q_9 (Int32.toInt_inj.mp h9)
            have nn := q_9
            refine ⟨?_, ?_⟩
            · intro q_12
              have t_13 : (0 : Int32).toInt = 0 := rfl
              have b_14 : (0 : Int32).toInt ≤ v5.toInt := Int32.le_iff_toInt_le.mp q_12
              obtain ⟨j1, j2⟩ := k3 () (by omega)
              have t_15 : (1000 : Int32).toInt = 1000 := rfl
              refine k_X12_factOf mσ (by omega) (by omega) (fun r9 σ8 mσ8 cσ8 => ?_)
              have fσ8 : Fr [129] [] σ0 σ8 := Fr_tr fσ cσ8 (by decide) (by decide)
              intro v10 ev10
              have t_16 : (100 : Int32).toInt = 100 := rfl
              have t_17 : (10 : Int32).toInt = 10 := rfl
              refine ⟨?_, ?_⟩
              · intro q_18
                have b_19 : ¬ v10.toInt = (0 : Int32).toInt := fun h9 => q_18 (Int32.toInt_inj.mp h9)
                refine ⟨?_, ?_⟩
                · intro q_20
                  have t_21 : (1 : Int32).toInt = 1 := rfl
                  have b_22 : ¬ v10.toInt = (1 : Int32).toInt := fun h9 => q_20 (Int32.toInt_inj.mp h9)
                  refine ⟨?_, ?_⟩
                  · intro q_23
                    have b_24 : r9.toInt ≤ (v5 - ((v5 / (100 : Int32)) * (100 : Int32))).toInt := Int32.le_iff_toInt_le.mp q_23
                    have hv_25 : vp_in x3 100 := vp_in_iff.mpr ⟨by omega, by omega⟩
                    refine ⟨hv_25, ?_⟩
                    intro σ15 eσ15
                    have mσ15 : MI σ15 := by rw [eσ15]; exact MIs_z129 mσ8
                    have fσ15 : Fr [129] [] σ0 σ15 := by rw [eσ15]; exact Fr_si fσ8 (by decide) (fun h9 => absurd h9 (by decide))
                    intro v16 ev16
                    have t_26 : (x3 + (1 : Int32)).toInt = x3.toInt + (1 : Int32).toInt := i_add (by omega) (by omega)
                    have t_27 : v16.toInt = (x3 + (1 : Int32)).toInt := congrArg Int32.toInt ev16
                    intro v17 ev17
                    have t_28 : (x4 + (1 : Int32)).toInt = x4.toInt + (1 : Int32).toInt := i_add (by omega) (by omega)
                    have t_29 : v17.toInt = (x4 + (1 : Int32)).toInt := congrArg Int32.toInt ev17
                    try have g4 := g3 v17 (by omega)
                    exact ih10 x1 x2 v16 v17 σ15 mσ15 fσ15 (by omega) (by omega) (by omega) (by omega) (by omega) (by omega) (by omega) (by omega) (by first | rfl | assumption | omega) (by first | rfl | assumption | omega) (by first | rfl | assumption | omega) (by first | rfl | assumption | omega) (by omega)
                  · intro q_23
                    have b_30 : ¬ r9.toInt ≤ (v5 - ((v5 / (100 : Int32)) * (100 : Int32))).toInt := mt Int32.le_iff_toInt_le.mpr q_23
                    have hv_31 : vp_in x3 100 := vp_in_iff.mpr ⟨by omega, by omega⟩
                    refine ⟨hv_31, ?_⟩
                    intro σ19 eσ19
                    have mσ19 : MI σ19 := by rw [eσ19]; exact MIs_z129 mσ8
                    have fσ19 : Fr [129] [] σ0 σ19 := by rw [eσ19]; exact Fr_si fσ8 (by decide) (fun h9 => absurd h9 (by decide))
                    intro v20 ev20
                    have t_32 : (x3 + (1 : Int32)).toInt = x3.toInt + (1 : Int32).toInt := i_add (by omega) (by omega)
                    have t_33 : v20.toInt = (x3 + (1 : Int32)).toInt := congrArg Int32.toInt ev20
                    intro v21 ev21
                    have t_34 : (x4 + (1 : Int32)).toInt = x4.toInt + (1 : Int32).toInt := i_add (by omega) (by omega)
                    have t_35 : v21.toInt = (x4 + (1 : Int32)).toInt := congrArg Int32.toInt ev21
                    try have g4 := g3 v21 (by omega)
                    exact ih10 x1 x2 v20 v21 σ19 mσ19 fσ19 (by omega) (by omega) (by omega) (by omega) (by omega) (by omega) (by omega) (by omega) (by first | rfl | assumption | omega) (by first | rfl | assumption | omega) (by first | rfl | assumption | omega) (by first | rfl | assumption | omega) (by omega)
                · intro q_20
                  have t_36 : (1 : Int32).toInt = 1 := rfl
                  have b_37 : v10.toInt = (1 : Int32).toInt := congrArg Int32.toInt q_20
                  refine ⟨?_, ?_⟩
                  · intro q_38
                    have b_39 : ¬ r9.toInt = (v5 - ((v5 / (100 : Int32)) * (100 : Int32))).toInt := fun h9 => q_38 (Int32.toInt_inj.mp h9)
                    have hv_40 : vp_in x3 100 := vp_in_iff.mpr ⟨by omega, by omega⟩
                    refine ⟨hv_40, ?_⟩
                    intro σ24 eσ24
                    have mσ24 : MI σ24 := by rw [eσ24]; exact MIs_z129 mσ8
                    have fσ24 : Fr [129] [] σ0 σ24 := by rw [eσ24]; exact Fr_si fσ8 (by decide) (fun h9 => absurd h9 (by decide))
                    intro v25 ev25
                    have t_41 : (x3 + (1 : Int32)).toInt = x3.toInt + (1 : Int32).toInt := i_add (by omega) (by omega)
                    have t_42 : v25.toInt = (x3 + (1 : Int32)).toInt := congrArg Int32.toInt ev25
                    intro v26 ev26
                    have t_43 : (x4 + (1 : Int32)).toInt = x4.toInt + (1 : Int32).toInt := i_add (by omega) (by omega)
                    have t_44 : v26.toInt = (x4 + (1 : Int32)).toInt := congrArg Int32.toInt ev26
                    try have g4 := g3 v26 (by omega)
                    exact ih10 x1 x2 v25 v26 σ24 mσ24 fσ24 (by omega) (by omega) (by omega) (by omega) (by omega) (by omega) (by omega) (by omega) (by first | rfl | assumption | omega) (by first | rfl | assumption | omega) (by first | rfl | assumption | omega) (by first | rfl | assumption | omega) (by omega)
                  · intro q_38
                    have b_45 : r9.toInt = (v5 - ((v5 / (100 : Int32)) * (100 : Int32))).toInt := congrArg Int32.toInt q_38
                    have hv_46 : vp_in x3 100 := vp_in_iff.mpr ⟨by omega, by omega⟩
                    refine ⟨hv_46, ?_⟩
                    intro σ28 eσ28
                    have mσ28 : MI σ28 := by rw [eσ28]; exact MIs_z129 mσ8
                    have fσ28 : Fr [129] [] σ0 σ28 := by rw [eσ28]; exact Fr_si fσ8 (by decide) (fun h9 => absurd h9 (by decide))
                    intro v29 ev29
                    have t_47 : (x3 + (1 : Int32)).toInt = x3.toInt + (1 : Int32).toInt := i_add (by omega) (by omega)
                    have t_48 : v29.toInt = (x3 + (1 : Int32)).toInt := congrArg Int32.toInt ev29
                    intro v30 ev30
                    have t_49 : (x4 + (1 : Int32)).toInt = x4.toInt + (1 : Int32).toInt := i_add (by omega) (by omega)
                    have t_50 : v30.toInt = (x4 + (1 : Int32)).toInt := congrArg Int32.toInt ev30
                    try have g4 := g3 v30 (by omega)
                    exact ih10 x1 x2 v29 v30 σ28 mσ28 fσ28 (by omega) (by omega) (by omega) (by omega) (by omega) (by omega) (by omega) (by omega) (by first | rfl | assumption | omega) (by first | rfl | assumption | omega) (by first | rfl | assumption | omega) (by first | rfl | assumption | omega) (by omega)
              · intro q_18
                have b_51 : v10.toInt = (0 : Int32).toInt := congrArg Int32.toInt q_18
                refine ⟨?_, ?_⟩
                · intro q_52
                  have b_53 : (v5 - ((v5 / (100 : Int32)) * (100 : Int32))).toInt ≤ r9.toInt := Int32.le_iff_toInt_le.mp q_52
                  have hv_54 : vp_in x3 100 := vp_in_iff.mpr ⟨by omega, by omega⟩
                  refine ⟨hv_54, ?_⟩
                  intro σ33 eσ33
                  have mσ33 : MI σ33 := by rw [eσ33]; exact MIs_z129 mσ8
                  have fσ33 : Fr [129] [] σ0 σ33 := by rw [eσ33]; exact Fr_si fσ8 (by decide) (fun h9 => absurd h9 (by decide))
                  intro v34 ev34
                  have t_55 : (1 : Int32).toInt = 1 := rfl
                  have t_56 : (x3 + (1 : Int32)).toInt = x3.toInt + (1 : Int32).toInt := i_add (by omega) (by omega)
                  have t_57 : v34.toInt = (x3 + (1 : Int32)).toInt := congrArg Int32.toInt ev34
                  intro v35 ev35
                  have t_58 : (x4 + (1 : Int32)).toInt = x4.toInt + (1 : Int32).toInt := i_add (by omega) (by omega)
                  have t_59 : v35.toInt = (x4 + (1 : Int32)).toInt := congrArg Int32.toInt ev35
                  try have g4 := g3 v35 (by omega)
                  exact ih10 x1 x2 v34 v35 σ33 mσ33 fσ33 (by omega) (by omega) (by omega) (by omega) (by omega) (by omega) (by omega) (by omega) (by first | rfl | assumption | omega) (by first | rfl | assumption | omega) (by first | rfl | assumption | omega) (by first | rfl | assumption | omega) (by omega)
                · intro q_52
                  have b_60 : ¬ (v5 - ((v5 / (100 : Int32)) * (100 : Int32))).toInt ≤ r9.toInt := mt Int32.le_iff_toInt_le.mpr q_52
                  have hv_61 : vp_in x3 100 := vp_in_iff.mpr ⟨by omega, by omega⟩
                  refine ⟨hv_61, ?_⟩
                  intro σ37 eσ37
                  have mσ37 : MI σ37 := by rw [eσ37]; exact MIs_z129 mσ8
                  have fσ37 : Fr [129] [] σ0 σ37 := by rw [eσ37]; exact Fr_si fσ8 (by decide) (fun h9 => absurd h9 (by decide))
                  intro v38 ev38
                  have t_62 : (1 : Int32).toInt = 1 := rfl
                  have t_63 : (x3 + (1 : Int32)).toInt = x3.toInt + (1 : Int32).toInt := i_add (by omega) (by omega)
                  have t_64 : v38.toInt = (x3 + (1 : Int32)).toInt := congrArg Int32.toInt ev38
                  intro v39 ev39
                  have t_65 : (x4 + (1 : Int32)).toInt = x4.toInt + (1 : Int32).toInt := i_add (by omega) (by omega)
                  have t_66 : v39.toInt = (x4 + (1 : Int32)).toInt := congrArg Int32.toInt ev39
                  try have g4 := g3 v39 (by omega)
                  exact ih10 x1 x2 v38 v39 σ37 mσ37 fσ37 (by omega) (by omega) (by omega) (by omega) (by omega) (by omega) (by omega) (by omega) (by first | rfl | assumption | omega) (by first | rfl | assumption | omega) (by first | rfl | assumption | omega) (by first | rfl | assumption | omega) (by omega)
            · intro q_12
              have t_67 : (0 : Int32).toInt = 0 := rfl
              have b_68 : ¬ (0 : Int32).toInt ≤ v5.toInt := mt Int32.le_iff_toInt_le.mpr q_12
              obtain ⟨j1, j2⟩ := k2 () nn (by omega)
              intro v40 ev40
              have t_69 : (1 : Int32).toInt = 1 := rfl
              have t_70 : (-(1 : Int32)).toInt = -(1 : Int32).toInt := i_neg (by omega)
              have t_71 : (x3 + (-(1 : Int32))).toInt = x3.toInt + (-(1 : Int32)).toInt := i_add (by omega) (by omega)
              have t_72 : v40.toInt = (x3 + (-(1 : Int32))).toInt := congrArg Int32.toInt ev40
              refine ⟨?_, ?_⟩
              · intro q_73
                have t_74 : (-38 : Int32).toInt = -38 := rfl
                have b_75 : ¬ v5.toInt = (-38 : Int32).toInt := fun h9 => q_73 (Int32.toInt_inj.mp h9)
                have t_76 : (v40 - (1 : Int32)).toInt = v40.toInt - (1 : Int32).toInt := i_sub (by omega) (by omega)
                have hv_77 : vp_in (v40 - (1 : Int32)) 100 := vp_in_iff.mpr ⟨by omega, by omega⟩
                refine ⟨hv_77, ?_⟩
                refine ⟨?_, ?_⟩
                · intro q_78
                  have t_79 := MI_a129 mσ hv_77
                  have b_80 : ¬ (gi σ 129 (v40 - (1 : Int32)).toNatClampNeg).toInt = (0 : Int32).toInt := fun h9 => q_78 (Int32.toInt_inj.mp h9)
                  refine ⟨hv_77, ?_⟩
                  intro σ45 eσ45
                  have mσ45 : MI σ45 := by rw [eσ45]; exact MIs_z129 mσ
                  have fσ45 : Fr [129] [] σ0 σ45 := by rw [eσ45]; exact Fr_si fσ (by decide) (fun h9 => absurd h9 (by decide))
                  intro v46 ev46
                  have t_81 : (x4 + (1 : Int32)).toInt = x4.toInt + (1 : Int32).toInt := i_add (by omega) (by omega)
                  have t_82 : v46.toInt = (x4 + (1 : Int32)).toInt := congrArg Int32.toInt ev46
                  try have g4 := g3 v46 (by omega)
                  exact ih10 x1 x2 v40 v46 σ45 mσ45 fσ45 (by omega) (by omega) (by omega) (by omega) (by omega) (by omega) (by omega) (by omega) (by first | rfl | assumption | omega) (by first | rfl | assumption | omega) (by first | rfl | assumption | omega) (by first | rfl | assumption | omega) (by omega)
                · intro q_78
                  have t_83 := MI_a129 mσ hv_77
                  have b_84 : (gi σ 129 (v40 - (1 : Int32)).toNatClampNeg).toInt = (0 : Int32).toInt := congrArg Int32.toInt q_78
                  have hv_85 : vp_in v40 100 := vp_in_iff.mpr ⟨by omega, by omega⟩
                  refine ⟨hv_85, ?_⟩
                  refine ⟨?_, ?_⟩
                  · intro q_86
                    have t_87 := MI_a129 mσ hv_85
                    have b_88 : (gi σ 129 v40.toNatClampNeg).toInt = (0 : Int32).toInt := congrArg Int32.toInt q_86
                    refine ⟨hv_77, ?_⟩
                    intro σ50 eσ50
                    have mσ50 : MI σ50 := by rw [eσ50]; exact MIs_z129 mσ
                    have fσ50 : Fr [129] [] σ0 σ50 := by rw [eσ50]; exact Fr_si fσ (by decide) (fun h9 => absurd h9 (by decide))
                    intro v51 ev51
                    have t_89 : (x4 + (1 : Int32)).toInt = x4.toInt + (1 : Int32).toInt := i_add (by omega) (by omega)
                    have t_90 : v51.toInt = (x4 + (1 : Int32)).toInt := congrArg Int32.toInt ev51
                    try have g4 := g3 v51 (by omega)
                    exact ih10 x1 x2 v40 v51 σ50 mσ50 fσ50 (by omega) (by omega) (by omega) (by omega) (by omega) (by omega) (by omega) (by omega) (by first | rfl | assumption | omega) (by first | rfl | assumption | omega) (by first | rfl | assumption | omega) (by first | rfl | assumption | omega) (by omega)
                  · intro q_86
                    have t_91 := MI_a129 mσ hv_85
                    have b_92 : ¬ (gi σ 129 v40.toNatClampNeg).toInt = (0 : Int32).toInt := fun h9 => q_86 (Int32.toInt_inj.mp h9)
                    refine ⟨hv_77, ?_⟩
                    intro σ53 eσ53
                    have mσ53 : MI σ53 := by rw [eσ53]; exact MIs_z129 mσ
                    have fσ53 : Fr [129] [] σ0 σ53 := by rw [eσ53]; exact Fr_si fσ (by decide) (fun h9 => absurd h9 (by decide))
                    intro v54 ev54
                    have t_93 : (x4 + (1 : Int32)).toInt = x4.toInt + (1 : Int32).toInt := i_add (by omega) (by omega)
                    have t_94 : v54.toInt = (x4 + (1 : Int32)).toInt := congrArg Int32.toInt ev54
                    try have g4 := g3 v54 (by omega)
                    exact ih10 x1 x2 v40 v54 σ53 mσ53 fσ53 (by omega) (by omega) (by omega) (by omega) (by omega) (by omega) (by omega) (by omega) (by first | rfl | assumption | omega) (by first | rfl | assumption | omega) (by first | rfl | assumption | omega) (by first | rfl | assumption | omega) (by omega)
              · intro q_73
                have t_95 : (-38 : Int32).toInt = -38 := rfl
                have b_96 : v5.toInt = (-38 : Int32).toInt := congrArg Int32.toInt q_73
                have t_97 : (v40 - (1 : Int32)).toInt = v40.toInt - (1 : Int32).toInt := i_sub (by omega) (by omega)
                have hv_98 : vp_in (v40 - (1 : Int32)) 100 := vp_in_iff.mpr ⟨by omega, by omega⟩
                refine ⟨hv_98, ?_⟩
                refine ⟨?_, ?_⟩
                · intro q_99
                  have t_100 := MI_a129 mσ hv_98
                  have b_101 : (gi σ 129 (v40 - (1 : Int32)).toNatClampNeg).toInt = (0 : Int32).toInt := congrArg Int32.toInt q_99
                  refine ⟨hv_98, ?_⟩
                  intro σ58 eσ58
                  have mσ58 : MI σ58 := by rw [eσ58]; exact MIs_z129 mσ
                  have fσ58 : Fr [129] [] σ0 σ58 := by rw [eσ58]; exact Fr_si fσ (by decide) (fun h9 => absurd h9 (by decide))
                  intro v59 ev59
                  have t_102 : (x4 + (1 : Int32)).toInt = x4.toInt + (1 : Int32).toInt := i_add (by omega) (by omega)
                  have t_103 : v59.toInt = (x4 + (1 : Int32)).toInt := congrArg Int32.toInt ev59
                  try have g4 := g3 v59 (by omega)
                  exact ih10 x1 x2 v40 v59 σ58 mσ58 fσ58 (by omega) (by omega) (by omega) (by omega) (by omega) (by omega) (by omega) (by omega) (by first | rfl | assumption | omega) (by first | rfl | assumption | omega) (by first | rfl | assumption | omega) (by first | rfl | assumption | omega) (by omega)
                · intro q_99
                  have t_104 := MI_a129 mσ hv_98
                  have b_105 : ¬ (gi σ 129 (v40 - (1 : Int32)).toNatClampNeg).toInt = (0 : Int32).toInt := fun h9 => q_99 (Int32.toInt_inj.mp h9)
                  have hv_106 : vp_in v40 100 := vp_in_iff.mpr ⟨by omega, by omega⟩
                  refine ⟨hv_106, ?_⟩
                  refine ⟨?_, ?_⟩
                  · intro q_107
                    have t_108 := MI_a129 mσ hv_106
                    have b_109 : (gi σ 129 v40.toNatClampNeg).toInt = (0 : Int32).toInt := congrArg Int32.toInt q_107
                    refine ⟨hv_98, ?_⟩
                    intro σ63 eσ63
                    have mσ63 : MI σ63 := by rw [eσ63]; exact MIs_z129 mσ
                    have fσ63 : Fr [129] [] σ0 σ63 := by rw [eσ63]; exact Fr_si fσ (by decide) (fun h9 => absurd h9 (by decide))
                    intro v64 ev64
                    have t_110 : (x4 + (1 : Int32)).toInt = x4.toInt + (1 : Int32).toInt := i_add (by omega) (by omega)
                    have t_111 : v64.toInt = (x4 + (1 : Int32)).toInt := congrArg Int32.toInt ev64
                    try have g4 := g3 v64 (by omega)
                    exact ih10 x1 x2 v40 v64 σ63 mσ63 fσ63 (by omega) (by omega) (by omega) (by omega) (by omega) (by omega) (by omega) (by omega) (by first | rfl | assumption | omega) (by first | rfl | assumption | omega) (by first | rfl | assumption | omega) (by first | rfl | assumption | omega) (by omega)
                  · intro q_107
                    have t_112 := MI_a129 mσ hv_106
                    have b_113 : ¬ (gi σ 129 v40.toNatClampNeg).toInt = (0 : Int32).toInt := fun h9 => q_107 (Int32.toInt_inj.mp h9)
                    refine ⟨hv_98, ?_⟩
                    intro σ66 eσ66
                    have mσ66 : MI σ66 := by rw [eσ66]; exact MIs_z129 mσ
                    have fσ66 : Fr [129] [] σ0 σ66 := by rw [eσ66]; exact Fr_si fσ (by decide) (fun h9 => absurd h9 (by decide))
                    intro v67 ev67
                    have t_114 : (x4 + (1 : Int32)).toInt = x4.toInt + (1 : Int32).toInt := i_add (by omega) (by omega)
                    have t_115 : v67.toInt = (x4 + (1 : Int32)).toInt := congrArg Int32.toInt ev67
                    try have g4 := g3 v67 (by omega)
                    exact ih10 x1 x2 v40 v67 σ66 mσ66 fσ66 (by omega) (by omega) (by omega) (by omega) (by omega) (by omega) (by omega) (by omega) (by first | rfl | assumption | omega) (by first | rfl | assumption | omega) (by first | rfl | assumption | omega) (by first | rfl | assumption | omega) (by omega)
          · intro q_9
            have t_116 : (-33 : Int32).toInt = -33 := rfl
            have b_117 : v5.toInt = (-33 : Int32).toInt := congrArg Int32.toInt q_9
            obtain ⟨j1, j2⟩ := k1 () q_9
            have t_118 : (1 : Int32).toInt = 1 := rfl
            have t_119 : (x3 - (1 : Int32)).toInt = x3.toInt - (1 : Int32).toInt := i_sub (by omega) (by omega)
            have hv_120 : vp_in (x3 - (1 : Int32)) 100 := vp_in_iff.mpr ⟨by omega, by omega⟩
            refine ⟨hv_120, ?_⟩
            refine ⟨?_, ?_⟩
            · intro q_121
              have t_122 := MI_a129 mσ hv_120
              have t_123 : (0 : Int32).toInt = 0 := rfl
              have b_124 : ¬ (gi σ 129 (x3 - (1 : Int32)).toNatClampNeg).toInt = (0 : Int32).toInt := fun h9 => q_121 (Int32.toInt_inj.mp h9)
              refine ⟨hv_120, ?_⟩
              intro σ71 eσ71
              have mσ71 : MI σ71 := by rw [eσ71]; exact MIs_z129 mσ
              have fσ71 : Fr [129] [] σ0 σ71 := by rw [eσ71]; exact Fr_si fσ (by decide) (fun h9 => absurd h9 (by decide))
              intro v72 ev72
              have t_125 : (x4 + (1 : Int32)).toInt = x4.toInt + (1 : Int32).toInt := i_add (by omega) (by omega)
              have t_126 : v72.toInt = (x4 + (1 : Int32)).toInt := congrArg Int32.toInt ev72
              try have g4 := g3 v72 (by omega)
              exact ih10 x1 x2 x3 v72 σ71 mσ71 fσ71 (by omega) (by omega) (by omega) (by omega) (by omega) (by omega) (by omega) (by omega) (by first | rfl | assumption | omega) (by first | rfl | assumption | omega) (by first | rfl | assumption | omega) (by first | rfl | assumption | omega) (by omega)
            · intro q_121
              have t_127 := MI_a129 mσ hv_120
              have t_128 : (0 : Int32).toInt = 0 := rfl
              have b_129 : (gi σ 129 (x3 - (1 : Int32)).toNatClampNeg).toInt = (0 : Int32).toInt := congrArg Int32.toInt q_121
              refine ⟨hv_120, ?_⟩
              intro σ74 eσ74
              have mσ74 : MI σ74 := by rw [eσ74]; exact MIs_z129 mσ
              have fσ74 : Fr [129] [] σ0 σ74 := by rw [eσ74]; exact Fr_si fσ (by decide) (fun h9 => absurd h9 (by decide))
              intro v75 ev75
              have t_130 : (x4 + (1 : Int32)).toInt = x4.toInt + (1 : Int32).toInt := i_add (by omega) (by omega)
              have t_131 : v75.toInt = (x4 + (1 : Int32)).toInt := congrArg Int32.toInt ev75
              try have g4 := g3 v75 (by omega)
              exact ih10 x1 x2 x3 v75 σ74 mσ74 fσ74 (by omega) (by omega) (by omega) (by omega) (by omega) (by omega) (by omega) (by omega) (by first | rfl | assumption | omega) (by first | rfl | assumption | omega) (by first | rfl | assumption | omega) (by first | rfl | assumption | omega) (by omega)
  have U10 := T 700
  have f0 : Fr [129] [] σ0 σ0 := Fr_rf
  refine s_X12_holds_0 C hN ?_
  have hv_132 : vp_in a1 60 := vp_in_iff.mpr ⟨by omega, by omega⟩
  refine ⟨hv_132, ?_⟩
  intro v2 ev2
  have t_133 : (0 : Int32).toInt = 0 := rfl
  try have g4 := g3 v2 (by omega)
  exact U10 a1 a2 (0 : Int32) v2 σ0 m0 f0 (by omega) (by omega) (by omega) (by omega) (by omega) (by omega) (by omega) (by omega) (by first | rfl | assumption | omega) (by first | rfl | assumption | omega) (by first | rfl | assumption | omega) (by first | rfl | assumption | omega) (by omega)
