set_option maxRecDepth 100000 in
set_option maxHeartbeats 4000000 in
theorem k_X12_holds {l : Launch} {V : Vx} {a1 : Int32} {a2 : Int32} {σ0 : Sg} {Qk : Int32 → Sg → Prop} (m0 : MI σ0) (l_a1 : 0 ≤ a1.toInt) (u_a1 : a1.toInt ≤ 59) (l_a2 : 0 ≤ a2.toInt) (u_a2 : a2.toInt ≤ 5) (pre0 : ∃ f : Nat, f < 6 ∧ okCl σ0 f a1.toNatClampNeg) (h9ret : ∀ (r : Int32) (σ' : Sg), MI σ' → Fr [129] [] σ0 σ' → (0 ≤ r.toInt) → (r.toInt ≤ 1) → Qk r σ') : K_X12_holds l V a1 a2 σ0 Qk := by
  refine e_X12_holds (fun M hl hV hN C => ?_)
  subst hl
  subst hV
  obtain ⟨fd, hfd, lo, hi, e1, e2, b1, b2, b3, hseg⟩ := pre0
  obtain ⟨G, hG0, hG⟩ := okSegG hseg
  have T : ∀ n : Nat, (∀ (x1 : Int32) (x2 : Int32) (x3 : Int32) (x4 : Int32) (σ : Sg), MI σ → Fr [129] [] σ0 σ → (0 ≤ x1.toInt) → (x1.toInt ≤ 59) → (0 ≤ x2.toInt) → (x2.toInt ≤ 5) → (0 ≤ x3.toInt) → (x3.toInt ≤ 100) → (0 ≤ x4.toInt) → (x4.toInt ≤ 600) → (x1 = a1) → ((lo : Int) ≤ x4.toInt) → (x4.toInt ≤ hi) → (x3.toInt = G x4.toInt) → (601 - x4.toInt).toNat < n → PS M 10 [(0, .ref 74), (1, .int x1), (2, .int x2), (3, .int x3), (4, .int x4)] [] σ (0, 0)) := by
    intro n
    induction n with
    | zero => exact fun _ _ _ _ _ _ _ _ _ _ _ _ _ _ _ _ _ _ _ h8 => absurd h8 (Nat.not_lt_zero _)
    | succ n ih =>
      have ih10 := ih
      · intro x1 x2 x3 x4 σ mσ fσ lx1 ux1 lx2 ux2 lx3 ux3 lx4 ux4 i0 i1 i2 i3 hmu
        subst i0
        have g1 : (gi σ 121 x1.toNatClampNeg).toInt = hi := by rw [show gi σ 121 x1.toNatClampNeg = gi σ0 121 x1.toNatClampNeg from congrFun (fσ.1 121 (by decide)).1 _]; exact e2
        have g2 : ∀ j, gi σ 122 j = gi σ0 122 j := fun j => congrFun (fσ.1 122 (by decide)).1 j
        obtain ⟨gb, egb⟩ : ∃ n : Int, G x4.toInt = n := ⟨_, rfl⟩
        obtain ⟨ga, ega⟩ : ∃ n : Int, G (x4.toInt + 1) = n := ⟨_, rfl⟩
        rw [egb] at i3
        have g3 : ∀ w : Int32, w.toInt = x4.toInt + 1 → G w.toInt = ga := fun w hw => by rw [hw]; exact ega
        have hS := hG x4.toInt
        rw [egb, ega] at hS
        have hS : hid _ := hS
        clear egb ega
        refine s_X12_holds_10 C hN ?_
        have hv_1 : vp_in x1 60 := vp_in_iff.mpr ⟨by omega, by omega⟩
        refine ⟨hv_1, ?_⟩
        refine ⟨?_, ?_⟩
        · intro q_2
          have b_3 : (gi σ 121 x1.toNatClampNeg).toInt ≤ x4.toInt := Int32.le_iff_toInt_le.mp q_2
          have z_4 : (0 : Int32).toInt = 0 := rfl
          have hv_5 : vp_in (0 : Int32) 100 := vp_in_iff.mpr ⟨by omega, by omega⟩
          refine ⟨hv_5, ?_⟩
          have t_6 := MI_a129 mσ hv_5
          refine ⟨i_bool (by omega) (by omega), ?_⟩
          exact h9ret (gi σ 129 (0 : Int32).toNatClampNeg) σ mσ fσ (by omega) (by omega)
        · intro q_2
          have b_7 : ¬ (gi σ 121 x1.toNatClampNeg).toInt ≤ x4.toInt := fun h9 => q_2 (Int32.le_iff_toInt_le.mpr h9)
          have hv_8 : vp_in x4 600 := vp_in_iff.mpr ⟨by omega, by omega⟩
          refine ⟨hv_8, ?_⟩
          intro v5 ev5
          have hk := un hS (by omega) (by omega)
          have e5 : v5 = gi σ0 122 x4.toInt.toNat := by rw [ev5]; exact g2 _
          rw [← e5] at hk
          have k1 : hid _ := hk.1
          have k2 : hid _ := hk.2.1
          have k3 : hid _ := hk.2.2
          clear hk
          refine ⟨?_, ?_⟩
          · intro q_9
            have w_10 := Int32.toInt_lt v5
            have w_11 := Int32.le_toInt v5
            have b_12 : ¬ v5.toInt = (-33) := fun h9 => q_9 (Int32.toInt_inj.mp h9)
            have nn := q_9
            refine ⟨?_, ?_⟩
            · intro q_13
              have b_14 : (0 : Int) ≤ v5.toInt := Int32.le_iff_toInt_le.mp q_13
              obtain ⟨j1, j2⟩ := un k3 (by omega)
              refine k_X12_factOf mσ (by omega) (by omega) (fun r9 σ8 mσ8 cσ8 => ?_)
              obtain rfl := Fr_nil cσ8
              intro v10 ev10
              refine ⟨?_, ?_⟩
              · intro q_15
                have w_16 := Int32.toInt_lt v10
                have w_17 := Int32.le_toInt v10
                have b_18 : ¬ v10.toInt = 0 := fun h9 => q_15 (Int32.toInt_inj.mp h9)
                refine ⟨?_, ?_⟩
                · intro q_19
                  have b_20 : ¬ v10.toInt = 1 := fun h9 => q_19 (Int32.toInt_inj.mp h9)
                  refine ⟨?_, ?_⟩
                  · intro q_21
                    have w_22 := Int32.toInt_lt r9
                    have w_23 := Int32.le_toInt r9
                    try have t_24 : (v5 - ((v5 / (100 : Int32)) * (100 : Int32))).toInt = v5.toInt % 100 := i_rem (by omega) (by decide) rfl
                    have b_25 : r9.toInt ≤ (v5 - ((v5 / (100 : Int32)) * (100 : Int32))).toInt := Int32.le_iff_toInt_le.mp q_21
                    have hv_26 : vp_in x3 100 := vp_in_iff.mpr ⟨by omega, by omega⟩
                    refine ⟨hv_26, ?_⟩
                    intro σ15 eσ15
                    have mσ15 : MI σ15 := by rw [eσ15]; exact MIs_z129 mσ
                    have fσ15 : Fr [129] [] σ0 σ15 := by rw [eσ15]; exact Fr_si fσ (by decide) (fun h9 => absurd h9 (by decide))
                    intro v16 ev16
                    have t_27 : (x3 + (1 : Int32)).toInt = x3.toInt + 1 := i_add (x := x3) (y := (1 : Int32)) (by show (_ : Int) ≤ x3.toInt + 1; omega) (by show x3.toInt + 1 ≤ (_ : Int); omega)
                    have t_28 : v16.toInt = (x3 + (1 : Int32)).toInt := congrArg Int32.toInt ev16
                    intro v17 ev17
                    have t_29 : (x4 + (1 : Int32)).toInt = x4.toInt + 1 := i_add (x := x4) (y := (1 : Int32)) (by show (_ : Int) ≤ x4.toInt + 1; omega) (by show x4.toInt + 1 ≤ (_ : Int); omega)
                    have t_30 : v17.toInt = (x4 + (1 : Int32)).toInt := congrArg Int32.toInt ev17
                    exact ih10 x1 x2 v16 v17 σ15 mσ15 fσ15 (by omega) (by omega) (by omega) (by omega) (by omega) (by omega) (by omega) (by omega) (by first | omega | assumption | rfl) (by first | omega | assumption | rfl) (by first | omega | assumption | rfl) (by first | (rw [g3 _ (by omega)]; omega) | omega) (by omega)
                  · intro q_21
                    have w_31 := Int32.toInt_lt r9
                    have w_32 := Int32.le_toInt r9
                    try have t_33 : (v5 - ((v5 / (100 : Int32)) * (100 : Int32))).toInt = v5.toInt % 100 := i_rem (by omega) (by decide) rfl
                    have b_34 : ¬ r9.toInt ≤ (v5 - ((v5 / (100 : Int32)) * (100 : Int32))).toInt := fun h9 => q_21 (Int32.le_iff_toInt_le.mpr h9)
                    have hv_35 : vp_in x3 100 := vp_in_iff.mpr ⟨by omega, by omega⟩
                    refine ⟨hv_35, ?_⟩
                    intro σ19 eσ19
                    have mσ19 : MI σ19 := by rw [eσ19]; exact MIs_z129 mσ
                    have fσ19 : Fr [129] [] σ0 σ19 := by rw [eσ19]; exact Fr_si fσ (by decide) (fun h9 => absurd h9 (by decide))
                    intro v20 ev20
                    have t_36 : (x3 + (1 : Int32)).toInt = x3.toInt + 1 := i_add (x := x3) (y := (1 : Int32)) (by show (_ : Int) ≤ x3.toInt + 1; omega) (by show x3.toInt + 1 ≤ (_ : Int); omega)
                    have t_37 : v20.toInt = (x3 + (1 : Int32)).toInt := congrArg Int32.toInt ev20
                    intro v21 ev21
                    have t_38 : (x4 + (1 : Int32)).toInt = x4.toInt + 1 := i_add (x := x4) (y := (1 : Int32)) (by show (_ : Int) ≤ x4.toInt + 1; omega) (by show x4.toInt + 1 ≤ (_ : Int); omega)
                    have t_39 : v21.toInt = (x4 + (1 : Int32)).toInt := congrArg Int32.toInt ev21
                    exact ih10 x1 x2 v20 v21 σ19 mσ19 fσ19 (by omega) (by omega) (by omega) (by omega) (by omega) (by omega) (by omega) (by omega) (by first | omega | assumption | rfl) (by first | omega | assumption | rfl) (by first | omega | assumption | rfl) (by first | (rw [g3 _ (by omega)]; omega) | omega) (by omega)
                · intro q_19
                  have b_40 : v10.toInt = 1 := congrArg Int32.toInt q_19
                  refine ⟨?_, ?_⟩
                  · intro q_41
                    have w_42 := Int32.toInt_lt r9
                    have w_43 := Int32.le_toInt r9
                    try have t_44 : (v5 - ((v5 / (100 : Int32)) * (100 : Int32))).toInt = v5.toInt % 100 := i_rem (by omega) (by decide) rfl
                    have b_45 : ¬ r9.toInt = (v5 - ((v5 / (100 : Int32)) * (100 : Int32))).toInt := fun h9 => q_41 (Int32.toInt_inj.mp h9)
                    have hv_46 : vp_in x3 100 := vp_in_iff.mpr ⟨by omega, by omega⟩
                    refine ⟨hv_46, ?_⟩
                    intro σ24 eσ24
                    have mσ24 : MI σ24 := by rw [eσ24]; exact MIs_z129 mσ
                    have fσ24 : Fr [129] [] σ0 σ24 := by rw [eσ24]; exact Fr_si fσ (by decide) (fun h9 => absurd h9 (by decide))
                    intro v25 ev25
                    have t_47 : (x3 + (1 : Int32)).toInt = x3.toInt + 1 := i_add (x := x3) (y := (1 : Int32)) (by show (_ : Int) ≤ x3.toInt + 1; omega) (by show x3.toInt + 1 ≤ (_ : Int); omega)
                    have t_48 : v25.toInt = (x3 + (1 : Int32)).toInt := congrArg Int32.toInt ev25
                    intro v26 ev26
                    have t_49 : (x4 + (1 : Int32)).toInt = x4.toInt + 1 := i_add (x := x4) (y := (1 : Int32)) (by show (_ : Int) ≤ x4.toInt + 1; omega) (by show x4.toInt + 1 ≤ (_ : Int); omega)
                    have t_50 : v26.toInt = (x4 + (1 : Int32)).toInt := congrArg Int32.toInt ev26
                    exact ih10 x1 x2 v25 v26 σ24 mσ24 fσ24 (by omega) (by omega) (by omega) (by omega) (by omega) (by omega) (by omega) (by omega) (by first | omega | assumption | rfl) (by first | omega | assumption | rfl) (by first | omega | assumption | rfl) (by first | (rw [g3 _ (by omega)]; omega) | omega) (by omega)
                  · intro q_41
                    have w_51 := Int32.toInt_lt r9
                    have w_52 := Int32.le_toInt r9
                    try have t_53 : (v5 - ((v5 / (100 : Int32)) * (100 : Int32))).toInt = v5.toInt % 100 := i_rem (by omega) (by decide) rfl
                    have b_54 : r9.toInt = (v5 - ((v5 / (100 : Int32)) * (100 : Int32))).toInt := congrArg Int32.toInt q_41
                    have hv_55 : vp_in x3 100 := vp_in_iff.mpr ⟨by omega, by omega⟩
                    refine ⟨hv_55, ?_⟩
                    intro σ28 eσ28
                    have mσ28 : MI σ28 := by rw [eσ28]; exact MIs_z129 mσ
                    have fσ28 : Fr [129] [] σ0 σ28 := by rw [eσ28]; exact Fr_si fσ (by decide) (fun h9 => absurd h9 (by decide))
                    intro v29 ev29
                    have t_56 : (x3 + (1 : Int32)).toInt = x3.toInt + 1 := i_add (x := x3) (y := (1 : Int32)) (by show (_ : Int) ≤ x3.toInt + 1; omega) (by show x3.toInt + 1 ≤ (_ : Int); omega)
                    have t_57 : v29.toInt = (x3 + (1 : Int32)).toInt := congrArg Int32.toInt ev29
                    intro v30 ev30
                    have t_58 : (x4 + (1 : Int32)).toInt = x4.toInt + 1 := i_add (x := x4) (y := (1 : Int32)) (by show (_ : Int) ≤ x4.toInt + 1; omega) (by show x4.toInt + 1 ≤ (_ : Int); omega)
                    have t_59 : v30.toInt = (x4 + (1 : Int32)).toInt := congrArg Int32.toInt ev30
                    exact ih10 x1 x2 v29 v30 σ28 mσ28 fσ28 (by omega) (by omega) (by omega) (by omega) (by omega) (by omega) (by omega) (by omega) (by first | omega | assumption | rfl) (by first | omega | assumption | rfl) (by first | omega | assumption | rfl) (by first | (rw [g3 _ (by omega)]; omega) | omega) (by omega)
              · intro q_15
                have w_60 := Int32.toInt_lt v10
                have w_61 := Int32.le_toInt v10
                have b_62 : v10.toInt = 0 := congrArg Int32.toInt q_15
                refine ⟨?_, ?_⟩
                · intro q_63
                  try have t_64 : (v5 - ((v5 / (100 : Int32)) * (100 : Int32))).toInt = v5.toInt % 100 := i_rem (by omega) (by decide) rfl
                  have w_65 := Int32.toInt_lt r9
                  have w_66 := Int32.le_toInt r9
                  have b_67 : (v5 - ((v5 / (100 : Int32)) * (100 : Int32))).toInt ≤ r9.toInt := Int32.le_iff_toInt_le.mp q_63
                  have hv_68 : vp_in x3 100 := vp_in_iff.mpr ⟨by omega, by omega⟩
                  refine ⟨hv_68, ?_⟩
                  intro σ33 eσ33
                  have mσ33 : MI σ33 := by rw [eσ33]; exact MIs_z129 mσ
                  have fσ33 : Fr [129] [] σ0 σ33 := by rw [eσ33]; exact Fr_si fσ (by decide) (fun h9 => absurd h9 (by decide))
                  intro v34 ev34
                  have t_69 : (x3 + (1 : Int32)).toInt = x3.toInt + 1 := i_add (x := x3) (y := (1 : Int32)) (by show (_ : Int) ≤ x3.toInt + 1; omega) (by show x3.toInt + 1 ≤ (_ : Int); omega)
                  have t_70 : v34.toInt = (x3 + (1 : Int32)).toInt := congrArg Int32.toInt ev34
                  intro v35 ev35
                  have t_71 : (x4 + (1 : Int32)).toInt = x4.toInt + 1 := i_add (x := x4) (y := (1 : Int32)) (by show (_ : Int) ≤ x4.toInt + 1; omega) (by show x4.toInt + 1 ≤ (_ : Int); omega)
                  have t_72 : v35.toInt = (x4 + (1 : Int32)).toInt := congrArg Int32.toInt ev35
                  exact ih10 x1 x2 v34 v35 σ33 mσ33 fσ33 (by omega) (by omega) (by omega) (by omega) (by omega) (by omega) (by omega) (by omega) (by first | omega | assumption | rfl) (by first | omega | assumption | rfl) (by first | omega | assumption | rfl) (by first | (rw [g3 _ (by omega)]; omega) | omega) (by omega)
                · intro q_63
                  try have t_73 : (v5 - ((v5 / (100 : Int32)) * (100 : Int32))).toInt = v5.toInt % 100 := i_rem (by omega) (by decide) rfl
                  have w_74 := Int32.toInt_lt r9
                  have w_75 := Int32.le_toInt r9
                  have b_76 : ¬ (v5 - ((v5 / (100 : Int32)) * (100 : Int32))).toInt ≤ r9.toInt := fun h9 => q_63 (Int32.le_iff_toInt_le.mpr h9)
                  have hv_77 : vp_in x3 100 := vp_in_iff.mpr ⟨by omega, by omega⟩
                  refine ⟨hv_77, ?_⟩
                  intro σ37 eσ37
                  have mσ37 : MI σ37 := by rw [eσ37]; exact MIs_z129 mσ
                  have fσ37 : Fr [129] [] σ0 σ37 := by rw [eσ37]; exact Fr_si fσ (by decide) (fun h9 => absurd h9 (by decide))
                  intro v38 ev38
                  have t_78 : (x3 + (1 : Int32)).toInt = x3.toInt + 1 := i_add (x := x3) (y := (1 : Int32)) (by show (_ : Int) ≤ x3.toInt + 1; omega) (by show x3.toInt + 1 ≤ (_ : Int); omega)
                  have t_79 : v38.toInt = (x3 + (1 : Int32)).toInt := congrArg Int32.toInt ev38
                  intro v39 ev39
                  have t_80 : (x4 + (1 : Int32)).toInt = x4.toInt + 1 := i_add (x := x4) (y := (1 : Int32)) (by show (_ : Int) ≤ x4.toInt + 1; omega) (by show x4.toInt + 1 ≤ (_ : Int); omega)
                  have t_81 : v39.toInt = (x4 + (1 : Int32)).toInt := congrArg Int32.toInt ev39
                  exact ih10 x1 x2 v38 v39 σ37 mσ37 fσ37 (by omega) (by omega) (by omega) (by omega) (by omega) (by omega) (by omega) (by omega) (by first | omega | assumption | rfl) (by first | omega | assumption | rfl) (by first | omega | assumption | rfl) (by first | (rw [g3 _ (by omega)]; omega) | omega) (by omega)
            · intro q_13
              have b_82 : ¬ (0 : Int) ≤ v5.toInt := fun h9 => q_13 (Int32.le_iff_toInt_le.mpr h9)
              obtain ⟨j1, j2⟩ := un k2 nn (by omega)
              intro v40 ev40
              have t_83 : (x3 - (1 : Int32)).toInt = x3.toInt - 1 := i_sub (x := x3) (y := (1 : Int32)) (by show (_ : Int) ≤ x3.toInt - 1; omega) (by show x3.toInt - 1 ≤ (_ : Int); omega)
              have t_84 : v40.toInt = (x3 - (1 : Int32)).toInt := congrArg Int32.toInt ev40
              refine ⟨?_, ?_⟩
              · intro q_85
                have b_86 : ¬ v5.toInt = (-38) := fun h9 => q_85 (Int32.toInt_inj.mp h9)
                have t_87 : (v40 - (1 : Int32)).toInt = v40.toInt - 1 := i_sub (x := v40) (y := (1 : Int32)) (by show (_ : Int) ≤ v40.toInt - 1; omega) (by show v40.toInt - 1 ≤ (_ : Int); omega)
                have hv_88 : vp_in (v40 - (1 : Int32)) 100 := vp_in_iff.mpr ⟨by omega, by omega⟩
                refine ⟨hv_88, ?_⟩
                refine ⟨?_, ?_⟩
                · intro q_89
                  have t_90 := MI_a129 mσ hv_88
                  have b_91 : ¬ (gi σ 129 (v40 - (1 : Int32)).toNatClampNeg).toInt = 0 := fun h9 => q_89 (Int32.toInt_inj.mp h9)
                  refine ⟨hv_88, ?_⟩
                  intro σ45 eσ45
                  have mσ45 : MI σ45 := by rw [eσ45]; exact MIs_z129 mσ
                  have fσ45 : Fr [129] [] σ0 σ45 := by rw [eσ45]; exact Fr_si fσ (by decide) (fun h9 => absurd h9 (by decide))
                  intro v46 ev46
                  have t_92 : (x4 + (1 : Int32)).toInt = x4.toInt + 1 := i_add (x := x4) (y := (1 : Int32)) (by show (_ : Int) ≤ x4.toInt + 1; omega) (by show x4.toInt + 1 ≤ (_ : Int); omega)
                  have t_93 : v46.toInt = (x4 + (1 : Int32)).toInt := congrArg Int32.toInt ev46
                  exact ih10 x1 x2 v40 v46 σ45 mσ45 fσ45 (by omega) (by omega) (by omega) (by omega) (by omega) (by omega) (by omega) (by omega) (by first | omega | assumption | rfl) (by first | omega | assumption | rfl) (by first | omega | assumption | rfl) (by first | (rw [g3 _ (by omega)]; omega) | omega) (by omega)
                · intro q_89
                  have t_94 := MI_a129 mσ hv_88
                  have b_95 : (gi σ 129 (v40 - (1 : Int32)).toNatClampNeg).toInt = 0 := congrArg Int32.toInt q_89
                  have hv_96 : vp_in v40 100 := vp_in_iff.mpr ⟨by omega, by omega⟩
                  refine ⟨hv_96, ?_⟩
                  refine ⟨?_, ?_⟩
                  · intro q_97
                    have t_98 := MI_a129 mσ hv_96
                    have b_99 : (gi σ 129 v40.toNatClampNeg).toInt = 0 := congrArg Int32.toInt q_97
                    refine ⟨hv_88, ?_⟩
                    intro σ50 eσ50
                    have mσ50 : MI σ50 := by rw [eσ50]; exact MIs_z129 mσ
                    have fσ50 : Fr [129] [] σ0 σ50 := by rw [eσ50]; exact Fr_si fσ (by decide) (fun h9 => absurd h9 (by decide))
                    intro v51 ev51
                    have t_100 : (x4 + (1 : Int32)).toInt = x4.toInt + 1 := i_add (x := x4) (y := (1 : Int32)) (by show (_ : Int) ≤ x4.toInt + 1; omega) (by show x4.toInt + 1 ≤ (_ : Int); omega)
                    have t_101 : v51.toInt = (x4 + (1 : Int32)).toInt := congrArg Int32.toInt ev51
                    exact ih10 x1 x2 v40 v51 σ50 mσ50 fσ50 (by omega) (by omega) (by omega) (by omega) (by omega) (by omega) (by omega) (by omega) (by first | omega | assumption | rfl) (by first | omega | assumption | rfl) (by first | omega | assumption | rfl) (by first | (rw [g3 _ (by omega)]; omega) | omega) (by omega)
                  · intro q_97
                    have t_102 := MI_a129 mσ hv_96
                    have b_103 : ¬ (gi σ 129 v40.toNatClampNeg).toInt = 0 := fun h9 => q_97 (Int32.toInt_inj.mp h9)
                    refine ⟨hv_88, ?_⟩
                    intro σ53 eσ53
                    have mσ53 : MI σ53 := by rw [eσ53]; exact MIs_z129 mσ
                    have fσ53 : Fr [129] [] σ0 σ53 := by rw [eσ53]; exact Fr_si fσ (by decide) (fun h9 => absurd h9 (by decide))
                    intro v54 ev54
                    have t_104 : (x4 + (1 : Int32)).toInt = x4.toInt + 1 := i_add (x := x4) (y := (1 : Int32)) (by show (_ : Int) ≤ x4.toInt + 1; omega) (by show x4.toInt + 1 ≤ (_ : Int); omega)
                    have t_105 : v54.toInt = (x4 + (1 : Int32)).toInt := congrArg Int32.toInt ev54
                    exact ih10 x1 x2 v40 v54 σ53 mσ53 fσ53 (by omega) (by omega) (by omega) (by omega) (by omega) (by omega) (by omega) (by omega) (by first | omega | assumption | rfl) (by first | omega | assumption | rfl) (by first | omega | assumption | rfl) (by first | (rw [g3 _ (by omega)]; omega) | omega) (by omega)
              · intro q_85
                have b_106 : v5.toInt = (-38) := congrArg Int32.toInt q_85
                have t_107 : (v40 - (1 : Int32)).toInt = v40.toInt - 1 := i_sub (x := v40) (y := (1 : Int32)) (by show (_ : Int) ≤ v40.toInt - 1; omega) (by show v40.toInt - 1 ≤ (_ : Int); omega)
                have hv_108 : vp_in (v40 - (1 : Int32)) 100 := vp_in_iff.mpr ⟨by omega, by omega⟩
                refine ⟨hv_108, ?_⟩
                refine ⟨?_, ?_⟩
                · intro q_109
                  have t_110 := MI_a129 mσ hv_108
                  have b_111 : (gi σ 129 (v40 - (1 : Int32)).toNatClampNeg).toInt = 0 := congrArg Int32.toInt q_109
                  refine ⟨hv_108, ?_⟩
                  intro σ58 eσ58
                  have mσ58 : MI σ58 := by rw [eσ58]; exact MIs_z129 mσ
                  have fσ58 : Fr [129] [] σ0 σ58 := by rw [eσ58]; exact Fr_si fσ (by decide) (fun h9 => absurd h9 (by decide))
                  intro v59 ev59
                  have t_112 : (x4 + (1 : Int32)).toInt = x4.toInt + 1 := i_add (x := x4) (y := (1 : Int32)) (by show (_ : Int) ≤ x4.toInt + 1; omega) (by show x4.toInt + 1 ≤ (_ : Int); omega)
                  have t_113 : v59.toInt = (x4 + (1 : Int32)).toInt := congrArg Int32.toInt ev59
                  exact ih10 x1 x2 v40 v59 σ58 mσ58 fσ58 (by omega) (by omega) (by omega) (by omega) (by omega) (by omega) (by omega) (by omega) (by first | omega | assumption | rfl) (by first | omega | assumption | rfl) (by first | omega | assumption | rfl) (by first | (rw [g3 _ (by omega)]; omega) | omega) (by omega)
                · intro q_109
                  have t_114 := MI_a129 mσ hv_108
                  have b_115 : ¬ (gi σ 129 (v40 - (1 : Int32)).toNatClampNeg).toInt = 0 := fun h9 => q_109 (Int32.toInt_inj.mp h9)
                  have hv_116 : vp_in v40 100 := vp_in_iff.mpr ⟨by omega, by omega⟩
                  refine ⟨hv_116, ?_⟩
                  refine ⟨?_, ?_⟩
                  · intro q_117
                    have t_118 := MI_a129 mσ hv_116
                    have b_119 : (gi σ 129 v40.toNatClampNeg).toInt = 0 := congrArg Int32.toInt q_117
                    refine ⟨hv_108, ?_⟩
                    intro σ63 eσ63
                    have mσ63 : MI σ63 := by rw [eσ63]; exact MIs_z129 mσ
                    have fσ63 : Fr [129] [] σ0 σ63 := by rw [eσ63]; exact Fr_si fσ (by decide) (fun h9 => absurd h9 (by decide))
                    intro v64 ev64
                    have t_120 : (x4 + (1 : Int32)).toInt = x4.toInt + 1 := i_add (x := x4) (y := (1 : Int32)) (by show (_ : Int) ≤ x4.toInt + 1; omega) (by show x4.toInt + 1 ≤ (_ : Int); omega)
                    have t_121 : v64.toInt = (x4 + (1 : Int32)).toInt := congrArg Int32.toInt ev64
                    exact ih10 x1 x2 v40 v64 σ63 mσ63 fσ63 (by omega) (by omega) (by omega) (by omega) (by omega) (by omega) (by omega) (by omega) (by first | omega | assumption | rfl) (by first | omega | assumption | rfl) (by first | omega | assumption | rfl) (by first | (rw [g3 _ (by omega)]; omega) | omega) (by omega)
                  · intro q_117
                    have t_122 := MI_a129 mσ hv_116
                    have b_123 : ¬ (gi σ 129 v40.toNatClampNeg).toInt = 0 := fun h9 => q_117 (Int32.toInt_inj.mp h9)
                    refine ⟨hv_108, ?_⟩
                    intro σ66 eσ66
                    have mσ66 : MI σ66 := by rw [eσ66]; exact MIs_z129 mσ
                    have fσ66 : Fr [129] [] σ0 σ66 := by rw [eσ66]; exact Fr_si fσ (by decide) (fun h9 => absurd h9 (by decide))
                    intro v67 ev67
                    have t_124 : (x4 + (1 : Int32)).toInt = x4.toInt + 1 := i_add (x := x4) (y := (1 : Int32)) (by show (_ : Int) ≤ x4.toInt + 1; omega) (by show x4.toInt + 1 ≤ (_ : Int); omega)
                    have t_125 : v67.toInt = (x4 + (1 : Int32)).toInt := congrArg Int32.toInt ev67
                    exact ih10 x1 x2 v40 v67 σ66 mσ66 fσ66 (by omega) (by omega) (by omega) (by omega) (by omega) (by omega) (by omega) (by omega) (by first | omega | assumption | rfl) (by first | omega | assumption | rfl) (by first | omega | assumption | rfl) (by first | (rw [g3 _ (by omega)]; omega) | omega) (by omega)
          · intro q_9
            have w_126 := Int32.toInt_lt v5
            have w_127 := Int32.le_toInt v5
            have b_128 : v5.toInt = (-33) := congrArg Int32.toInt q_9
            obtain ⟨j1, j2⟩ := un k1 q_9
            have t_129 : (x3 - (1 : Int32)).toInt = x3.toInt - 1 := i_sub (x := x3) (y := (1 : Int32)) (by show (_ : Int) ≤ x3.toInt - 1; omega) (by show x3.toInt - 1 ≤ (_ : Int); omega)
            have hv_130 : vp_in (x3 - (1 : Int32)) 100 := vp_in_iff.mpr ⟨by omega, by omega⟩
            refine ⟨hv_130, ?_⟩
            refine ⟨?_, ?_⟩
            · intro q_131
              have t_132 := MI_a129 mσ hv_130
              have b_133 : ¬ (gi σ 129 (x3 - (1 : Int32)).toNatClampNeg).toInt = 0 := fun h9 => q_131 (Int32.toInt_inj.mp h9)
              refine ⟨hv_130, ?_⟩
              intro σ71 eσ71
              have mσ71 : MI σ71 := by rw [eσ71]; exact MIs_z129 mσ
              have fσ71 : Fr [129] [] σ0 σ71 := by rw [eσ71]; exact Fr_si fσ (by decide) (fun h9 => absurd h9 (by decide))
              intro v72 ev72
              have t_134 : (x4 + (1 : Int32)).toInt = x4.toInt + 1 := i_add (x := x4) (y := (1 : Int32)) (by show (_ : Int) ≤ x4.toInt + 1; omega) (by show x4.toInt + 1 ≤ (_ : Int); omega)
              have t_135 : v72.toInt = (x4 + (1 : Int32)).toInt := congrArg Int32.toInt ev72
              exact ih10 x1 x2 x3 v72 σ71 mσ71 fσ71 (by omega) (by omega) (by omega) (by omega) (by omega) (by omega) (by omega) (by omega) (by first | omega | assumption | rfl) (by first | omega | assumption | rfl) (by first | omega | assumption | rfl) (by first | (rw [g3 _ (by omega)]; omega) | omega) (by omega)
            · intro q_131
              have t_136 := MI_a129 mσ hv_130
              have b_137 : (gi σ 129 (x3 - (1 : Int32)).toNatClampNeg).toInt = 0 := congrArg Int32.toInt q_131
              refine ⟨hv_130, ?_⟩
              intro σ74 eσ74
              have mσ74 : MI σ74 := by rw [eσ74]; exact MIs_z129 mσ
              have fσ74 : Fr [129] [] σ0 σ74 := by rw [eσ74]; exact Fr_si fσ (by decide) (fun h9 => absurd h9 (by decide))
              intro v75 ev75
              have t_138 : (x4 + (1 : Int32)).toInt = x4.toInt + 1 := i_add (x := x4) (y := (1 : Int32)) (by show (_ : Int) ≤ x4.toInt + 1; omega) (by show x4.toInt + 1 ≤ (_ : Int); omega)
              have t_139 : v75.toInt = (x4 + (1 : Int32)).toInt := congrArg Int32.toInt ev75
              exact ih10 x1 x2 x3 v75 σ74 mσ74 fσ74 (by omega) (by omega) (by omega) (by omega) (by omega) (by omega) (by omega) (by omega) (by first | omega | assumption | rfl) (by first | omega | assumption | rfl) (by first | omega | assumption | rfl) (by first | (rw [g3 _ (by omega)]; omega) | omega) (by omega)
  have U10 := T 700
  have f0 : Fr [129] [] σ0 σ0 := Fr_rf
  refine s_X12_holds_0 C hN ?_
  have hv_140 : vp_in a1 60 := vp_in_iff.mpr ⟨by omega, by omega⟩
  refine ⟨hv_140, ?_⟩
  intro v2 ev2
  have e9 : v2.toInt = lo := by rw [ev2]; exact e1
  have e10 : G v2.toInt = 0 := by rw [e9]; exact hG0
  have z_141 : (0 : Int32).toInt = 0 := rfl
  exact U10 a1 a2 (0 : Int32) v2 σ0 m0 f0 (by omega) (by omega) (by omega) (by omega) (by omega) (by omega) (by omega) (by omega) (by first | omega | assumption | rfl) (by first | omega | assumption | rfl) (by first | omega | assumption | rfl) (by first | (rw [g3 _ (by omega)]; omega) | omega) (by omega)
