set_option maxRecDepth 100000 in
set_option maxHeartbeats 4000000 in
theorem kF_X2_holds {l : Launch} {V : Vx} {c0 : Nat} {a1 : Int32} {a2 : Int32} {a3 : Nat} {σ0 : Sg} {Qk : Int32 → Sg → Prop} (hc0 : kd c0 = (12, 0)) (lc0 : c0 ∈ ids (V)) {na3 : Nat} (ha3 : kd a3 = (0, na3)) (la3 : a3 ∈ ids (V)) (m0 : XI V σ0) (l_a1 : 0 ≤ a1.toInt) (u_a1 : a1.toInt ≤ 100) (pre0 : na3 = 6) (h9ret : ∀ (r : Int32) (σ' : Sg), XI V σ' → FX (fun id => False) (fun _ _ => False) σ0 σ' → (0 ≤ r.toInt) → (r.toInt ≤ 1) → (F_X2_holds c0 a1 a2 a3 σ0 = (r, σ')) → Qk r σ') : K_X2_holds l V c0 a1 a2 a3 σ0 Qk := by
  refine e_X2_holds (fun M hl hV hN C => ?_)
  subst hl
  subst hV
  obtain ⟨R9, H0⟩ : ∃ R9, F_X2_holds c0 a1 a2 a3 σ0 = R9 := ⟨_, rfl⟩
  have gc0 : hid _ := kdF_ge hc0
  have T : ∀ n : Nat, (∀ (x2 : Int32) (x4 : Int32) (x5 : Int32) (σ : Sg), XI (mV M) σ → FX (fun id => False) (fun _ _ => False) σ0 σ → (0 ≤ x5.toInt) → (x5.toInt ≤ 100) → (LF_X2_holds c0 a3 n 0 x2 x4 x5 0 σ = R9) → (101 - x5.toInt).toNat * 2 + 1 < n → PS M 6 [(0, .ref c0), (2, .int x2), (3, .ref a3), (4, .int x4), (5, .int x5)] [] σ (0, 0)) ∧ (∀ (x4 : Int32) (σ : Sg), XI (mV M) σ → FX (fun id => False) (fun _ _ => False) σ0 σ → (LF_X2_holds c0 a3 n 1 0 x4 0 0 σ = R9) → 1 < n → PS M 187 [(4, .int x4)] [] σ (0, 0)) ∧ (∀ (x2 : Int32) (x4 : Int32) (x5 : Int32) (z0 : Int32) (σ : Sg), XI (mV M) σ → FX (fun id => False) (fun _ _ => False) σ0 σ → (0 ≤ x5.toInt) → (x5.toInt ≤ 99) → (LF_X2_holds c0 a3 n 2 x2 x4 x5 z0 σ = R9) → (101 - x5.toInt).toNat * 2 < n → PS M 107 [(0, .ref c0), (2, .int x2), (3, .ref a3), (4, .int x4), (5, .int x5)] [.int z0] σ (0, 0)) := by
    intro n
    induction n with
    | zero => exact ⟨fun _ _ _ _ _ _ _ _ _ h8 => absurd h8 (Nat.not_lt_zero _), fun _ _ _ _ _ h8 => absurd h8 (Nat.not_lt_zero _), fun _ _ _ _ _ _ _ _ _ _ h8 => absurd h8 (Nat.not_lt_zero _)⟩
    | succ n ih =>
      obtain ⟨ih6, ih187, ih107⟩ := ih
      refine ⟨?_, ?_, ?_⟩
      · intro x2 x4 x5 σ mσ fσ lx5 ux5 H hmu
        replace H : LB_X2_holds_6 c0 a3 (LF_X2_holds c0 a3 n) x2 x4 x5 σ = R9 := H
        unfold LB_X2_holds_6 at H
        have k_1 : (gi σ c0 4).toInt = (gi σ0 c0 4).toInt := congrArg Int32.toInt (FX_i fσ id id)
        have t_2 := XI_c1 mσ (id := c0) (k := 4) (lim_F0_4 hc0)
        refine s_X2_holds_6 C hN hc0 lc0 ha3 la3 ?_
        refine ⟨?_, ?_⟩
        · intro q_3
          replace H := f_t q_3 H
          have w_4 := Int32.toInt_lt x2
          have w_5 := Int32.le_toInt x2
          have b_6 : x2.toInt ≤ x5.toInt := Int32.le_iff_toInt_le.mp q_3
          have w_7 := Int32.toInt_lt x4
          have w_8 := Int32.le_toInt x4
          exact ih187 x4 σ mσ fσ H (by omega)
        · intro q_3
          replace H := f_f q_3 H
          have w_9 := Int32.toInt_lt x2
          have w_10 := Int32.le_toInt x2
          have b_11 : ¬ x2.toInt ≤ x5.toInt := fun h9 => q_3 (Int32.le_iff_toInt_le.mpr h9)
          refine ⟨?_, ?_⟩
          · intro q_12
            replace H := f_t q_12 H
            have b_13 : (gi σ c0 4).toInt ≤ x5.toInt := Int32.le_iff_toInt_le.mp q_12
            have w_14 := Int32.toInt_lt x4
            have w_15 := Int32.le_toInt x4
            exact ih187 x4 σ mσ fσ H (by omega)
          · intro q_12
            replace H := f_f q_12 H
            have b_16 : ¬ (gi σ c0 4).toInt ≤ x5.toInt := fun h9 => q_12 (Int32.le_iff_toInt_le.mpr h9)
            have hv_17 : vp_in x5 100 := vp_in_iff.mpr ⟨by omega, by omega⟩
            refine ⟨hv_17, ?_⟩
            intro v4 ev4
            replace H := f_l ev4 H
            have t_18 := XI_c1 mσ (id := (c0 + 1)) (k := x5.toNatClampNeg) (lim_F1 hc0 _)
            have t_19 : v4.toInt = (gi σ (c0 + 1) x5.toNatClampNeg).toInt := congrArg Int32.toInt ev4
            refine ⟨?_, ?_⟩
            · intro q_20
              replace H := f_t q_20 H
              have b_21 : v4.toInt < 0 := Int32.lt_iff_toInt_lt.mp q_20
              refine ⟨?_, ?_⟩
              · intro q_22
                replace H := f_f q_22 H
                have b_23 : ¬ v4.toInt = (-1) := fun h9 => q_22 (Int32.toInt_inj.mp h9)
                intro v7 ev7
                replace H := f_l ev7 H
                intro v8 ev8
                replace H := f_l ev8 H
                refine ⟨?_, ?_⟩
                · intro q_24
                  replace H := f_f q_24 H
                  have b_25 : ¬ v4.toInt = (-3) := fun h9 => q_24 (Int32.toInt_inj.mp h9)
                  intro v10 ev10
                  replace H := f_l ev10 H
                  intro v11 ev11
                  replace H := f_l ev11 H
                  have t_26 : (x5 + (1 : Int32)).toInt = x5.toInt + 1 := i_add (x := x5) (y := (1 : Int32)) (by show (_ : Int) ≤ x5.toInt + 1; omega) (by show x5.toInt + 1 ≤ (_ : Int); omega)
                  have t_27 : v11.toInt = (x5 + (1 : Int32)).toInt := congrArg Int32.toInt ev11
                  have w_28 := Int32.toInt_lt v10
                  have w_29 := Int32.le_toInt v10
                  exact ih6 x2 v10 v11 σ mσ fσ (by omega) (by omega) H (by omega)
                · intro q_24
                  replace H := f_t q_24 H
                  have b_30 : v4.toInt = (-3) := congrArg Int32.toInt q_24
                  intro v12 ev12
                  replace H := f_l ev12 H
                  intro v13 ev13
                  replace H := f_l ev13 H
                  have t_31 : (x5 + (1 : Int32)).toInt = x5.toInt + 1 := i_add (x := x5) (y := (1 : Int32)) (by show (_ : Int) ≤ x5.toInt + 1; omega) (by show x5.toInt + 1 ≤ (_ : Int); omega)
                  have t_32 : v13.toInt = (x5 + (1 : Int32)).toInt := congrArg Int32.toInt ev13
                  have w_33 := Int32.toInt_lt v12
                  have w_34 := Int32.le_toInt v12
                  exact ih6 x2 v12 v13 σ mσ fσ (by omega) (by omega) H (by omega)
              · intro q_22
                replace H := f_t q_22 H
                have b_35 : v4.toInt = (-1) := congrArg Int32.toInt q_22
                intro v14 ev14
                replace H := f_l ev14 H
                intro v15 ev15
                replace H := f_l ev15 H
                have t_36 : (x5 + (1 : Int32)).toInt = x5.toInt + 1 := i_add (x := x5) (y := (1 : Int32)) (by show (_ : Int) ≤ x5.toInt + 1; omega) (by show x5.toInt + 1 ≤ (_ : Int); omega)
                have t_37 : v15.toInt = (x5 + (1 : Int32)).toInt := congrArg Int32.toInt ev15
                have w_38 := Int32.toInt_lt v14
                have w_39 := Int32.le_toInt v14
                exact ih6 x2 v14 v15 σ mσ fσ (by omega) (by omega) H (by omega)
            · intro q_20
              replace H := f_f q_20 H
              have b_40 : ¬ v4.toInt < 0 := fun h9 => q_20 (Int32.lt_iff_toInt_lt.mpr h9)
              try have t_41 : (v4 / (300 : Int32)).toInt = v4.toInt / 300 := i_div (by omega) (by decide +kernel) rfl
              have hv_42 : vp_in (v4 / (300 : Int32)) na3 := vp_in_iff.mpr ⟨by omega, by omega⟩
              refine ⟨hv_42, ?_⟩
              intro v17 ev17
              replace H := f_l ev17 H
              intro v18 ev18
              replace H := f_l ev18 H
              refine ⟨?_, ?_⟩
              · intro q_43
                replace H := f_f q_43 H
                have w_44 := Int32.toInt_lt v18
                have w_45 := Int32.le_toInt v18
                have b_46 : ¬ v18.toInt = 0 := fun h9 => q_43 (Int32.toInt_inj.mp h9)
                refine ⟨?_, ?_⟩
                · intro q_47
                  replace H := f_f q_47 H
                  have b_48 : ¬ v18.toInt = 1 := fun h9 => q_47 (Int32.toInt_inj.mp h9)
                  refine ⟨?_, ?_⟩
                  · intro q_49
                    replace H := f_t q_49 H
                    have w_50 := Int32.toInt_lt v17
                    have w_51 := Int32.le_toInt v17
                    have b_52 : v17.toInt ≤ 0 := Int32.le_iff_toInt_le.mp q_49
                    have w_53 := Int32.toInt_lt x4
                    have w_54 := Int32.le_toInt x4
                    have z_55 : (0 : Int32).toInt = 0 := rfl
                    exact ih107 x2 x4 x5 (0 : Int32) σ mσ fσ (by omega) (by omega) H (by omega)
                  · intro q_49
                    replace H := f_f q_49 H
                    have w_56 := Int32.toInt_lt v17
                    have w_57 := Int32.le_toInt v17
                    have b_58 : ¬ v17.toInt ≤ 0 := fun h9 => q_49 (Int32.le_iff_toInt_le.mpr h9)
                    have w_59 := Int32.toInt_lt x4
                    have w_60 := Int32.le_toInt x4
                    have z_61 : (1 : Int32).toInt = 1 := rfl
                    exact ih107 x2 x4 x5 (1 : Int32) σ mσ fσ (by omega) (by omega) H (by omega)
                · intro q_47
                  replace H := f_t q_47 H
                  have b_62 : v18.toInt = 1 := congrArg Int32.toInt q_47
                  refine ⟨?_, ?_⟩
                  · intro q_63
                    replace H := f_f q_63 H
                    have w_64 := Int32.toInt_lt v17
                    have w_65 := Int32.le_toInt v17
                    have b_66 : ¬ v17.toInt = 0 := fun h9 => q_63 (Int32.toInt_inj.mp h9)
                    have w_67 := Int32.toInt_lt x4
                    have w_68 := Int32.le_toInt x4
                    have z_69 : (0 : Int32).toInt = 0 := rfl
                    exact ih107 x2 x4 x5 (0 : Int32) σ mσ fσ (by omega) (by omega) H (by omega)
                  · intro q_63
                    replace H := f_t q_63 H
                    have w_70 := Int32.toInt_lt v17
                    have w_71 := Int32.le_toInt v17
                    have b_72 : v17.toInt = 0 := congrArg Int32.toInt q_63
                    have w_73 := Int32.toInt_lt x4
                    have w_74 := Int32.le_toInt x4
                    have z_75 : (1 : Int32).toInt = 1 := rfl
                    exact ih107 x2 x4 x5 (1 : Int32) σ mσ fσ (by omega) (by omega) H (by omega)
              · intro q_43
                replace H := f_t q_43 H
                have w_76 := Int32.toInt_lt v18
                have w_77 := Int32.le_toInt v18
                have b_78 : v18.toInt = 0 := congrArg Int32.toInt q_43
                refine ⟨?_, ?_⟩
                · intro q_79
                  replace H := f_t q_79 H
                  have w_80 := Int32.toInt_lt v17
                  have w_81 := Int32.le_toInt v17
                  have b_82 : (0 : Int) ≤ v17.toInt := Int32.le_iff_toInt_le.mp q_79
                  have w_83 := Int32.toInt_lt x4
                  have w_84 := Int32.le_toInt x4
                  have z_85 : (0 : Int32).toInt = 0 := rfl
                  exact ih107 x2 x4 x5 (0 : Int32) σ mσ fσ (by omega) (by omega) H (by omega)
                · intro q_79
                  replace H := f_f q_79 H
                  have w_86 := Int32.toInt_lt v17
                  have w_87 := Int32.le_toInt v17
                  have b_88 : ¬ (0 : Int) ≤ v17.toInt := fun h9 => q_79 (Int32.le_iff_toInt_le.mpr h9)
                  have w_89 := Int32.toInt_lt x4
                  have w_90 := Int32.le_toInt x4
                  have z_91 : (1 : Int32).toInt = 1 := rfl
                  exact ih107 x2 x4 x5 (1 : Int32) σ mσ fσ (by omega) (by omega) H (by omega)
      · intro x4 σ mσ fσ H hmu
        replace H : LB_X2_holds_187 c0 a3 (LF_X2_holds c0 a3 n) x4 σ = R9 := H
        unfold LB_X2_holds_187 at H
        have k_92 : (gi σ c0 4).toInt = (gi σ0 c0 4).toInt := congrArg Int32.toInt (FX_i fσ id id)
        have t_93 := XI_c1 mσ (id := c0) (k := 4) (lim_F0_4 hc0)
        refine s_X2_holds_187 C hN  ?_
        refine ⟨?_, ?_⟩
        · intro q_94
          replace H := f_f q_94 H
          have w_95 := Int32.toInt_lt x4
          have w_96 := Int32.le_toInt x4
          have b_97 : ¬ (x4 &&& (1 : Int32)).toInt = 1 := fun h9 => q_94 (Int32.toInt_inj.mp h9)
          have z_98 : (0 : Int32).toInt = 0 := rfl
          exact h9ret (0 : Int32) σ mσ fσ (by omega) (by omega) (H0.trans H.symm)
        · intro q_94
          replace H := f_t q_94 H
          have w_99 := Int32.toInt_lt x4
          have w_100 := Int32.le_toInt x4
          have b_101 : (x4 &&& (1 : Int32)).toInt = 1 := congrArg Int32.toInt q_94
          have z_102 : (1 : Int32).toInt = 1 := rfl
          exact h9ret (1 : Int32) σ mσ fσ (by omega) (by omega) (H0.trans H.symm)
      · intro x2 x4 x5 z0 σ mσ fσ lx5 ux5 H hmu
        replace H : LB_X2_holds_107 c0 a3 (LF_X2_holds c0 a3 n) x2 x4 x5 z0 σ = R9 := H
        unfold LB_X2_holds_107 at H
        have k_103 : (gi σ c0 4).toInt = (gi σ0 c0 4).toInt := congrArg Int32.toInt (FX_i fσ id id)
        have t_104 := XI_c1 mσ (id := c0) (k := 4) (lim_F0_4 hc0)
        refine s_X2_holds_107 C hN hc0 lc0 ha3 la3 ?_
        refine ⟨?_, ?_⟩
        · intro q_105
          replace H := f_t q_105 H
          have w_106 := Int32.toInt_lt z0
          have w_107 := Int32.le_toInt z0
          have b_108 : z0.toInt = 0 := congrArg Int32.toInt q_105
          intro v2 ev2
          replace H := f_l ev2 H
          intro v3 ev3
          replace H := f_l ev3 H
          have t_109 : (x5 + (1 : Int32)).toInt = x5.toInt + 1 := i_add (x := x5) (y := (1 : Int32)) (by show (_ : Int) ≤ x5.toInt + 1; omega) (by show x5.toInt + 1 ≤ (_ : Int); omega)
          have t_110 : v3.toInt = (x5 + (1 : Int32)).toInt := congrArg Int32.toInt ev3
          have w_111 := Int32.toInt_lt x2
          have w_112 := Int32.le_toInt x2
          have w_113 := Int32.toInt_lt v2
          have w_114 := Int32.le_toInt v2
          exact ih6 x2 v2 v3 σ mσ fσ (by omega) (by omega) H (by omega)
        · intro q_105
          replace H := f_f q_105 H
          have w_115 := Int32.toInt_lt z0
          have w_116 := Int32.le_toInt z0
          have b_117 : ¬ z0.toInt = 0 := fun h9 => q_105 (Int32.toInt_inj.mp h9)
          intro v4 ev4
          replace H := f_l ev4 H
          intro v5 ev5
          replace H := f_l ev5 H
          have t_118 : (x5 + (1 : Int32)).toInt = x5.toInt + 1 := i_add (x := x5) (y := (1 : Int32)) (by show (_ : Int) ≤ x5.toInt + 1; omega) (by show x5.toInt + 1 ≤ (_ : Int); omega)
          have t_119 : v5.toInt = (x5 + (1 : Int32)).toInt := congrArg Int32.toInt ev5
          have w_120 := Int32.toInt_lt x2
          have w_121 := Int32.le_toInt x2
          have w_122 := Int32.toInt_lt v4
          have w_123 := Int32.le_toInt v4
          exact ih6 x2 v4 v5 σ mσ fσ (by omega) (by omega) H (by omega)
  obtain ⟨U6, U187, U107⟩ := T 900
  have f0 : FX (fun id => False) (fun _ _ => False) σ0 σ0 := FX_rf
  have t_124 := XI_c1 m0 (id := c0) (k := 4) (lim_F0_4 hc0)
  have H := H0
  unfold F_X2_holds at H
  refine s_X2_holds_0 C hN hc0 lc0 ha3 la3 ?_
  have w_125 := Int32.toInt_lt a2
  have w_126 := Int32.le_toInt a2
  have z_127 : (0 : Int32).toInt = 0 := rfl
  exact U6 a2 (0 : Int32) a1 σ0 m0 f0 (by omega) (by omega) H (by omega)
set_option maxRecDepth 100000 in
set_option maxHeartbeats 4000000 in
theorem kF_X2_paceOf {l : Launch} {V : Vx} {c0 : Nat} {a1 : Nat} {σ0 : Sg} {Qk : Int32 → Sg → Prop} (hc0 : kd c0 = (12, 0)) (lc0 : c0 ∈ ids (V)) {na1 : Nat} (ha1 : kd a1 = (0, na1)) (la1 : a1 ∈ ids (V)) (m0 : XI V σ0) (pre0 : na1 = 6) (h9ret : ∀ (r : Int32) (σ' : Sg), XI V σ' → FX (fun id => False) (fun _ _ => False) σ0 σ' → (F_X2_paceOf c0 a1 σ0 = (r, σ')) → Qk r σ') : K_X2_paceOf l V c0 a1 σ0 Qk := by
  refine e_X2_paceOf (fun M hl hV hN C => ?_)
  subst hl
  subst hV
  obtain ⟨R9, H0⟩ : ∃ R9, F_X2_paceOf c0 a1 σ0 = R9 := ⟨_, rfl⟩
  have gc0 : hid _ := kdF_ge hc0
  have T : ∀ n : Nat, (∀ (x2 : Int32) (x3 : Int32) (x4 : Int32) (σ : Sg), XI (mV M) σ → FX (fun id => False) (fun _ _ => False) σ0 σ → (0 ≤ x3.toInt) → (x3.toInt ≤ 100) → (0 ≤ x4.toInt) → (x4.toInt ≤ 10) → (LF_X2_paceOf c0 a1 n 0 x2 x3 x4 0 0 σ = R9) → (11 - x4.toInt).toNat * 2 + 1 < n → PS M 8 [(0, .ref c0), (1, .ref a1), (2, .int x2), (3, .int x3), (4, .int x4)] [] σ (0, 0)) ∧ (∀ (x4 : Int32) (z0 : Int32) (z1 : Int32) (σ : Sg), XI (mV M) σ → FX (fun id => False) (fun _ _ => False) σ0 σ → (0 ≤ x4.toInt) → (x4.toInt ≤ 9) → (LF_X2_paceOf c0 a1 n 1 0 0 x4 z0 z1 σ = R9) → (11 - x4.toInt).toNat * 2 < n → PS M 73 [(0, .ref c0), (1, .ref a1), (4, .int x4)] [.int z0, .int z1] σ (0, 0)) := by
    intro n
    induction n with
    | zero => exact ⟨fun _ _ _ _ _ _ _ _ _ _ _ h8 => absurd h8 (Nat.not_lt_zero _), fun _ _ _ _ _ _ _ _ _ h8 => absurd h8 (Nat.not_lt_zero _)⟩
    | succ n ih =>
      obtain ⟨ih8, ih73⟩ := ih
      refine ⟨?_, ?_⟩
      · intro x2 x3 x4 σ mσ fσ lx3 ux3 lx4 ux4 H hmu
        replace H : LB_X2_paceOf_8 c0 a1 (LF_X2_paceOf c0 a1 n) x2 x3 x4 σ = R9 := H
        unfold LB_X2_paceOf_8 at H
        have k_1 : (gi σ c0 8).toInt = (gi σ0 c0 8).toInt := congrArg Int32.toInt (FX_i fσ id id)
        have t_2 := XI_c1 mσ (id := c0) (k := 8) (lim_F0_8 hc0)
        refine s_X2_paceOf_8 C hN hc0 lc0 ha1 la1 ?_
        refine ⟨?_, ?_⟩
        · intro q_3
          replace H := f_t q_3 H
          have b_4 : (gi σ c0 8).toInt ≤ x4.toInt := Int32.le_iff_toInt_le.mp q_3
          refine ⟨?_, ?_⟩
          · intro q_5
            replace H := f_t q_5 H
            have w_6 := Int32.toInt_lt x2
            have w_7 := Int32.le_toInt x2
            have b_8 : x2.toInt ≤ 0 := Int32.le_iff_toInt_le.mp q_5
            have z_9 : (0 : Int32).toInt = 0 := rfl
            exact h9ret (0 : Int32) σ mσ fσ (H0.trans H.symm)
          · intro q_5
            replace H := f_f q_5 H
            have w_10 := Int32.toInt_lt x2
            have w_11 := Int32.le_toInt x2
            have b_12 : ¬ x2.toInt ≤ 0 := fun h9 => q_5 (Int32.le_iff_toInt_le.mpr h9)
            exact h9ret x2 σ mσ fσ (H0.trans H.symm)
        · intro q_3
          replace H := f_f q_3 H
          have b_13 : ¬ (gi σ c0 8).toInt ≤ x4.toInt := fun h9 => q_3 (Int32.le_iff_toInt_le.mpr h9)
          have hv_14 : vp_in x4 10 := vp_in_iff.mpr ⟨by omega, by omega⟩
          refine ⟨hv_14, ?_⟩
          refine ⟨?_, ?_⟩
          · intro q_15
            replace H := f_t q_15 H
            have w_16 := Int32.toInt_lt (gi σ (c0 + 2) x4.toNatClampNeg)
            have w_17 := Int32.le_toInt (gi σ (c0 + 2) x4.toNatClampNeg)
            have b_18 : (1 : Int) < (gi σ (c0 + 2) x4.toNatClampNeg).toInt := Int32.lt_iff_toInt_lt.mp q_15
            refine ⟨hv_14, ?_⟩
            intro v6 ev6
            replace H := f_l ev6 H
            have t_19 := XI_c1 mσ (id := (c0 + 4)) (k := x4.toNatClampNeg) (lim_F4 hc0 _)
            have t_20 : v6.toInt = (gi σ (c0 + 4) x4.toNatClampNeg).toInt := congrArg Int32.toInt ev6
            intro v7 ev7
            replace H := f_l ev7 H
            have t_21 : (x4 + (1 : Int32)).toInt = x4.toInt + 1 := i_add (x := x4) (y := (1 : Int32)) (by show (_ : Int) ≤ x4.toInt + 1; omega) (by show x4.toInt + 1 ≤ (_ : Int); omega)
            have t_22 : v7.toInt = (x4 + (1 : Int32)).toInt := congrArg Int32.toInt ev7
            have w_23 := Int32.toInt_lt x2
            have w_24 := Int32.le_toInt x2
            exact ih8 x2 v6 v7 σ mσ fσ (by omega) (by omega) (by omega) (by omega) H (by omega)
          · intro q_15
            replace H := f_f q_15 H
            have w_25 := Int32.toInt_lt (gi σ (c0 + 2) x4.toNatClampNeg)
            have w_26 := Int32.le_toInt (gi σ (c0 + 2) x4.toNatClampNeg)
            have b_27 : ¬ (1 : Int) < (gi σ (c0 + 2) x4.toNatClampNeg).toInt := fun h9 => q_15 (Int32.lt_iff_toInt_lt.mpr h9)
            refine ⟨hv_14, ?_⟩
            have t_28 := XI_c1 mσ (id := (c0 + 4)) (k := x4.toNatClampNeg) (lim_F4 hc0 _)
            refine kF_X2_holds hc0 lc0 ha1 la1 mσ  (by omega) (by omega) (by first | with_reducible assumption | with_reducible rfl | omega | assumption | rfl) (fun r10 σ9 mσ9 cσ9 plσ9 phσ9 hσ9 => ?_)
            obtain rfl := FX_nil cσ9
            replace H := f_b hσ9 H
            refine ⟨?_, ?_⟩
            · intro q_29
              replace H := f_t q_29 H
              have b_30 : r10.toInt = 0 := congrArg Int32.toInt q_29
              refine ⟨hv_14, ?_⟩
              intro v13 ev13
              replace H := f_l ev13 H
              have t_31 : v13.toInt = (gi σ (c0 + 4) x4.toNatClampNeg).toInt := congrArg Int32.toInt ev13
              intro v14 ev14
              replace H := f_l ev14 H
              have t_32 : (x4 + (1 : Int32)).toInt = x4.toInt + 1 := i_add (x := x4) (y := (1 : Int32)) (by show (_ : Int) ≤ x4.toInt + 1; omega) (by show x4.toInt + 1 ≤ (_ : Int); omega)
              have t_33 : v14.toInt = (x4 + (1 : Int32)).toInt := congrArg Int32.toInt ev14
              have w_34 := Int32.toInt_lt x2
              have w_35 := Int32.le_toInt x2
              exact ih8 x2 v13 v14 σ mσ fσ (by omega) (by omega) (by omega) (by omega) H (by omega)
            · intro q_29
              replace H := f_f q_29 H
              have b_36 : ¬ r10.toInt = 0 := fun h9 => q_29 (Int32.toInt_inj.mp h9)
              refine ⟨hv_14, ?_⟩
              refine ⟨?_, ?_⟩
              · intro q_37
                replace H := f_f q_37 H
                have b_38 : ¬ (gi σ (c0 + 2) x4.toNatClampNeg).toInt = 0 := fun h9 => q_37 (Int32.toInt_inj.mp h9)
                refine ⟨hv_14, ?_⟩
                have w_39 := Int32.toInt_lt x2
                have w_40 := Int32.le_toInt x2
                exact ih73 x4 (-(gi σ (c0 + 3) x4.toNatClampNeg)) x2 σ mσ fσ (by omega) (by omega) H (by omega)
              · intro q_37
                replace H := f_t q_37 H
                have b_41 : (gi σ (c0 + 2) x4.toNatClampNeg).toInt = 0 := congrArg Int32.toInt q_37
                refine ⟨hv_14, ?_⟩
                have w_42 := Int32.toInt_lt (gi σ (c0 + 3) x4.toNatClampNeg)
                have w_43 := Int32.le_toInt (gi σ (c0 + 3) x4.toNatClampNeg)
                have w_44 := Int32.toInt_lt x2
                have w_45 := Int32.le_toInt x2
                exact ih73 x4 (gi σ (c0 + 3) x4.toNatClampNeg) x2 σ mσ fσ (by omega) (by omega) H (by omega)
      · intro x4 z0 z1 σ mσ fσ lx4 ux4 H hmu
        replace H : LB_X2_paceOf_73 c0 a1 (LF_X2_paceOf c0 a1 n) x4 z0 z1 σ = R9 := H
        unfold LB_X2_paceOf_73 at H
        have k_46 : (gi σ c0 8).toInt = (gi σ0 c0 8).toInt := congrArg Int32.toInt (FX_i fσ id id)
        have t_47 := XI_c1 mσ (id := c0) (k := 8) (lim_F0_8 hc0)
        refine s_X2_paceOf_73 C hN hc0 lc0 ha1 la1 ?_
        intro v1 ev1
        replace H := f_l ev1 H
        have hv_48 : vp_in x4 10 := vp_in_iff.mpr ⟨by omega, by omega⟩
        refine ⟨hv_48, ?_⟩
        intro v3 ev3
        replace H := f_l ev3 H
        have t_49 := XI_c1 mσ (id := (c0 + 4)) (k := x4.toNatClampNeg) (lim_F4 hc0 _)
        have t_50 : v3.toInt = (gi σ (c0 + 4) x4.toNatClampNeg).toInt := congrArg Int32.toInt ev3
        intro v4 ev4
        replace H := f_l ev4 H
        have t_51 : (x4 + (1 : Int32)).toInt = x4.toInt + 1 := i_add (x := x4) (y := (1 : Int32)) (by show (_ : Int) ≤ x4.toInt + 1; omega) (by show x4.toInt + 1 ≤ (_ : Int); omega)
        have t_52 : v4.toInt = (x4 + (1 : Int32)).toInt := congrArg Int32.toInt ev4
        have w_53 := Int32.toInt_lt v1
        have w_54 := Int32.le_toInt v1
        exact ih8 v1 v3 v4 σ mσ fσ (by omega) (by omega) (by omega) (by omega) H (by omega)
  obtain ⟨U8, U73⟩ := T 900
  have f0 : FX (fun id => False) (fun _ _ => False) σ0 σ0 := FX_rf
  have t_55 := XI_c1 m0 (id := c0) (k := 8) (lim_F0_8 hc0)
  have H := H0
  unfold F_X2_paceOf at H
  refine s_X2_paceOf_0 C hN hc0 lc0 ha1 la1 ?_
  have z_56 : (6 : Int32).toInt = 6 := rfl
  have z_57 : (0 : Int32).toInt = 0 := rfl
  exact U8 (6 : Int32) (0 : Int32) (0 : Int32) σ0 m0 f0 (by omega) (by omega) (by omega) (by omega) H (by omega)
set_option maxRecDepth 100000 in
set_option maxHeartbeats 4000000 in
theorem kF_X4_strides {l : Launch} {V : Vx} {c0 : Nat} {a1 : Int32} {a2 : Nat} {a3 : Int32} {σ0 : Sg} {Qk : Int32 → Sg → Prop} {ci0 : Nat} (sc0 : ci0 = 0 ∨ ci0 = 3 ∨ ci0 = 4 ∨ ci0 = 6 ∨ ci0 = 7 ∨ ci0 = 8 ∨ ci0 = 10) (hc0 : kd c0 = (10 + ci0, 0)) (lc0 : c0 ∈ ids (V)) (ha2 : isC a2) (m0 : XI V σ0) (l_a3 : 0 ≤ a3.toInt) (u_a3 : a3.toInt ≤ 5) (h9ret : ∀ (r : Int32) (σ' : Sg), XI V σ' → FX (fun id => False) (fun _ _ => False) σ0 σ' → (F_X4_strides c0 a1 a2 a3 σ0 = (r, σ')) → Qk r σ') : K_X4_strides l V c0 a1 a2 a3 σ0 Qk := by
  refine e_X4_strides (fun M hl hV hN C => ?_)
  subst hl
  subst hV
  obtain ⟨R9, H0⟩ : ∃ R9, F_X4_strides c0 a1 a2 a3 σ0 = R9 := ⟨_, rfl⟩
  have ic0 : isMc ci0 := by rcases sc0 with rfl | rfl | rfl | rfl | rfl | rfl | rfl <;> decide
  have gc0 := kdM_ge ic0 hc0
  have oa2 : hid (a2 = 1 ∨ a2 = 17 ∨ a2 = 33) := ha2
  have f0 : FX (fun id => False) (fun _ _ => False) σ0 σ0 := FX_rf
  have t_1 := XI_c1 m0 (id := c0) (k := 1) (lim_M0_1 ic0 hc0)
  have H := H0
  unfold F_X4_strides at H
  refine s_X4_strides_0 C hN sc0 hc0 lc0 ha2 ?_
  have hv_2 : vp_in (gi σ0 c0 1) 6 := vp_in_iff.mpr ⟨by omega, by omega⟩
  refine ⟨hv_2, ?_⟩
  intro v2 ev2
  replace H := f_l ev2 H
  refine ⟨?_, ?_⟩
  · intro q_3
    replace H := f_t q_3 H
    have w_4 := Int32.toInt_lt a1
    have w_5 := Int32.le_toInt a1
    have w_6 := Int32.toInt_lt v2
    have w_7 := Int32.le_toInt v2
    have b_8 : a1.toInt ≤ v2.toInt := Int32.le_iff_toInt_le.mp q_3
    have z_9 : (0 : Int32).toInt = 0 := rfl
    exact h9ret (0 : Int32) σ0 m0 f0 (H0.trans H.symm)
  · intro q_3
    replace H := f_f q_3 H
    have w_10 := Int32.toInt_lt a1
    have w_11 := Int32.le_toInt a1
    have w_12 := Int32.toInt_lt v2
    have w_13 := Int32.le_toInt v2
    have b_14 : ¬ a1.toInt ≤ v2.toInt := fun h9 => q_3 (Int32.le_iff_toInt_le.mpr h9)
    exact h9ret (a1 - v2) σ0 m0 f0 (H0.trans H.symm)
set_option maxRecDepth 100000 in
set_option maxHeartbeats 4000000 in
theorem kF_X8_strides {l : Launch} {V : Vx} {c0 : Nat} {a1 : Int32} {a2 : Nat} {a3 : Int32} {σ0 : Sg} {Qk : Int32 → Sg → Prop} {ci0 : Nat} (sc0 : ci0 = 6 ∨ ci0 = 8) (hc0 : kd c0 = (10 + ci0, 0)) (lc0 : c0 ∈ ids (V)) (ha2 : isC a2) (m0 : XI V σ0) (l_a3 : 0 ≤ a3.toInt) (u_a3 : a3.toInt ≤ 5) (h9ret : ∀ (r : Int32) (σ' : Sg), XI V σ' → FX (fun id => False) (fun _ _ => False) σ0 σ' → (F_X8_strides c0 a1 a2 a3 σ0 = (r, σ')) → Qk r σ') : K_X8_strides l V c0 a1 a2 a3 σ0 Qk := by
  refine e_X8_strides (fun M hl hV hN C => ?_)
  subst hl
  subst hV
  obtain ⟨R9, H0⟩ : ∃ R9, F_X8_strides c0 a1 a2 a3 σ0 = R9 := ⟨_, rfl⟩
  have ic0 : isMc ci0 := by rcases sc0 with rfl | rfl <;> decide
  have gc0 := kdM_ge ic0 hc0
  have oa2 : hid (a2 = 1 ∨ a2 = 17 ∨ a2 = 33) := ha2
  have f0 : FX (fun id => False) (fun _ _ => False) σ0 σ0 := FX_rf
  have H := H0
  unfold F_X8_strides at H
  refine s_X8_strides_0 C hN sc0 hc0 lc0 ha2 ?_
  exact h9ret a1 σ0 m0 f0 (H0.trans H.symm)
set_option maxRecDepth 100000 in
set_option maxHeartbeats 4000000 in
theorem kF_X3_strides {l : Launch} {V : Vx} {c0 : Nat} {a1 : Int32} {a2 : Nat} {a3 : Int32} {σ0 : Sg} {Qk : Int32 → Sg → Prop} {ci0 : Nat} (sc0 : ci0 = 3 ∨ ci0 = 7) (hc0 : kd c0 = (10 + ci0, 0)) (lc0 : c0 ∈ ids (V)) (ha2 : isC a2) (m0 : XI V σ0) (l_a3 : 0 ≤ a3.toInt) (u_a3 : a3.toInt ≤ 5) (h9ret : ∀ (r : Int32) (σ' : Sg), XI V σ' → FX (fun id => False) (fun _ _ => False) σ0 σ' → (F_X3_strides c0 a1 a2 a3 σ0 = (r, σ')) → Qk r σ') : K_X3_strides l V c0 a1 a2 a3 σ0 Qk := by
  refine e_X3_strides (fun M hl hV hN C => ?_)
  subst hl
  subst hV
  obtain ⟨R9, H0⟩ : ∃ R9, F_X3_strides c0 a1 a2 a3 σ0 = R9 := ⟨_, rfl⟩
  have ic0 : isMc ci0 := by rcases sc0 with rfl | rfl <;> decide
  have gc0 := kdM_ge ic0 hc0
  have oa2 : hid (a2 = 1 ∨ a2 = 17 ∨ a2 = 33) := ha2
  have f0 : FX (fun id => False) (fun _ _ => False) σ0 σ0 := FX_rf
  have t_1 := XI_c1 m0 (id := c0) (k := 1) (lim_M0_1 ic0 hc0)
  have t_2 := XI_c1 m0 (id := c0) (k := 2) (lim_M0_2 ic0 hc0)
  have H := H0
  unfold F_X3_strides at H
  refine s_X3_strides_0 C hN sc0 hc0 lc0 ha2 ?_
  refine kF_X4_strides (show ci0 = 0 ∨ ci0 = 3 ∨ ci0 = 4 ∨ ci0 = 6 ∨ ci0 = 7 ∨ ci0 = 8 ∨ ci0 = 10 from by omega) hc0 lc0 ha2 m0  (by omega) (by omega) (fun r3 σ2 mσ2 cσ2 hσ2 => ?_)
  obtain rfl := FX_nil cσ2
  replace H := f_b hσ2 H
  have hv_3 : vp_in (gi σ0 c0 1) 6 := vp_in_iff.mpr ⟨by omega, by omega⟩
  refine ⟨hv_3, ?_⟩
  refine ⟨?_, ?_⟩
  · intro q_4
    replace H := f_t q_4 H
    have w_5 := Int32.toInt_lt (gi σ0 (a2 + 4) (gi σ0 c0 1).toNatClampNeg)
    have w_6 := Int32.le_toInt (gi σ0 (a2 + 4) (gi σ0 c0 1).toNatClampNeg)
    have b_7 : (gi σ0 (a2 + 4) (gi σ0 c0 1).toNatClampNeg).toInt ≤ 5 := Int32.le_iff_toInt_le.mp q_4
    exact h9ret (r3 + (0 : Int32)) σ0 m0 f0 (H0.trans H.symm)
  · intro q_4
    replace H := f_f q_4 H
    have w_8 := Int32.toInt_lt (gi σ0 (a2 + 4) (gi σ0 c0 1).toNatClampNeg)
    have w_9 := Int32.le_toInt (gi σ0 (a2 + 4) (gi σ0 c0 1).toNatClampNeg)
    have b_10 : ¬ (gi σ0 (a2 + 4) (gi σ0 c0 1).toNatClampNeg).toInt ≤ 5 := fun h9 => q_4 (Int32.le_iff_toInt_le.mpr h9)
    exact h9ret (r3 + (gi σ0 c0 2)) σ0 m0 f0 (H0.trans H.symm)
set_option maxRecDepth 100000 in
set_option maxHeartbeats 4000000 in
theorem kF_X0_strides {l : Launch} {V : Vx} {c0 : Nat} {a1 : Int32} {a2 : Nat} {a3 : Int32} {σ0 : Sg} {Qk : Int32 → Sg → Prop} {ci0 : Nat} (sc0 : ci0 = 0 ∨ ci0 = 10) (hc0 : kd c0 = (10 + ci0, 0)) (lc0 : c0 ∈ ids (V)) (ha2 : isC a2) (m0 : XI V σ0) (l_a3 : 0 ≤ a3.toInt) (u_a3 : a3.toInt ≤ 5) (h9ret : ∀ (r : Int32) (σ' : Sg), XI V σ' → FX (fun id => False) (fun _ _ => False) σ0 σ' → (F_X0_strides c0 a1 a2 a3 σ0 = (r, σ')) → Qk r σ') : K_X0_strides l V c0 a1 a2 a3 σ0 Qk := by
  refine e_X0_strides (fun M hl hV hN C => ?_)
  subst hl
  subst hV
  obtain ⟨R9, H0⟩ : ∃ R9, F_X0_strides c0 a1 a2 a3 σ0 = R9 := ⟨_, rfl⟩
  have ic0 : isMc ci0 := by rcases sc0 with rfl | rfl <;> decide
  have gc0 := kdM_ge ic0 hc0
  have oa2 : hid (a2 = 1 ∨ a2 = 17 ∨ a2 = 33) := ha2
  have f0 : FX (fun id => False) (fun _ _ => False) σ0 σ0 := FX_rf
  have H := H0
  unfold F_X0_strides at H
  refine s_X0_strides_0 C hN sc0 hc0 lc0 ha2 ?_
  refine kF_X4_strides (show ci0 = 0 ∨ ci0 = 3 ∨ ci0 = 4 ∨ ci0 = 6 ∨ ci0 = 7 ∨ ci0 = 8 ∨ ci0 = 10 from by omega) hc0 lc0 ha2 m0  (by omega) (by omega) (fun r3 σ2 mσ2 cσ2 hσ2 => ?_)
  obtain rfl := FX_nil cσ2
  replace H := f_b hσ2 H
  exact h9ret (r3 / (2 : Int32)) σ0 m0 f0 (H0.trans H.symm)
set_option maxRecDepth 100000 in
set_option maxHeartbeats 4000000 in
theorem kF_X6_strides {l : Launch} {V : Vx} {c0 : Nat} {a1 : Int32} {a2 : Nat} {a3 : Int32} {σ0 : Sg} {Qk : Int32 → Sg → Prop} {ci0 : Nat} (sc0 : ci0 = 6) (hc0 : kd c0 = (10 + ci0, 0)) (lc0 : c0 ∈ ids (V)) (ha2 : isC a2) (m0 : XI V σ0) (l_a3 : 0 ≤ a3.toInt) (u_a3 : a3.toInt ≤ 5) (h9ret : ∀ (r : Int32) (σ' : Sg), XI V σ' → FX (fun id => False) (fun _ _ => False) σ0 σ' → (F_X6_strides c0 a1 a2 a3 σ0 = (r, σ')) → Qk r σ') : K_X6_strides l V c0 a1 a2 a3 σ0 Qk := by
  refine e_X6_strides (fun M hl hV hN C => ?_)
  subst hl
  subst hV
  obtain ⟨R9, H0⟩ : ∃ R9, F_X6_strides c0 a1 a2 a3 σ0 = R9 := ⟨_, rfl⟩
  have ic0 : isMc ci0 := by rw [sc0]; decide
  have gc0 := kdM_ge ic0 hc0
  have oa2 : hid (a2 = 1 ∨ a2 = 17 ∨ a2 = 33) := ha2
  have f0 : FX (fun id => False) (fun _ _ => False) σ0 σ0 := FX_rf
  have t_1 := XI_c1 m0 (id := c0) (k := 2) (lim_M0_2 ic0 hc0)
  have H := H0
  unfold F_X6_strides at H
  refine s_X6_strides_0 C hN sc0 hc0 lc0 ha2 ?_
  refine kF_X8_strides (show ci0 = 6 ∨ ci0 = 8 from by omega) hc0 lc0 ha2 m0  (by omega) (by omega) (fun r3 σ2 mσ2 cσ2 hσ2 => ?_)
  obtain rfl := FX_nil cσ2
  replace H := f_b hσ2 H
  intro v4 ev4
  replace H := f_l ev4 H
  have t_2 : ((gi σ0 c0 2) / (3 : Int32)).toInt = (gi σ0 c0 2).toInt / 3 := i_div (by omega) (by decide +kernel) rfl
  refine ⟨?_, ?_⟩
  · intro q_3
    replace H := f_t q_3 H
    have w_4 := Int32.toInt_lt v4
    have w_5 := Int32.le_toInt v4
    have b_6 : v4.toInt ≤ 0 := Int32.le_iff_toInt_le.mp q_3
    have z_7 : (0 : Int32).toInt = 0 := rfl
    exact h9ret (0 : Int32) σ0 m0 f0 (H0.trans H.symm)
  · intro q_3
    replace H := f_f q_3 H
    have w_8 := Int32.toInt_lt v4
    have w_9 := Int32.le_toInt v4
    have b_10 : ¬ v4.toInt ≤ 0 := fun h9 => q_3 (Int32.le_iff_toInt_le.mpr h9)
    exact h9ret v4 σ0 m0 f0 (H0.trans H.symm)
set_option maxRecDepth 100000 in
set_option maxHeartbeats 4000000 in
theorem kF_X1_gap {l : Launch} {V : Vx} {c0 : Nat} {σ0 : Sg} {Qk : Int32 → Sg → Prop} (hc0 : isC c0) (m0 : XI V σ0) (h9ret : ∀ (r : Int32) (σ' : Sg), XI V σ' → FX (fun id => False) (fun _ _ => False) σ0 σ' → (F_X1_gap c0 σ0 = (r, σ')) → Qk r σ') : K_X1_gap l V c0 σ0 Qk := by
  refine e_X1_gap (fun M hl hV hN C => ?_)
  subst hl
  subst hV
  obtain ⟨R9, H0⟩ : ∃ R9, F_X1_gap c0 σ0 = R9 := ⟨_, rfl⟩
  have oc0 : hid (c0 = 1 ∨ c0 = 17 ∨ c0 = 33) := hc0
  have f0 : FX (fun id => False) (fun _ _ => False) σ0 σ0 := FX_rf
  have H := H0
  unfold F_X1_gap at H
  refine s_X1_gap_0 C hN hc0 ?_
  refine ⟨?_, ?_⟩
  · intro q_1
    replace H := f_t q_1 H
    have b_2 : (gi σ0 c0 11).toInt < 0 := Int32.lt_iff_toInt_lt.mp q_1
    obtain ⟨f2, ef2, hf2, lf2⟩ := (m0.2.1 _ hc0).1
    have gf2 : hid _ := kdF_ge hf2
    refine ⟨f2, ef2, hf2, lf2, ?_⟩
    replace H := f_o ef2 H
    exact h9ret (gi σ0 f2 0) σ0 m0 f0 (H0.trans H.symm)
  · intro q_1
    replace H := f_f q_1 H
    have b_3 : ¬ (gi σ0 c0 11).toInt < 0 := fun h9 => q_1 (Int32.lt_iff_toInt_lt.mpr h9)
    exact h9ret (gi σ0 c0 11) σ0 m0 f0 (H0.trans H.symm)
set_option maxRecDepth 100000 in
set_option maxHeartbeats 4000000 in
theorem kF_X1_isPressedAt {l : Launch} {V : Vx} {c0 : Nat} {a1 : Int32} {σ0 : Sg} {Qk : Int32 → Sg → Prop} (hc0 : isC c0) (m0 : XI V σ0) (l_a1 : 0 ≤ a1.toInt) (u_a1 : a1.toInt ≤ 5) (h9ret : ∀ (r : Int32) (σ' : Sg), XI V σ' → FX (fun id => False) (fun _ _ => False) σ0 σ' → (0 ≤ r.toInt) → (r.toInt ≤ 1) → (F_X1_isPressedAt c0 a1 σ0 = (r, σ')) → Qk r σ') : K_X1_isPressedAt l V c0 a1 σ0 Qk := by
  refine e_X1_isPressedAt (fun M hl hV hN C => ?_)
  subst hl
  subst hV
  obtain ⟨R9, H0⟩ : ∃ R9, F_X1_isPressedAt c0 a1 σ0 = R9 := ⟨_, rfl⟩
  have oc0 : hid (c0 = 1 ∨ c0 = 17 ∨ c0 = 33) := hc0
  have f0 : FX (fun id => False) (fun _ _ => False) σ0 σ0 := FX_rf
  have t_1 := XI_c1 m0 (id := c0) (k := 3) (lim_C0_3 hc0)
  have H := H0
  unfold F_X1_isPressedAt at H
  refine s_X1_isPressedAt_0 C hN hc0 ?_
  refine ⟨?_, ?_⟩
  · intro q_2
    replace H := f_t q_2 H
    have t_3 : (a1 + (1 : Int32)).toInt = a1.toInt + 1 := i_add (x := a1) (y := (1 : Int32)) (by show (_ : Int) ≤ a1.toInt + 1; omega) (by show a1.toInt + 1 ≤ (_ : Int); omega)
    have b_4 : (gi σ0 c0 3).toInt ≤ (a1 + (1 : Int32)).toInt := Int32.le_iff_toInt_le.mp q_2
    have z_5 : (0 : Int32).toInt = 0 := rfl
    exact h9ret (0 : Int32) σ0 m0 f0 (by omega) (by omega) (H0.trans H.symm)
  · intro q_2
    replace H := f_f q_2 H
    have t_6 : (a1 + (1 : Int32)).toInt = a1.toInt + 1 := i_add (x := a1) (y := (1 : Int32)) (by show (_ : Int) ≤ a1.toInt + 1; omega) (by show a1.toInt + 1 ≤ (_ : Int); omega)
    have b_7 : ¬ (gi σ0 c0 3).toInt ≤ (a1 + (1 : Int32)).toInt := fun h9 => q_2 (Int32.le_iff_toInt_le.mpr h9)
    have hv_8 : vp_in a1 6 := vp_in_iff.mpr ⟨by omega, by omega⟩
    refine ⟨hv_8, ?_⟩
    have t_9 := XI_c1 m0 (id := (c0 + 2)) (k := a1.toNatClampNeg) (lim_C2 hc0 _)
    have hv_10 : vp_in (gi σ0 (c0 + 2) a1.toNatClampNeg) 6 := vp_in_iff.mpr ⟨by omega, by omega⟩
    refine ⟨hv_10, ?_⟩
    have hv_11 : vp_in (a1 + (1 : Int32)) 6 := vp_in_iff.mpr ⟨by omega, by omega⟩
    refine ⟨hv_11, ?_⟩
    have t_12 := XI_c1 m0 (id := (c0 + 2)) (k := (a1 + (1 : Int32)).toNatClampNeg) (lim_C2 hc0 _)
    have hv_13 : vp_in (gi σ0 (c0 + 2) (a1 + (1 : Int32)).toNatClampNeg) 6 := vp_in_iff.mpr ⟨by omega, by omega⟩
    refine ⟨hv_13, ?_⟩
    refine kF_X1_gap hc0 m0   (fun r7 σ6 mσ6 cσ6 hσ6 => ?_)
    obtain rfl := FX_nil cσ6
    replace H := f_b hσ6 H
    refine ⟨?_, ?_⟩
    · intro q_14
      replace H := f_t q_14 H
      have w_15 := Int32.toInt_lt r7
      have w_16 := Int32.le_toInt r7
      try have t_17 : (r7 + (3 : Int32)).toInt = r7.toInt + 3 := i_add (x := r7) (y := (3 : Int32)) (by show (_ : Int) ≤ r7.toInt + 3; omega) (by show r7.toInt + 3 ≤ (_ : Int); omega)
      have w_18 := Int32.toInt_lt (gi σ0 (c0 + 3) (gi σ0 (c0 + 2) a1.toNatClampNeg).toNatClampNeg)
      have w_19 := Int32.le_toInt (gi σ0 (c0 + 3) (gi σ0 (c0 + 2) a1.toNatClampNeg).toNatClampNeg)
      have w_20 := Int32.toInt_lt (gi σ0 (c0 + 3) (gi σ0 (c0 + 2) (a1 + (1 : Int32)).toNatClampNeg).toNatClampNeg)
      have w_21 := Int32.le_toInt (gi σ0 (c0 + 3) (gi σ0 (c0 + 2) (a1 + (1 : Int32)).toNatClampNeg).toNatClampNeg)
      try have t_22 : ((gi σ0 (c0 + 3) (gi σ0 (c0 + 2) a1.toNatClampNeg).toNatClampNeg) - (gi σ0 (c0 + 3) (gi σ0 (c0 + 2) (a1 + (1 : Int32)).toNatClampNeg).toNatClampNeg)).toInt = (gi σ0 (c0 + 3) (gi σ0 (c0 + 2) a1.toNatClampNeg).toNatClampNeg).toInt - (gi σ0 (c0 + 3) (gi σ0 (c0 + 2) (a1 + (1 : Int32)).toNatClampNeg).toNatClampNeg).toInt := i_sub (x := (gi σ0 (c0 + 3) (gi σ0 (c0 + 2) a1.toNatClampNeg).toNatClampNeg)) (y := (gi σ0 (c0 + 3) (gi σ0 (c0 + 2) (a1 + (1 : Int32)).toNatClampNeg).toNatClampNeg)) (by show (_ : Int) ≤ (gi σ0 (c0 + 3) (gi σ0 (c0 + 2) a1.toNatClampNeg).toNatClampNeg).toInt - (gi σ0 (c0 + 3) (gi σ0 (c0 + 2) (a1 + (1 : Int32)).toNatClampNeg).toNatClampNeg).toInt; omega) (by show (gi σ0 (c0 + 3) (gi σ0 (c0 + 2) a1.toNatClampNeg).toNatClampNeg).toInt - (gi σ0 (c0 + 3) (gi σ0 (c0 + 2) (a1 + (1 : Int32)).toNatClampNeg).toNatClampNeg).toInt ≤ (_ : Int); omega)
      have b_23 : (r7 + (3 : Int32)).toInt ≤ ((gi σ0 (c0 + 3) (gi σ0 (c0 + 2) a1.toNatClampNeg).toNatClampNeg) - (gi σ0 (c0 + 3) (gi σ0 (c0 + 2) (a1 + (1 : Int32)).toNatClampNeg).toNatClampNeg)).toInt := Int32.le_iff_toInt_le.mp q_14
      have z_24 : (0 : Int32).toInt = 0 := rfl
      exact h9ret (0 : Int32) σ0 m0 f0 (by omega) (by omega) (H0.trans H.symm)
    · intro q_14
      replace H := f_f q_14 H
      have w_25 := Int32.toInt_lt r7
      have w_26 := Int32.le_toInt r7
      try have t_27 : (r7 + (3 : Int32)).toInt = r7.toInt + 3 := i_add (x := r7) (y := (3 : Int32)) (by show (_ : Int) ≤ r7.toInt + 3; omega) (by show r7.toInt + 3 ≤ (_ : Int); omega)
      have w_28 := Int32.toInt_lt (gi σ0 (c0 + 3) (gi σ0 (c0 + 2) a1.toNatClampNeg).toNatClampNeg)
      have w_29 := Int32.le_toInt (gi σ0 (c0 + 3) (gi σ0 (c0 + 2) a1.toNatClampNeg).toNatClampNeg)
      have w_30 := Int32.toInt_lt (gi σ0 (c0 + 3) (gi σ0 (c0 + 2) (a1 + (1 : Int32)).toNatClampNeg).toNatClampNeg)
      have w_31 := Int32.le_toInt (gi σ0 (c0 + 3) (gi σ0 (c0 + 2) (a1 + (1 : Int32)).toNatClampNeg).toNatClampNeg)
      try have t_32 : ((gi σ0 (c0 + 3) (gi σ0 (c0 + 2) a1.toNatClampNeg).toNatClampNeg) - (gi σ0 (c0 + 3) (gi σ0 (c0 + 2) (a1 + (1 : Int32)).toNatClampNeg).toNatClampNeg)).toInt = (gi σ0 (c0 + 3) (gi σ0 (c0 + 2) a1.toNatClampNeg).toNatClampNeg).toInt - (gi σ0 (c0 + 3) (gi σ0 (c0 + 2) (a1 + (1 : Int32)).toNatClampNeg).toNatClampNeg).toInt := i_sub (x := (gi σ0 (c0 + 3) (gi σ0 (c0 + 2) a1.toNatClampNeg).toNatClampNeg)) (y := (gi σ0 (c0 + 3) (gi σ0 (c0 + 2) (a1 + (1 : Int32)).toNatClampNeg).toNatClampNeg)) (by show (_ : Int) ≤ (gi σ0 (c0 + 3) (gi σ0 (c0 + 2) a1.toNatClampNeg).toNatClampNeg).toInt - (gi σ0 (c0 + 3) (gi σ0 (c0 + 2) (a1 + (1 : Int32)).toNatClampNeg).toNatClampNeg).toInt; omega) (by show (gi σ0 (c0 + 3) (gi σ0 (c0 + 2) a1.toNatClampNeg).toNatClampNeg).toInt - (gi σ0 (c0 + 3) (gi σ0 (c0 + 2) (a1 + (1 : Int32)).toNatClampNeg).toNatClampNeg).toInt ≤ (_ : Int); omega)
      have b_33 : ¬ (r7 + (3 : Int32)).toInt ≤ ((gi σ0 (c0 + 3) (gi σ0 (c0 + 2) a1.toNatClampNeg).toNatClampNeg) - (gi σ0 (c0 + 3) (gi σ0 (c0 + 2) (a1 + (1 : Int32)).toNatClampNeg).toNatClampNeg)).toInt := fun h9 => q_14 (Int32.le_iff_toInt_le.mpr h9)
      have z_34 : (1 : Int32).toInt = 1 := rfl
      exact h9ret (1 : Int32) σ0 m0 f0 (by omega) (by omega) (H0.trans H.symm)
set_option maxRecDepth 100000 in
set_option maxHeartbeats 4000000 in
theorem kF_X7_strides {l : Launch} {V : Vx} {c0 : Nat} {a1 : Int32} {a2 : Nat} {a3 : Int32} {σ0 : Sg} {Qk : Int32 → Sg → Prop} {ci0 : Nat} (sc0 : ci0 = 7) (hc0 : kd c0 = (10 + ci0, 0)) (lc0 : c0 ∈ ids (V)) (ha2 : isC a2) (m0 : XI V σ0) (l_a3 : 0 ≤ a3.toInt) (u_a3 : a3.toInt ≤ 5) (h9ret : ∀ (r : Int32) (σ' : Sg), XI V σ' → FX (fun id => False) (fun _ _ => False) σ0 σ' → (F_X7_strides c0 a1 a2 a3 σ0 = (r, σ')) → Qk r σ') : K_X7_strides l V c0 a1 a2 a3 σ0 Qk := by
  refine e_X7_strides (fun M hl hV hN C => ?_)
  subst hl
  subst hV
  obtain ⟨R9, H0⟩ : ∃ R9, F_X7_strides c0 a1 a2 a3 σ0 = R9 := ⟨_, rfl⟩
  have ic0 : isMc ci0 := by rw [sc0]; decide
  have gc0 := kdM_ge ic0 hc0
  have oa2 : hid (a2 = 1 ∨ a2 = 17 ∨ a2 = 33) := ha2
  have f0 : FX (fun id => False) (fun _ _ => False) σ0 σ0 := FX_rf
  have H := H0
  unfold F_X7_strides at H
  refine s_X7_strides_0 C hN sc0 hc0 lc0 ha2 ?_
  refine kF_X3_strides (show ci0 = 3 ∨ ci0 = 7 from by omega) hc0 lc0 ha2 m0  (by omega) (by omega) (fun r3 σ2 mσ2 cσ2 hσ2 => ?_)
  obtain rfl := FX_nil cσ2
  replace H := f_b hσ2 H
  refine kF_X1_isPressedAt ha2 m0  (by omega) (by omega) (fun r5 σ4 mσ4 cσ4 plσ4 phσ4 hσ4 => ?_)
  obtain rfl := FX_nil cσ4
  replace H := f_b hσ4 H
  refine ⟨?_, ?_⟩
  · intro q_1
    replace H := f_t q_1 H
    have b_2 : r5.toInt = 0 := congrArg Int32.toInt q_1
    exact h9ret (r3 + (0 : Int32)) σ0 m0 f0 (H0.trans H.symm)
  · intro q_1
    replace H := f_f q_1 H
    have b_3 : ¬ r5.toInt = 0 := fun h9 => q_1 (Int32.toInt_inj.mp h9)
    exact h9ret (r3 + (2 : Int32)) σ0 m0 f0 (H0.trans H.symm)
set_option maxRecDepth 100000 in
set_option maxHeartbeats 4000000 in
theorem kF_X10_strides {l : Launch} {V : Vx} {c0 : Nat} {a1 : Int32} {a2 : Nat} {a3 : Int32} {σ0 : Sg} {Qk : Int32 → Sg → Prop} {ci0 : Nat} (sc0 : ci0 = 10) (hc0 : kd c0 = (10 + ci0, 0)) (lc0 : c0 ∈ ids (V)) (ha2 : isC a2) (m0 : XI V σ0) (l_a3 : 0 ≤ a3.toInt) (u_a3 : a3.toInt ≤ 5) (h9ret : ∀ (r : Int32) (σ' : Sg), XI V σ' → FX (fun id => False) (fun _ _ => False) σ0 σ' → (F_X10_strides c0 a1 a2 a3 σ0 = (r, σ')) → Qk r σ') : K_X10_strides l V c0 a1 a2 a3 σ0 Qk := by
  refine e_X10_strides (fun M hl hV hN C => ?_)
  subst hl
  subst hV
  obtain ⟨R9, H0⟩ : ∃ R9, F_X10_strides c0 a1 a2 a3 σ0 = R9 := ⟨_, rfl⟩
  have ic0 : isMc ci0 := by rw [sc0]; decide
  have gc0 := kdM_ge ic0 hc0
  have oa2 : hid (a2 = 1 ∨ a2 = 17 ∨ a2 = 33) := ha2
  have f0 : FX (fun id => False) (fun _ _ => False) σ0 σ0 := FX_rf
  have t_1 := XI_c1 m0 (id := a2) (k := 9) (lim_C0_9 ha2)
  have t_2 := XI_c1 m0 (id := c0) (k := 1) (lim_M0_1 ic0 hc0)
  have H := H0
  unfold F_X10_strides at H
  refine s_X10_strides_0 C hN sc0 hc0 lc0 ha2 ?_
  refine kF_X0_strides (show ci0 = 0 ∨ ci0 = 10 from by omega) hc0 lc0 ha2 m0  (by omega) (by omega) (fun r3 σ2 mσ2 cσ2 hσ2 => ?_)
  obtain rfl := FX_nil cσ2
  replace H := f_b hσ2 H
  have t_3 : ((4 : Int32) * (gi σ0 c0 1)).toInt = 4 * (gi σ0 c0 1).toInt := i_mull rfl (by omega) (by omega)
  have t_4 : ((gi σ0 a2 9) - (((gi σ0 a2 9) / (4 : Int32)) * (4 : Int32))).toInt = (gi σ0 a2 9).toInt % 4 := i_rem (by omega) (by decide +kernel) rfl
  have t_5 : (((4 : Int32) * (gi σ0 c0 1)) + ((gi σ0 a2 9) - (((gi σ0 a2 9) / (4 : Int32)) * (4 : Int32)))).toInt = ((4 : Int32) * (gi σ0 c0 1)).toInt + ((gi σ0 a2 9) - (((gi σ0 a2 9) / (4 : Int32)) * (4 : Int32))).toInt := i_add (x := ((4 : Int32) * (gi σ0 c0 1))) (y := ((gi σ0 a2 9) - (((gi σ0 a2 9) / (4 : Int32)) * (4 : Int32)))) (by show (_ : Int) ≤ ((4 : Int32) * (gi σ0 c0 1)).toInt + ((gi σ0 a2 9) - (((gi σ0 a2 9) / (4 : Int32)) * (4 : Int32))).toInt; omega) (by show ((4 : Int32) * (gi σ0 c0 1)).toInt + ((gi σ0 a2 9) - (((gi σ0 a2 9) / (4 : Int32)) * (4 : Int32))).toInt ≤ (_ : Int); omega)
  have hv_6 : vp_in (((4 : Int32) * (gi σ0 c0 1)) + ((gi σ0 a2 9) - (gi σ0 a2 9) / (4 : Int32) * (4 : Int32))) 24 := vp_in_iff.mpr ⟨by omega, by omega⟩
  refine ⟨hv_6, ?_⟩
  exact h9ret (r3 + (gi σ0 (a2 + 7) (((4 : Int32) * (gi σ0 c0 1)) + ((gi σ0 a2 9) - (gi σ0 a2 9) / (4 : Int32) * (4 : Int32))).toNatClampNeg)) σ0 m0 f0 (H0.trans H.symm)
theorem kF_KD_strides {l : Launch} {V : Vx} {ci c0 : Nat} {a1 : Int32} {a2 : Nat} {a3 : Int32} {σ0 : Sg} {Qk : Int32 → Sg → Prop} (s : isMc ci) (h : kd c0 = (10 + ci, 0)) (lc : c0 ∈ ids V) (ha2 : isC a2) (m0 : XI V σ0) (l3 : 0 ≤ a3.toInt) (u3 : a3.toInt ≤ 5) (h9ret : ∀ (r : Int32) (σ' : Sg), XI V σ' → FX (fun id => False) (fun _ _ => False) σ0 σ' → (F_KD_strides ci c0 a1 a2 a3 σ0 = (r, σ')) → Qk r σ') : KD_strides l V ci c0 a1 a2 a3 σ0 Qk := by
  refine ⟨fun e => ?_, fun e => ?_, fun e => ?_, fun e => ?_, fun e => ?_, fun e => ?_, fun e => ?_⟩
  · exact kF_X0_strides (by omega) h lc ha2 m0 l3 u3 (fun r σ' m f hF => h9ret r σ' m f (by unfold F_KD_strides; rw [if_pos e]; exact hF))
  · exact kF_X3_strides (by omega) h lc ha2 m0 l3 u3 (fun r σ' m f hF => h9ret r σ' m f (by unfold F_KD_strides; rw [if_neg (show ¬ ci = 0 by omega), if_pos e]; exact hF))
  · exact kF_X4_strides (by omega) h lc ha2 m0 l3 u3 (fun r σ' m f hF => h9ret r σ' m f (by unfold F_KD_strides; rw [if_neg (show ¬ ci = 0 by omega), if_neg (show ¬ ci = 3 by omega), if_pos e]; exact hF))
  · exact kF_X6_strides (by omega) h lc ha2 m0 l3 u3 (fun r σ' m f hF => h9ret r σ' m f (by unfold F_KD_strides; rw [if_neg (show ¬ ci = 0 by omega), if_neg (show ¬ ci = 3 by omega), if_neg (show ¬ ci = 4 by omega), if_pos e]; exact hF))
  · exact kF_X7_strides (by omega) h lc ha2 m0 l3 u3 (fun r σ' m f hF => h9ret r σ' m f (by unfold F_KD_strides; rw [if_neg (show ¬ ci = 0 by omega), if_neg (show ¬ ci = 3 by omega), if_neg (show ¬ ci = 4 by omega), if_neg (show ¬ ci = 6 by omega), if_pos e]; exact hF))
  · exact kF_X8_strides (by omega) h lc ha2 m0 l3 u3 (fun r σ' m f hF => h9ret r σ' m f (by unfold F_KD_strides; rw [if_neg (show ¬ ci = 0 by omega), if_neg (show ¬ ci = 3 by omega), if_neg (show ¬ ci = 4 by omega), if_neg (show ¬ ci = 6 by omega), if_neg (show ¬ ci = 7 by omega), if_pos e]; exact hF))
  · exact kF_X10_strides (by omega) h lc ha2 m0 l3 u3 (fun r σ' m f hF => h9ret r σ' m f (by unfold F_KD_strides; rw [if_neg (show ¬ ci = 0 by omega), if_neg (show ¬ ci = 3 by omega), if_neg (show ¬ ci = 4 by omega), if_neg (show ¬ ci = 6 by omega), if_neg (show ¬ ci = 7 by omega), if_neg (show ¬ ci = 8 by omega), if_pos e]; exact hF))
set_option maxRecDepth 100000 in
set_option maxHeartbeats 4000000 in
theorem kF_X1_numbersOf {l : Launch} {V : Vx} {c0 : Nat} {a1 : Int32} {σ0 : Sg} {Qk : Nat → Sg → Prop} (hc0 : isC c0) (m0 : XI V σ0) (h9ret : ∀ (r : Nat) (σ' : Sg), XI V σ' → FX (fun id => False) (fun _ _ => False) σ0 σ' → (r = c0 + 3 ∨ r = c0 + 4 ∨ r = c0 + 5 ∨ r = c0 + 6) → (F_X1_numbersOf c0 a1 σ0 = (r, σ')) → Qk r σ') : K_X1_numbersOf l V c0 a1 σ0 Qk := by
  refine e_X1_numbersOf (fun M hl hV hN C => ?_)
  subst hl
  subst hV
  obtain ⟨R9, H0⟩ : ∃ R9, F_X1_numbersOf c0 a1 σ0 = R9 := ⟨_, rfl⟩
  have oc0 : hid (c0 = 1 ∨ c0 = 17 ∨ c0 = 33) := hc0
  have f0 : FX (fun id => False) (fun _ _ => False) σ0 σ0 := FX_rf
  have H := H0
  unfold F_X1_numbersOf at H
  refine s_X1_numbersOf_0 C hN hc0 ?_
  refine ⟨?_, ?_, ?_, ?_⟩
  · intro q_1
    replace H := f_f (by omega) H
    replace H := f_f (by omega) H
    replace H := f_f (by omega) H
    exact h9ret (c0 + 6) σ0 m0 f0 (by first | with_reducible assumption | with_reducible rfl | omega | assumption | rfl) (H0.trans H.symm)
  · intro q_1
    replace H := f_t q_1 H
    exact h9ret (c0 + 3) σ0 m0 f0 (by first | with_reducible assumption | with_reducible rfl | omega | assumption | rfl) (H0.trans H.symm)
  · intro q_1
    replace H := f_f (by omega) H
    replace H := f_t q_1 H
    exact h9ret (c0 + 4) σ0 m0 f0 (by first | with_reducible assumption | with_reducible rfl | omega | assumption | rfl) (H0.trans H.symm)
  · intro q_1
    replace H := f_f (by omega) H
    replace H := f_f (by omega) H
    replace H := f_t q_1 H
    exact h9ret (c0 + 5) σ0 m0 f0 (by first | with_reducible assumption | with_reducible rfl | omega | assumption | rfl) (H0.trans H.symm)
set_option maxRecDepth 100000 in
set_option maxHeartbeats 4000000 in
theorem kF_X1_paceAt {l : Launch} {V : Vx} {c0 : Nat} {a1 : Int32} {σ0 : Sg} {Qk : Int32 → Sg → Prop} (hc0 : isC c0) (m0 : XI V σ0) (nn_c0 : NN σ0 c0) (l_a1 : 0 ≤ a1.toInt) (u_a1 : a1.toInt ≤ 5) (pre0 : a1.toInt < (gi σ0 c0 3).toInt) (h9ret : ∀ (r : Int32) (σ' : Sg), XI V σ' → FX (fun id => id = c0 + 15) (fun _ _ => False) σ0 σ' → (NN σ' c0) → (F_X1_paceAt c0 a1 σ0 = (r, σ')) → Qk r σ') : K_X1_paceAt l V c0 a1 σ0 Qk := by
  refine e_X1_paceAt (fun M hl hV hN C => ?_)
  subst hl
  subst hV
  obtain ⟨R9, H0⟩ : ∃ R9, F_X1_paceAt c0 a1 σ0 = R9 := ⟨_, rfl⟩
  have oc0 : hid (c0 = 1 ∨ c0 = 17 ∨ c0 = 33) := hc0
  have f0 : FX (fun id => id = c0 + 15) (fun _ _ => False) σ0 σ0 := FX_rf
  have t_1 := XI_c1 m0 (id := c0) (k := 1) (lim_C0_1 hc0)
  have t_2 := XI_c1 m0 (id := c0) (k := 3) (lim_C0_3 hc0)
  have t_3 := XI_c1 m0 (id := c0) (k := 9) (lim_C0_9 hc0)
  have ec9 := cl_eq (x := a1) (by omega)
  have eb9 := nn_c0.1 a1.toNatClampNeg (by omega)
  have H := H0
  unfold F_X1_paceAt at H
  refine s_X1_paceAt_0 C hN hc0 ?_
  have hv_4 : vp_in a1 6 := vp_in_iff.mpr ⟨by omega, by omega⟩
  refine ⟨hv_4, ?_⟩
  intro v2 ev2
  replace H := f_l ev2 H
  have t_5 := XI_c1 m0 (id := (c0 + 2)) (k := a1.toNatClampNeg) (lim_C2 hc0 _)
  have t_6 : v2.toInt = (gi σ0 (c0 + 2) a1.toNatClampNeg).toInt := congrArg Int32.toInt ev2
  have z_7 : (0 : Int32).toInt = 0 := rfl
  have hv_8 : vp_in (0 : Int32) 6 := vp_in_iff.mpr ⟨by omega, by omega⟩
  refine ⟨hv_8, ?_⟩
  intro σ4 eσ4
  replace H := f_l eσ4 H
  have mσ4 : XI (mV M) σ4 := by rw [eσ4]; exact XIs_n m0 (lim_C15 hc0 _)
  have fσ4 : FX (fun id => id = c0 + 15) (fun _ _ => False) σ0 σ4 := by rw [eσ4]; exact FX_si f0 (Or.inl (show c0 + 15 = c0 + 15 from rfl))
  have k_9 : (gi σ4 c0 1).toInt = (gi σ0 c0 1).toInt := by rw [eσ4]; exact congrArg Int32.toInt (gi_si_ne (Or.inl (by first | omega | (have uoc0 := un oc0; omega))))
  have k_10 : (gi σ4 c0 3).toInt = (gi σ0 c0 3).toInt := by rw [eσ4]; exact congrArg Int32.toInt (gi_si_ne (Or.inl (by first | omega | (have uoc0 := un oc0; omega))))
  have k_11 : (gi σ4 c0 9).toInt = (gi σ0 c0 9).toInt := by rw [eσ4]; exact congrArg Int32.toInt (gi_si_ne (Or.inl (by first | omega | (have uoc0 := un oc0; omega))))
  have nσ4_c0 : NN σ4 c0 := by rw [eσ4]; exact NN_si nn_c0 (by first | omega | (have uoc0 := un oc0; omega)) (fun h9 => absurd h9 (by first | omega | (have uoc0 := un oc0; omega)))
  have hv_12 : vp_in v2 6 := vp_in_iff.mpr ⟨by omega, by omega⟩
  have ec_13 := cl_eq (x := v2) (by omega)
  obtain ⟨μ6, ci6, eμ6, sμ6, hμ6, lμ6⟩ := XI_mow mσ4 hc0 (nσ4_c0.2 v2.toNatClampNeg (by omega))
  have gμ6 := kdM_ge sμ6 hμ6
  refine ⟨hv_12, μ6, ci6, eμ6, sμ6, hμ6, lμ6, ?_⟩
  replace H := f_m eμ6 hμ6 H
  have z_14 : (1 : Int32).toInt = 1 := rfl
  have hv_15 : vp_in (1 : Int32) 6 := vp_in_iff.mpr ⟨by omega, by omega⟩
  refine ⟨hv_15, ?_⟩
  intro σ8 eσ8
  replace H := f_l eσ8 H
  have mσ8 : XI (mV M) σ8 := by rw [eσ8]; exact XIs_n mσ4 (lim_C15 hc0 _)
  have fσ8 : FX (fun id => id = c0 + 15) (fun _ _ => False) σ0 σ8 := by rw [eσ8]; exact FX_si fσ4 (Or.inl (show c0 + 15 = c0 + 15 from rfl))
  have k_16 : (gi σ8 c0 1).toInt = (gi σ4 c0 1).toInt := by rw [eσ8]; exact congrArg Int32.toInt (gi_si_ne (Or.inl (by first | omega | (have uoc0 := un oc0; omega))))
  have k_17 : (gi σ8 c0 3).toInt = (gi σ4 c0 3).toInt := by rw [eσ8]; exact congrArg Int32.toInt (gi_si_ne (Or.inl (by first | omega | (have uoc0 := un oc0; omega))))
  have k_18 : (gi σ8 c0 9).toInt = (gi σ4 c0 9).toInt := by rw [eσ8]; exact congrArg Int32.toInt (gi_si_ne (Or.inl (by first | omega | (have uoc0 := un oc0; omega))))
  have k_19 : (gi σ8 μ6 0).toInt = (gi σ4 μ6 0).toInt := by rw [eσ8]; exact congrArg Int32.toInt (gi_si_ne (Or.inl (by first | omega | (have uoc0 := un oc0; omega))))
  have nσ8_c0 : NN σ8 c0 := by rw [eσ8]; exact NN_si nσ4_c0 (by first | omega | (have uoc0 := un oc0; omega)) (fun h9 => absurd h9 (by first | omega | (have uoc0 := un oc0; omega)))
  have z_20 : (2 : Int32).toInt = 2 := rfl
  have hv_21 : vp_in (2 : Int32) 6 := vp_in_iff.mpr ⟨by omega, by omega⟩
  refine ⟨hv_21, ?_⟩
  intro σ10 eσ10
  replace H := f_l eσ10 H
  have mσ10 : XI (mV M) σ10 := by rw [eσ10]; exact XIs_n mσ8 (lim_C15 hc0 _)
  have fσ10 : FX (fun id => id = c0 + 15) (fun _ _ => False) σ0 σ10 := by rw [eσ10]; exact FX_si fσ8 (Or.inl (show c0 + 15 = c0 + 15 from rfl))
  have k_22 : (gi σ10 c0 1).toInt = (gi σ8 c0 1).toInt := by rw [eσ10]; exact congrArg Int32.toInt (gi_si_ne (Or.inl (by first | omega | (have uoc0 := un oc0; omega))))
  have k_23 : (gi σ10 c0 3).toInt = (gi σ8 c0 3).toInt := by rw [eσ10]; exact congrArg Int32.toInt (gi_si_ne (Or.inl (by first | omega | (have uoc0 := un oc0; omega))))
  have k_24 : (gi σ10 c0 9).toInt = (gi σ8 c0 9).toInt := by rw [eσ10]; exact congrArg Int32.toInt (gi_si_ne (Or.inl (by first | omega | (have uoc0 := un oc0; omega))))
  have k_25 : (gi σ10 μ6 0).toInt = (gi σ8 μ6 0).toInt := by rw [eσ10]; exact congrArg Int32.toInt (gi_si_ne (Or.inl (by first | omega | (have uoc0 := un oc0; omega))))
  have nσ10_c0 : NN σ10 c0 := by rw [eσ10]; exact NN_si nσ8_c0 (by first | omega | (have uoc0 := un oc0; omega)) (fun h9 => absurd h9 (by first | omega | (have uoc0 := un oc0; omega)))
  refine ⟨hv_12, ?_⟩
  have z_26 : (3 : Int32).toInt = 3 := rfl
  have hv_27 : vp_in (3 : Int32) 6 := vp_in_iff.mpr ⟨by omega, by omega⟩
  refine ⟨hv_27, ?_⟩
  intro σ13 eσ13
  replace H := f_l eσ13 H
  have mσ13 : XI (mV M) σ13 := by rw [eσ13]; exact XIs_n mσ10 (lim_C15 hc0 _)
  have fσ13 : FX (fun id => id = c0 + 15) (fun _ _ => False) σ0 σ13 := by rw [eσ13]; exact FX_si fσ10 (Or.inl (show c0 + 15 = c0 + 15 from rfl))
  have k_28 : (gi σ13 c0 1).toInt = (gi σ10 c0 1).toInt := by rw [eσ13]; exact congrArg Int32.toInt (gi_si_ne (Or.inl (by first | omega | (have uoc0 := un oc0; omega))))
  have k_29 : (gi σ13 c0 3).toInt = (gi σ10 c0 3).toInt := by rw [eσ13]; exact congrArg Int32.toInt (gi_si_ne (Or.inl (by first | omega | (have uoc0 := un oc0; omega))))
  have k_30 : (gi σ13 c0 9).toInt = (gi σ10 c0 9).toInt := by rw [eσ13]; exact congrArg Int32.toInt (gi_si_ne (Or.inl (by first | omega | (have uoc0 := un oc0; omega))))
  have k_31 : (gi σ13 μ6 0).toInt = (gi σ10 μ6 0).toInt := by rw [eσ13]; exact congrArg Int32.toInt (gi_si_ne (Or.inl (by first | omega | (have uoc0 := un oc0; omega))))
  have nσ13_c0 : NN σ13 c0 := by rw [eσ13]; exact NN_si nσ10_c0 (by first | omega | (have uoc0 := un oc0; omega)) (fun h9 => absurd h9 (by first | omega | (have uoc0 := un oc0; omega)))
  refine ⟨hv_12, ?_⟩
  have z_32 : (4 : Int32).toInt = 4 := rfl
  have hv_33 : vp_in (4 : Int32) 6 := vp_in_iff.mpr ⟨by omega, by omega⟩
  refine ⟨hv_33, ?_⟩
  intro σ16 eσ16
  replace H := f_l eσ16 H
  have mσ16 : XI (mV M) σ16 := by rw [eσ16]; exact XIs_n mσ13 (lim_C15 hc0 _)
  have fσ16 : FX (fun id => id = c0 + 15) (fun _ _ => False) σ0 σ16 := by rw [eσ16]; exact FX_si fσ13 (Or.inl (show c0 + 15 = c0 + 15 from rfl))
  have k_34 : (gi σ16 c0 1).toInt = (gi σ13 c0 1).toInt := by rw [eσ16]; exact congrArg Int32.toInt (gi_si_ne (Or.inl (by first | omega | (have uoc0 := un oc0; omega))))
  have k_35 : (gi σ16 c0 3).toInt = (gi σ13 c0 3).toInt := by rw [eσ16]; exact congrArg Int32.toInt (gi_si_ne (Or.inl (by first | omega | (have uoc0 := un oc0; omega))))
  have k_36 : (gi σ16 c0 9).toInt = (gi σ13 c0 9).toInt := by rw [eσ16]; exact congrArg Int32.toInt (gi_si_ne (Or.inl (by first | omega | (have uoc0 := un oc0; omega))))
  have k_37 : (gi σ16 μ6 0).toInt = (gi σ13 μ6 0).toInt := by rw [eσ16]; exact congrArg Int32.toInt (gi_si_ne (Or.inl (by first | omega | (have uoc0 := un oc0; omega))))
  have nσ16_c0 : NN σ16 c0 := by rw [eσ16]; exact NN_si nσ13_c0 (by first | omega | (have uoc0 := un oc0; omega)) (fun h9 => absurd h9 (by first | omega | (have uoc0 := un oc0; omega)))
  have z_38 : (5 : Int32).toInt = 5 := rfl
  have hv_39 : vp_in (5 : Int32) 6 := vp_in_iff.mpr ⟨by omega, by omega⟩
  refine ⟨hv_39, ?_⟩
  intro σ18 eσ18
  replace H := f_l eσ18 H
  have mσ18 : XI (mV M) σ18 := by rw [eσ18]; exact XIs_n mσ16 (lim_C15 hc0 _)
  have fσ18 : FX (fun id => id = c0 + 15) (fun _ _ => False) σ0 σ18 := by rw [eσ18]; exact FX_si fσ16 (Or.inl (show c0 + 15 = c0 + 15 from rfl))
  have k_40 : (gi σ18 c0 1).toInt = (gi σ16 c0 1).toInt := by rw [eσ18]; exact congrArg Int32.toInt (gi_si_ne (Or.inl (by first | omega | (have uoc0 := un oc0; omega))))
  have k_41 : (gi σ18 c0 3).toInt = (gi σ16 c0 3).toInt := by rw [eσ18]; exact congrArg Int32.toInt (gi_si_ne (Or.inl (by first | omega | (have uoc0 := un oc0; omega))))
  have k_42 : (gi σ18 c0 9).toInt = (gi σ16 c0 9).toInt := by rw [eσ18]; exact congrArg Int32.toInt (gi_si_ne (Or.inl (by first | omega | (have uoc0 := un oc0; omega))))
  have k_43 : (gi σ18 μ6 0).toInt = (gi σ16 μ6 0).toInt := by rw [eσ18]; exact congrArg Int32.toInt (gi_si_ne (Or.inl (by first | omega | (have uoc0 := un oc0; omega))))
  have nσ18_c0 : NN σ18 c0 := by rw [eσ18]; exact NN_si nσ16_c0 (by first | omega | (have uoc0 := un oc0; omega)) (fun h9 => absurd h9 (by first | omega | (have uoc0 := un oc0; omega)))
  obtain ⟨f19, ef19, hf19, lf19⟩ := (mσ18.2.1 _ hc0).1
  have gf19 : hid _ := kdF_ge hf19
  refine ⟨f19, ef19, hf19, lf19, ?_⟩
  replace H := f_o ef19 H
  refine kF_X2_paceOf hf19 lf19 (kdC_15 hc0) (fxl (fxC_15 hc0)) mσ18  (by first | with_reducible assumption | with_reducible rfl | omega | assumption | rfl) (fun r21 σ20 mσ20 cσ20 hσ20 => ?_)
  obtain rfl := FX_nil cσ20
  replace H := f_b hσ20 H
  have t_44 := XI_c1 mσ18 (id := c0) (k := 1) (lim_C0_1 hc0)
  have t_45 := XI_c1 mσ18 (id := c0) (k := 3) (lim_C0_3 hc0)
  have t_46 := XI_c1 mσ18 (id := c0) (k := 9) (lim_C0_9 hc0)
  have t_47 := XI_c1 mσ18 (id := μ6) (k := 0) (lim_M0_0 sμ6 hμ6)
  exact h9ret r21 σ18 mσ18 fσ18 nσ18_c0 (H0.trans H.symm)
set_option maxRecDepth 100000 in
set_option maxHeartbeats 4000000 in
theorem kF_X1_strideAt {l : Launch} {V : Vx} {c0 : Nat} {a1 : Int32} {σ0 : Sg} {Qk : Int32 → Sg → Prop} (hc0 : isC c0) (m0 : XI V σ0) (nn_c0 : NN σ0 c0) (l_a1 : 0 ≤ a1.toInt) (u_a1 : a1.toInt ≤ 5) (pre0 : a1.toInt < (gi σ0 c0 3).toInt) (h9ret : ∀ (r : Int32) (σ' : Sg), XI V σ' → FX (fun id => id = c0 + 15) (fun _ _ => False) σ0 σ' → (NN σ' c0) → (F_X1_strideAt c0 a1 σ0 = (r, σ')) → Qk r σ') : K_X1_strideAt l V c0 a1 σ0 Qk := by
  refine e_X1_strideAt (fun M hl hV hN C => ?_)
  subst hl
  subst hV
  obtain ⟨R9, H0⟩ : ∃ R9, F_X1_strideAt c0 a1 σ0 = R9 := ⟨_, rfl⟩
  have oc0 : hid (c0 = 1 ∨ c0 = 17 ∨ c0 = 33) := hc0
  have f0 : FX (fun id => id = c0 + 15) (fun _ _ => False) σ0 σ0 := FX_rf
  have t_1 := XI_c1 m0 (id := c0) (k := 1) (lim_C0_1 hc0)
  have t_2 := XI_c1 m0 (id := c0) (k := 3) (lim_C0_3 hc0)
  have ec9 := cl_eq (x := a1) (by omega)
  have eb9 := nn_c0.1 a1.toNatClampNeg (by omega)
  have H := H0
  unfold F_X1_strideAt at H
  refine s_X1_strideAt_0 C hN hc0 ?_
  have hv_3 : vp_in a1 6 := vp_in_iff.mpr ⟨by omega, by omega⟩
  refine ⟨hv_3, ?_⟩
  intro v2 ev2
  replace H := f_l ev2 H
  have t_4 := XI_c1 m0 (id := (c0 + 2)) (k := a1.toNatClampNeg) (lim_C2 hc0 _)
  have t_5 : v2.toInt = (gi σ0 (c0 + 2) a1.toNatClampNeg).toInt := congrArg Int32.toInt ev2
  have hv_6 : vp_in v2 6 := vp_in_iff.mpr ⟨by omega, by omega⟩
  have ec_7 := cl_eq (x := v2) (by omega)
  obtain ⟨μ4, ci4, eμ4, sμ4, hμ4, lμ4⟩ := XI_mow m0 hc0 (nn_c0.2 v2.toNatClampNeg (by omega))
  have gμ4 := kdM_ge sμ4 hμ4
  refine ⟨hv_6, μ4, ci4, eμ4, sμ4, hμ4, lμ4, ?_⟩
  replace H := f_m eμ4 hμ4 H
  refine kF_X1_paceAt hc0 m0 nn_c0 (by omega) (by omega) (by first | with_reducible assumption | with_reducible rfl | omega | assumption | rfl) (fun r6 σ5 mσ5 cσ5 nσ5_c0 hσ5 => ?_)
  replace H := f_b hσ5 H
  have fσ5 : FX (fun id => id = c0 + 15) (fun _ _ => False) σ0 σ5 := FX_tr f0 cσ5 (fun x (h9 : x = c0 + 15) => (show x = c0 + 15 from h9)) (fun _ _ h9 => h9.elim)
  have k_8 : (gi σ5 c0 1).toInt = (gi σ0 c0 1).toInt := congrArg Int32.toInt (FX_i cσ5 (show ¬ (c0 = c0 + 15) from by first | omega | (have uoc0 := un oc0; omega)) id)
  have k_9 : (gi σ5 c0 3).toInt = (gi σ0 c0 3).toInt := congrArg Int32.toInt (FX_i cσ5 (show ¬ (c0 = c0 + 15) from by first | omega | (have uoc0 := un oc0; omega)) id)
  refine kF_KD_strides sμ4 hμ4 lμ4 hc0 mσ5  (by omega) (by omega) (fun r8 σ7 mσ7 cσ7 hσ7 => ?_)
  obtain rfl := FX_nil cσ7
  replace H := f_b hσ7 H
  have t_10 := XI_c1 mσ5 (id := c0) (k := 1) (lim_C0_1 hc0)
  have t_11 := XI_c1 mσ5 (id := c0) (k := 3) (lim_C0_3 hc0)
  refine ⟨hv_6, ?_⟩
  refine ⟨?_, ?_⟩
  · intro q_12
    replace H := f_f q_12 H
    have w_13 := Int32.toInt_lt (gi σ5 (c0 + 4) v2.toNatClampNeg)
    have w_14 := Int32.le_toInt (gi σ5 (c0 + 4) v2.toNatClampNeg)
    have b_15 : ¬ (gi σ5 (c0 + 4) v2.toNatClampNeg).toInt = 0 := fun h9 => q_12 (Int32.toInt_inj.mp h9)
    exact h9ret r8 σ5 mσ5 fσ5 nσ5_c0 (H0.trans H.symm)
  · intro q_12
    replace H := f_t q_12 H
    have w_16 := Int32.toInt_lt (gi σ5 (c0 + 4) v2.toNatClampNeg)
    have w_17 := Int32.le_toInt (gi σ5 (c0 + 4) v2.toNatClampNeg)
    have b_18 : (gi σ5 (c0 + 4) v2.toNatClampNeg).toInt = 0 := congrArg Int32.toInt q_12
    exact h9ret (r8 / (2 : Int32)) σ5 mσ5 fσ5 nσ5_c0 (H0.trans H.symm)
set_option maxRecDepth 100000 in
set_option maxHeartbeats 4000000 in
theorem kF_X1_roomAt {l : Launch} {V : Vx} {c0 : Nat} {a1 : Int32} {σ0 : Sg} {Qk : Int32 → Sg → Prop} (hc0 : isC c0) (m0 : XI V σ0) (l_a1 : 0 ≤ a1.toInt) (u_a1 : a1.toInt ≤ 5) (h9ret : ∀ (r : Int32) (σ' : Sg), XI V σ' → FX (fun id => False) (fun _ _ => False) σ0 σ' → (F_X1_roomAt c0 a1 σ0 = (r, σ')) → Qk r σ') : K_X1_roomAt l V c0 a1 σ0 Qk := by
  refine e_X1_roomAt (fun M hl hV hN C => ?_)
  subst hl
  subst hV
  obtain ⟨R9, H0⟩ : ∃ R9, F_X1_roomAt c0 a1 σ0 = R9 := ⟨_, rfl⟩
  have oc0 : hid (c0 = 1 ∨ c0 = 17 ∨ c0 = 33) := hc0
  have T : ∀ n : Nat, (∀ (x2 : Int32) (x3 : Int32) (σ : Sg), XI (mV M) σ → FX (fun id => False) (fun _ _ => False) σ0 σ → (0 ≤ x2.toInt) → (x2.toInt ≤ 5) → (LF_X1_roomAt c0 n x2 x3 σ = R9) → 1 < n → PS M 54 [(0, .ref c0), (2, .int x2), (3, .int x3)] [] σ (0, 0)) := by
    intro n
    induction n with
    | zero => exact fun _ _ _ _ _ _ _ _ h8 => absurd h8 (Nat.not_lt_zero _)
    | succ n ih =>
      have ih54 := ih
      · intro x2 x3 σ mσ fσ lx2 ux2 H hmu
        replace H : LB_X1_roomAt_54 c0 (LF_X1_roomAt c0 n) x2 x3 σ = R9 := H
        unfold LB_X1_roomAt_54 at H
        refine s_X1_roomAt_54 C hN hc0 ?_
        have hv_1 : vp_in x2 6 := vp_in_iff.mpr ⟨by omega, by omega⟩
        refine ⟨hv_1, ?_⟩
        have z_2 : (0 : Int32).toInt = 0 := rfl
        have w_3 := Int32.toInt_lt x3
        have w_4 := Int32.le_toInt x3
        have w_5 := Int32.toInt_lt (gi σ (c0 + 3) x2.toNatClampNeg)
        have w_6 := Int32.le_toInt (gi σ (c0 + 3) x2.toNatClampNeg)
        try have t_7 : (x3 - (gi σ (c0 + 3) x2.toNatClampNeg)).toInt = x3.toInt - (gi σ (c0 + 3) x2.toNatClampNeg).toInt := i_sub (x := x3) (y := (gi σ (c0 + 3) x2.toNatClampNeg)) (by show (_ : Int) ≤ x3.toInt - (gi σ (c0 + 3) x2.toNatClampNeg).toInt; omega) (by show x3.toInt - (gi σ (c0 + 3) x2.toNatClampNeg).toInt ≤ (_ : Int); omega)
        intro v2 ev2
        replace H := f_l ev2 H
        have t_8 := jmax_b (0 : Int32) (x3 - (gi σ (c0 + 3) x2.toNatClampNeg))
        have t_9 : v2.toInt = (jmax (0 : Int32) (x3 - (gi σ (c0 + 3) x2.toNatClampNeg))).toInt := congrArg Int32.toInt ev2
        exact h9ret v2 σ mσ fσ (H0.trans H.symm)
  have U54 := T 9
  have f0 : FX (fun id => False) (fun _ _ => False) σ0 σ0 := FX_rf
  have H := H0
  unfold F_X1_roomAt at H
  refine s_X1_roomAt_0 C hN hc0 ?_
  have hv_10 : vp_in a1 6 := vp_in_iff.mpr ⟨by omega, by omega⟩
  refine ⟨hv_10, ?_⟩
  intro v2 ev2
  replace H := f_l ev2 H
  have t_11 := XI_c1 m0 (id := (c0 + 2)) (k := a1.toNatClampNeg) (lim_C2 hc0 _)
  have t_12 : v2.toInt = (gi σ0 (c0 + 2) a1.toNatClampNeg).toInt := congrArg Int32.toInt ev2
  have hv_13 : vp_in v2 6 := vp_in_iff.mpr ⟨by omega, by omega⟩
  refine ⟨hv_13, ?_⟩
  refine ⟨hv_10, ?_⟩
  have w_14 := Int32.toInt_lt (gi σ0 (c0 + 3) v2.toNatClampNeg)
  have w_15 := Int32.le_toInt (gi σ0 (c0 + 3) v2.toNatClampNeg)
  have w_16 := Int32.toInt_lt (gi σ0 (c0 + 14) a1.toNatClampNeg)
  have w_17 := Int32.le_toInt (gi σ0 (c0 + 14) a1.toNatClampNeg)
  try have t_18 : ((gi σ0 (c0 + 3) v2.toNatClampNeg) + (gi σ0 (c0 + 14) a1.toNatClampNeg)).toInt = (gi σ0 (c0 + 3) v2.toNatClampNeg).toInt + (gi σ0 (c0 + 14) a1.toNatClampNeg).toInt := i_add (x := (gi σ0 (c0 + 3) v2.toNatClampNeg)) (y := (gi σ0 (c0 + 14) a1.toNatClampNeg)) (by show (_ : Int) ≤ (gi σ0 (c0 + 3) v2.toNatClampNeg).toInt + (gi σ0 (c0 + 14) a1.toNatClampNeg).toInt; omega) (by show (gi σ0 (c0 + 3) v2.toNatClampNeg).toInt + (gi σ0 (c0 + 14) a1.toNatClampNeg).toInt ≤ (_ : Int); omega)
  have z_19 : (9999 : Int32).toInt = 9999 := rfl
  intro v5 ev5
  replace H := f_l ev5 H
  have t_20 := jmin_b ((gi σ0 (c0 + 3) v2.toNatClampNeg) + (gi σ0 (c0 + 14) a1.toNatClampNeg)) (9999 : Int32)
  have t_21 : v5.toInt = (jmin ((gi σ0 (c0 + 3) v2.toNatClampNeg) + (gi σ0 (c0 + 14) a1.toNatClampNeg)) (9999 : Int32)).toInt := congrArg Int32.toInt ev5
  refine ⟨?_, ?_⟩
  · intro q_22
    replace H := f_t q_22 H
    have b_23 : a1.toInt ≤ 0 := Int32.le_iff_toInt_le.mp q_22
    have w_24 := Int32.toInt_lt v5
    have w_25 := Int32.le_toInt v5
    exact U54 v2 v5 σ0 m0 f0 (by omega) (by omega) H (by omega)
  · intro q_22
    replace H := f_f q_22 H
    have b_26 : ¬ a1.toInt ≤ 0 := fun h9 => q_22 (Int32.le_iff_toInt_le.mpr h9)
    have t_27 : (a1 - (1 : Int32)).toInt = a1.toInt - 1 := i_sub (x := a1) (y := (1 : Int32)) (by show (_ : Int) ≤ a1.toInt - 1; omega) (by show a1.toInt - 1 ≤ (_ : Int); omega)
    have hv_28 : vp_in (a1 - (1 : Int32)) 6 := vp_in_iff.mpr ⟨by omega, by omega⟩
    refine ⟨hv_28, ?_⟩
    have t_29 := XI_c1 m0 (id := (c0 + 2)) (k := (a1 - (1 : Int32)).toNatClampNeg) (lim_C2 hc0 _)
    have hv_30 : vp_in (gi σ0 (c0 + 2) (a1 - (1 : Int32)).toNatClampNeg) 6 := vp_in_iff.mpr ⟨by omega, by omega⟩
    refine ⟨hv_30, ?_⟩
    refine kF_X1_gap hc0 m0   (fun r10 σ9 mσ9 cσ9 hσ9 => ?_)
    obtain rfl := FX_nil cσ9
    replace H := f_b hσ9 H
    have w_31 := Int32.toInt_lt v5
    have w_32 := Int32.le_toInt v5
    have w_33 := Int32.toInt_lt (gi σ0 (c0 + 3) (gi σ0 (c0 + 2) (a1 - (1 : Int32)).toNatClampNeg).toNatClampNeg)
    have w_34 := Int32.le_toInt (gi σ0 (c0 + 3) (gi σ0 (c0 + 2) (a1 - (1 : Int32)).toNatClampNeg).toNatClampNeg)
    have w_35 := Int32.toInt_lt r10
    have w_36 := Int32.le_toInt r10
    try have t_37 : ((gi σ0 (c0 + 3) (gi σ0 (c0 + 2) (a1 - (1 : Int32)).toNatClampNeg).toNatClampNeg) - r10).toInt = (gi σ0 (c0 + 3) (gi σ0 (c0 + 2) (a1 - (1 : Int32)).toNatClampNeg).toNatClampNeg).toInt - r10.toInt := i_sub (x := (gi σ0 (c0 + 3) (gi σ0 (c0 + 2) (a1 - (1 : Int32)).toNatClampNeg).toNatClampNeg)) (y := r10) (by show (_ : Int) ≤ (gi σ0 (c0 + 3) (gi σ0 (c0 + 2) (a1 - (1 : Int32)).toNatClampNeg).toNatClampNeg).toInt - r10.toInt; omega) (by show (gi σ0 (c0 + 3) (gi σ0 (c0 + 2) (a1 - (1 : Int32)).toNatClampNeg).toNatClampNeg).toInt - r10.toInt ≤ (_ : Int); omega)
    intro v11 ev11
    replace H := f_l ev11 H
    have t_38 := jmin_b v5 ((gi σ0 (c0 + 3) (gi σ0 (c0 + 2) (a1 - (1 : Int32)).toNatClampNeg).toNatClampNeg) - r10)
    have t_39 : v11.toInt = (jmin v5 ((gi σ0 (c0 + 3) (gi σ0 (c0 + 2) (a1 - (1 : Int32)).toNatClampNeg).toNatClampNeg) - r10)).toInt := congrArg Int32.toInt ev11
    have w_40 := Int32.toInt_lt v11
    have w_41 := Int32.le_toInt v11
    exact U54 v2 v11 σ0 m0 f0 (by omega) (by omega) H (by omega)
set_option maxRecDepth 100000 in
set_option maxHeartbeats 4000000 in
theorem kF_X1_wears {l : Launch} {V : Vx} {c0 : Nat} {a1 : Int32} {a2 : Int32} {σ0 : Sg} {Qk : Sg → Prop} (hc0 : isC c0) (m0 : XI V σ0) (l_a1 : 0 ≤ a1.toInt) (u_a1 : a1.toInt ≤ 5) (h9ret : ∀ (σ' : Sg), XI V σ' → FX (fun id => id = c0 + 4 ∨ id = c0 + 5) (fun _ _ => False) σ0 σ' → (F_X1_wears c0 a1 a2 σ0 = σ') → Qk σ') : K_X1_wears l V c0 a1 a2 σ0 Qk := by
  refine e_X1_wears (fun M hl hV hN C => ?_)
  subst hl
  subst hV
  obtain ⟨R9, H0⟩ : ∃ R9, F_X1_wears c0 a1 a2 σ0 = R9 := ⟨_, rfl⟩
  have oc0 : hid (c0 = 1 ∨ c0 = 17 ∨ c0 = 33) := hc0
  have f0 : FX (fun id => id = c0 + 4 ∨ id = c0 + 5) (fun _ _ => False) σ0 σ0 := FX_rf
  have H := H0
  unfold F_X1_wears at H
  refine s_X1_wears_0 C hN hc0 ?_
  refine ⟨?_, ?_⟩
  · intro q_1
    replace H := f_t q_1 H
    have w_2 := Int32.toInt_lt a2
    have w_3 := Int32.le_toInt a2
    have b_4 : a2.toInt = 0 := congrArg Int32.toInt q_1
    have hv_5 : vp_in a1 6 := vp_in_iff.mpr ⟨by omega, by omega⟩
    refine ⟨hv_5, ?_⟩
    have z_6 : (0 : Int32).toInt = 0 := rfl
    have w_7 := Int32.toInt_lt (gi σ0 (c0 + 5) a1.toNatClampNeg)
    have w_8 := Int32.le_toInt (gi σ0 (c0 + 5) a1.toNatClampNeg)
    try have t_9 : ((gi σ0 (c0 + 5) a1.toNatClampNeg) - (2 : Int32)).toInt = (gi σ0 (c0 + 5) a1.toNatClampNeg).toInt - 2 := i_sub (x := (gi σ0 (c0 + 5) a1.toNatClampNeg)) (y := (2 : Int32)) (by show (_ : Int) ≤ (gi σ0 (c0 + 5) a1.toNatClampNeg).toInt - 2; omega) (by show (gi σ0 (c0 + 5) a1.toNatClampNeg).toInt - 2 ≤ (_ : Int); omega)
    intro v3 ev3
    replace H := f_l ev3 H
    have t_10 := jmax_b (0 : Int32) ((gi σ0 (c0 + 5) a1.toNatClampNeg) - (2 : Int32))
    have t_11 : v3.toInt = (jmax (0 : Int32) ((gi σ0 (c0 + 5) a1.toNatClampNeg) - (2 : Int32))).toInt := congrArg Int32.toInt ev3
    refine ⟨hv_5, ?_⟩
    intro σ5 eσ5
    replace H := f_l eσ5 H
    have mσ5 : XI (mV M) σ5 := by rw [eσ5]; exact XIs_n m0 (lim_C5 hc0 _)
    have fσ5 : FX (fun id => id = c0 + 4 ∨ id = c0 + 5) (fun _ _ => False) σ0 σ5 := by rw [eσ5]; exact FX_si f0 (Or.inl (show c0 + 5 = c0 + 4 ∨ c0 + 5 = c0 + 5 from Or.inr (rfl)))
    exact h9ret σ5 mσ5 fσ5 (H0.trans H.symm)
  · intro q_1
    replace H := f_f q_1 H
    have w_12 := Int32.toInt_lt a2
    have w_13 := Int32.le_toInt a2
    have b_14 : ¬ a2.toInt = 0 := fun h9 => q_1 (Int32.toInt_inj.mp h9)
    have hv_15 : vp_in a1 6 := vp_in_iff.mpr ⟨by omega, by omega⟩
    refine ⟨hv_15, ?_⟩
    have z_16 : (0 : Int32).toInt = 0 := rfl
    have w_17 := Int32.toInt_lt (gi σ0 (c0 + 4) a1.toNatClampNeg)
    have w_18 := Int32.le_toInt (gi σ0 (c0 + 4) a1.toNatClampNeg)
    try have t_19 : ((gi σ0 (c0 + 4) a1.toNatClampNeg) - (1 : Int32)).toInt = (gi σ0 (c0 + 4) a1.toNatClampNeg).toInt - 1 := i_sub (x := (gi σ0 (c0 + 4) a1.toNatClampNeg)) (y := (1 : Int32)) (by show (_ : Int) ≤ (gi σ0 (c0 + 4) a1.toNatClampNeg).toInt - 1; omega) (by show (gi σ0 (c0 + 4) a1.toNatClampNeg).toInt - 1 ≤ (_ : Int); omega)
    intro v7 ev7
    replace H := f_l ev7 H
    have t_20 := jmax_b (0 : Int32) ((gi σ0 (c0 + 4) a1.toNatClampNeg) - (1 : Int32))
    have t_21 : v7.toInt = (jmax (0 : Int32) ((gi σ0 (c0 + 4) a1.toNatClampNeg) - (1 : Int32))).toInt := congrArg Int32.toInt ev7
    refine ⟨hv_15, ?_⟩
    intro σ9 eσ9
    replace H := f_l eσ9 H
    have mσ9 : XI (mV M) σ9 := by rw [eσ9]; exact XIs_n m0 (lim_C4 hc0 _)
    have fσ9 : FX (fun id => id = c0 + 4 ∨ id = c0 + 5) (fun _ _ => False) σ0 σ9 := by rw [eσ9]; exact FX_si f0 (Or.inl (show c0 + 4 = c0 + 4 ∨ c0 + 4 = c0 + 5 from Or.inl (rfl)))
    refine ⟨hv_15, ?_⟩
    obtain ⟨f11, ef11, hf11, lf11⟩ := (mσ9.2.1 _ hc0).1
    have gf11 : hid _ := kdF_ge hf11
    refine ⟨f11, ef11, hf11, lf11, ?_⟩
    replace H := f_o ef11 H
    have z_22 : (99 : Int32).toInt = 99 := rfl
    have w_23 := Int32.toInt_lt (gi σ9 (c0 + 5) a1.toNatClampNeg)
    have w_24 := Int32.le_toInt (gi σ9 (c0 + 5) a1.toNatClampNeg)
    have w_25 := Int32.toInt_lt (gi σ9 f11 1)
    have w_26 := Int32.le_toInt (gi σ9 f11 1)
    try have t_27 : ((gi σ9 (c0 + 5) a1.toNatClampNeg) + (gi σ9 f11 1)).toInt = (gi σ9 (c0 + 5) a1.toNatClampNeg).toInt + (gi σ9 f11 1).toInt := i_add (x := (gi σ9 (c0 + 5) a1.toNatClampNeg)) (y := (gi σ9 f11 1)) (by show (_ : Int) ≤ (gi σ9 (c0 + 5) a1.toNatClampNeg).toInt + (gi σ9 f11 1).toInt; omega) (by show (gi σ9 (c0 + 5) a1.toNatClampNeg).toInt + (gi σ9 f11 1).toInt ≤ (_ : Int); omega)
    intro v12 ev12
    replace H := f_l ev12 H
    have t_28 := jmin_b (99 : Int32) ((gi σ9 (c0 + 5) a1.toNatClampNeg) + (gi σ9 f11 1))
    have t_29 : v12.toInt = (jmin (99 : Int32) ((gi σ9 (c0 + 5) a1.toNatClampNeg) + (gi σ9 f11 1))).toInt := congrArg Int32.toInt ev12
    refine ⟨hv_15, ?_⟩
    intro σ14 eσ14
    replace H := f_l eσ14 H
    have mσ14 : XI (mV M) σ14 := by rw [eσ14]; exact XIs_n mσ9 (lim_C5 hc0 _)
    have fσ14 : FX (fun id => id = c0 + 4 ∨ id = c0 + 5) (fun _ _ => False) σ0 σ14 := by rw [eσ14]; exact FX_si fσ9 (Or.inl (show c0 + 5 = c0 + 4 ∨ c0 + 5 = c0 + 5 from Or.inr (rfl)))
    have k_30 : (gi σ14 f11 1).toInt = (gi σ9 f11 1).toInt := by rw [eσ14]; exact congrArg Int32.toInt (gi_si_ne (Or.inl (by first | omega | (have uoc0 := un oc0; have ugf11 := un gf11; omega))))
    exact h9ret σ14 mσ14 fσ14 (H0.trans H.symm)
set_option maxRecDepth 100000 in
set_option maxHeartbeats 4000000 in
theorem kF_X1_goesMinute {l : Launch} {V : Vx} {c0 : Nat} {σ0 : Sg} {Qk : Int32 → Sg → Prop} (hc0 : isC c0) (m0 : XI V σ0) (nn_c0 : NN σ0 c0) (pre0 : (gi σ0 c0 9).toInt ≤ 19900) (h9ret : ∀ (r : Int32) (σ' : Sg), XI V σ' → FX (fun id => id = c0 + 14 ∨ id = c0 + 15 ∨ id = c0 + 3 ∨ id = c0 + 4 ∨ id = c0 + 5 ∨ id = c0 + 6) (fun id k => (id = c0 ∧ k = 9)) σ0 σ' → (NN σ' c0) → ((gi σ' c0 9).toInt = (gi σ0 c0 9).toInt + 1) → (F_X1_goesMinute c0 σ0 = (r, σ')) → Qk r σ') : K_X1_goesMinute l V c0 σ0 Qk := by
  refine e_X1_goesMinute (fun M hl hV hN C => ?_)
  subst hl
  subst hV
  obtain ⟨R9, H0⟩ : ∃ R9, F_X1_goesMinute c0 σ0 = R9 := ⟨_, rfl⟩
  have oc0 : hid (c0 = 1 ∨ c0 = 17 ∨ c0 = 33) := hc0
  have T : ∀ n : Nat, (∀ (x1 : Int32) (σ : Sg), XI (mV M) σ → FX (fun id => id = c0 + 14 ∨ id = c0 + 15 ∨ id = c0 + 3 ∨ id = c0 + 4 ∨ id = c0 + 5 ∨ id = c0 + 6) (fun id k => (id = c0 ∧ k = 9)) σ0 σ → NN σ c0 → (0 ≤ x1.toInt) → (x1.toInt ≤ 6) → ((gi σ c0 9).toInt = (gi σ0 c0 9).toInt) → (LF_X1_goesMinute c0 n 0 x1 0 0 0 σ = R9) → (7 - x1.toInt).toNat + 200 < n → PS M 2 [(0, .ref c0), (1, .int x1)] [] σ (0, 0)) ∧ (∀ (x1 : Int32) (x2 : Int32) (σ : Sg), XI (mV M) σ → FX (fun id => id = c0 + 14 ∨ id = c0 + 15 ∨ id = c0 + 3 ∨ id = c0 + 4 ∨ id = c0 + 5 ∨ id = c0 + 6) (fun id k => (id = c0 ∧ k = 9)) σ0 σ → NN σ c0 → (0 ≤ x2.toInt) → (x2.toInt ≤ 6) → ((gi σ c0 9).toInt = (gi σ0 c0 9).toInt) → (LF_X1_goesMinute c0 n 1 x1 x2 0 0 σ = R9) → (7 - x2.toInt).toNat * 10 + 5 < n → PS M 31 [(0, .ref c0), (1, .int x1), (2, .int x2)] [] σ (0, 0)) ∧ (∀ (x1 : Int32) (x2 : Int32) (x3 : Int32) (x4 : Int32) (σ : Sg), XI (mV M) σ → FX (fun id => id = c0 + 14 ∨ id = c0 + 15 ∨ id = c0 + 3 ∨ id = c0 + 4 ∨ id = c0 + 5 ∨ id = c0 + 6) (fun id k => (id = c0 ∧ k = 9)) σ0 σ → NN σ c0 → (0 ≤ x2.toInt) → (x2.toInt ≤ 5) → (0 ≤ x3.toInt) → (x3.toInt ≤ 5) → ((gi σ c0 9).toInt = (gi σ0 c0 9).toInt) → (LF_X1_goesMinute c0 n 2 x1 x2 x3 x4 σ = R9) → (7 - x2.toInt).toNat * 10 < n → PS M 95 [(0, .ref c0), (1, .int x1), (2, .int x2), (3, .int x3), (4, .int x4)] [] σ (0, 0)) := by
    intro n
    induction n with
    | zero => exact ⟨fun _ _ _ _ _ _ _ _ _ h8 => absurd h8 (Nat.not_lt_zero _), fun _ _ _ _ _ _ _ _ _ _ h8 => absurd h8 (Nat.not_lt_zero _), fun _ _ _ _ _ _ _ _ _ _ _ _ _ _ h8 => absurd h8 (Nat.not_lt_zero _)⟩
    | succ n ih =>
      obtain ⟨ih2, ih31, ih95⟩ := ih
      refine ⟨?_, ?_, ?_⟩
      · intro x1 σ mσ fσ nσ_c0 lx1 ux1 i0 H hmu
        replace H : LB_X1_goesMinute_2 c0 (LF_X1_goesMinute c0 n) x1 σ = R9 := H
        unfold LB_X1_goesMinute_2 at H
        have k_1 : (gi σ c0 3).toInt = (gi σ0 c0 3).toInt := congrArg Int32.toInt (FX_i fσ (show ¬ (c0 = c0 + 14 ∨ c0 = c0 + 15 ∨ c0 = c0 + 3 ∨ c0 = c0 + 4 ∨ c0 = c0 + 5 ∨ c0 = c0 + 6) from by first | omega | (have uoc0 := un oc0; omega)) (show ¬ ((c0 = c0 ∧ 3 = 9)) from by first | omega | (have uoc0 := un oc0; omega)))
        have t_2 := XI_c1 mσ (id := c0) (k := 3) (lim_C0_3 hc0)
        have t_3 := XI_c1 mσ (id := c0) (k := 9) (lim_C0_9 hc0)
        refine s_X1_goesMinute_2 C hN hc0 ?_
        refine ⟨?_, ?_⟩
        · intro q_4
          replace H := f_t q_4 H
          have b_5 : (gi σ c0 3).toInt ≤ x1.toInt := Int32.le_iff_toInt_le.mp q_4
          have z_6 : (0 : Int32).toInt = 0 := rfl
          exact ih31 (0 : Int32) (0 : Int32) σ mσ fσ nσ_c0 (by omega) (by omega) (by first | with_reducible assumption | with_reducible rfl | omega | assumption | rfl) H (by omega)
        · intro q_4
          replace H := f_f q_4 H
          have b_7 : ¬ (gi σ c0 3).toInt ≤ x1.toInt := fun h9 => q_4 (Int32.le_iff_toInt_le.mpr h9)
          refine kF_X1_strideAt hc0 mσ nσ_c0 (by omega) (by omega) (by first | with_reducible assumption | with_reducible rfl | omega | assumption | rfl) (fun r3 σ2 mσ2 cσ2 nσ2_c0 hσ2 => ?_)
          replace H := f_b hσ2 H
          have fσ2 : FX (fun id => id = c0 + 14 ∨ id = c0 + 15 ∨ id = c0 + 3 ∨ id = c0 + 4 ∨ id = c0 + 5 ∨ id = c0 + 6) (fun id k => (id = c0 ∧ k = 9)) σ0 σ2 := FX_tr fσ cσ2 (fun x (h9 : x = c0 + 15) => (show x = c0 + 14 ∨ x = c0 + 15 ∨ x = c0 + 3 ∨ x = c0 + 4 ∨ x = c0 + 5 ∨ x = c0 + 6 from Or.inr (Or.inl (h9)))) (fun _ _ h9 => h9.elim)
          have k_8 : (gi σ2 c0 3).toInt = (gi σ c0 3).toInt := congrArg Int32.toInt (FX_i cσ2 (show ¬ (c0 = c0 + 15) from by first | omega | (have uoc0 := un oc0; omega)) id)
          have k_9 : (gi σ2 c0 9).toInt = (gi σ c0 9).toInt := congrArg Int32.toInt (FX_i cσ2 (show ¬ (c0 = c0 + 15) from by first | omega | (have uoc0 := un oc0; omega)) id)
          have hv_10 : vp_in x1 6 := vp_in_iff.mpr ⟨by omega, by omega⟩
          refine ⟨hv_10, ?_⟩
          intro σ5 eσ5
          replace H := f_l eσ5 H
          have mσ5 : XI (mV M) σ5 := by rw [eσ5]; exact XIs_n mσ2 (lim_C14 hc0 _)
          have fσ5 : FX (fun id => id = c0 + 14 ∨ id = c0 + 15 ∨ id = c0 + 3 ∨ id = c0 + 4 ∨ id = c0 + 5 ∨ id = c0 + 6) (fun id k => (id = c0 ∧ k = 9)) σ0 σ5 := by rw [eσ5]; exact FX_si fσ2 (Or.inl (show c0 + 14 = c0 + 14 ∨ c0 + 14 = c0 + 15 ∨ c0 + 14 = c0 + 3 ∨ c0 + 14 = c0 + 4 ∨ c0 + 14 = c0 + 5 ∨ c0 + 14 = c0 + 6 from Or.inl (rfl)))
          have k_11 : (gi σ5 c0 3).toInt = (gi σ2 c0 3).toInt := by rw [eσ5]; exact congrArg Int32.toInt (gi_si_ne (Or.inl (by first | omega | (have uoc0 := un oc0; omega))))
          have k_12 : (gi σ5 c0 9).toInt = (gi σ2 c0 9).toInt := by rw [eσ5]; exact congrArg Int32.toInt (gi_si_ne (Or.inl (by first | omega | (have uoc0 := un oc0; omega))))
          have nσ5_c0 : NN σ5 c0 := by rw [eσ5]; exact NN_si nσ2_c0 (by first | omega | (have uoc0 := un oc0; omega)) (fun h9 => absurd h9 (by first | omega | (have uoc0 := un oc0; omega)))
          intro v6 ev6
          replace H := f_l ev6 H
          have t_13 : (x1 + (1 : Int32)).toInt = x1.toInt + 1 := i_add (x := x1) (y := (1 : Int32)) (by show (_ : Int) ≤ x1.toInt + 1; omega) (by show x1.toInt + 1 ≤ (_ : Int); omega)
          have t_14 : v6.toInt = (x1 + (1 : Int32)).toInt := congrArg Int32.toInt ev6
          exact ih2 v6 σ5 mσ5 fσ5 nσ5_c0 (by omega) (by omega) (by first | with_reducible assumption | with_reducible rfl | omega | assumption | rfl) H (by omega)
      · intro x1 x2 σ mσ fσ nσ_c0 lx2 ux2 i0 H hmu
        replace H : LB_X1_goesMinute_31 c0 (LF_X1_goesMinute c0 n) x1 x2 σ = R9 := H
        unfold LB_X1_goesMinute_31 at H
        have k_15 : (gi σ c0 3).toInt = (gi σ0 c0 3).toInt := congrArg Int32.toInt (FX_i fσ (show ¬ (c0 = c0 + 14 ∨ c0 = c0 + 15 ∨ c0 = c0 + 3 ∨ c0 = c0 + 4 ∨ c0 = c0 + 5 ∨ c0 = c0 + 6) from by first | omega | (have uoc0 := un oc0; omega)) (show ¬ ((c0 = c0 ∧ 3 = 9)) from by first | omega | (have uoc0 := un oc0; omega)))
        have t_16 := XI_c1 mσ (id := c0) (k := 3) (lim_C0_3 hc0)
        have t_17 := XI_c1 mσ (id := c0) (k := 9) (lim_C0_9 hc0)
        refine s_X1_goesMinute_31 C hN hc0 ?_
        refine ⟨?_, ?_⟩
        · intro q_18
          replace H := f_t q_18 H
          have b_19 : (gi σ c0 3).toInt ≤ x2.toInt := Int32.le_iff_toInt_le.mp q_18
          intro σ2 eσ2
          replace H := f_l eσ2 H
          have t_20 : ((gi σ c0 9) + (1 : Int32)).toInt = (gi σ c0 9).toInt + 1 := i_add (x := (gi σ c0 9)) (y := (1 : Int32)) (by show (_ : Int) ≤ (gi σ c0 9).toInt + 1; omega) (by show (gi σ c0 9).toInt + 1 ≤ (_ : Int); omega)
          have mσ2 : XI (mV M) σ2 := by rw [eσ2]; exact XIs_b mσ (lim_C0_9 hc0) (by omega) (by omega)
          have fσ2 : FX (fun id => id = c0 + 14 ∨ id = c0 + 15 ∨ id = c0 + 3 ∨ id = c0 + 4 ∨ id = c0 + 5 ∨ id = c0 + 6) (fun id k => (id = c0 ∧ k = 9)) σ0 σ2 := by rw [eσ2]; exact FX_si fσ (Or.inr (show (c0 = c0 ∧ 9 = 9) from ⟨rfl, rfl⟩))
          have k_21 : (gi σ2 c0 3).toInt = (gi σ c0 3).toInt := gk_r eσ2 rfl
          have k_22 : (gi σ2 c0 9).toInt = ((gi σ c0 9) + (1 : Int32)).toInt := by rw [eσ2]; exact congrArg Int32.toInt gi_si_eq
          have nσ2_c0 : NN σ2 c0 := by rw [eσ2]; exact NN_si nσ_c0 (by first | omega | (have uoc0 := un oc0; omega)) (fun _ => by decide +kernel)
          have w_23 := Int32.toInt_lt x1
          have w_24 := Int32.le_toInt x1
          exact h9ret x1 σ2 mσ2 fσ2 nσ2_c0 (by first | with_reducible assumption | with_reducible rfl | omega | assumption | rfl) (H0.trans H.symm)
        · intro q_18
          replace H := f_f q_18 H
          have b_25 : ¬ (gi σ c0 3).toInt ≤ x2.toInt := fun h9 => q_18 (Int32.le_iff_toInt_le.mpr h9)
          have hv_26 : vp_in x2 6 := vp_in_iff.mpr ⟨by omega, by omega⟩
          refine ⟨hv_26, ?_⟩
          intro v4 ev4
          replace H := f_l ev4 H
          have t_27 := XI_c1 mσ (id := (c0 + 2)) (k := x2.toNatClampNeg) (lim_C2 hc0 _)
          have t_28 : v4.toInt = (gi σ (c0 + 2) x2.toNatClampNeg).toInt := congrArg Int32.toInt ev4
          have hv_29 : vp_in v4 6 := vp_in_iff.mpr ⟨by omega, by omega⟩
          refine ⟨hv_29, ?_⟩
          refine ⟨?_, ?_⟩
          · intro q_30
            replace H := f_t q_30 H
            have w_31 := Int32.toInt_lt (gi σ (c0 + 6) v4.toNatClampNeg)
            have w_32 := Int32.le_toInt (gi σ (c0 + 6) v4.toNatClampNeg)
            have b_33 : (gi σ (c0 + 6) v4.toNatClampNeg).toInt ≤ 0 := Int32.le_iff_toInt_le.mp q_30
            refine kF_X1_roomAt hc0 mσ  (by omega) (by omega) (fun r8 σ7 mσ7 cσ7 hσ7 => ?_)
            obtain rfl := FX_nil cσ7
            replace H := f_b hσ7 H
            refine ⟨hv_26, ?_⟩
            refine ⟨?_, ?_⟩
            · intro q_34
              replace H := f_t q_34 H
              have w_35 := Int32.toInt_lt (gi σ (c0 + 14) x2.toNatClampNeg)
              have w_36 := Int32.le_toInt (gi σ (c0 + 14) x2.toNatClampNeg)
              have w_37 := Int32.toInt_lt r8
              have w_38 := Int32.le_toInt r8
              have b_39 : (gi σ (c0 + 14) x2.toNatClampNeg).toInt ≤ r8.toInt := Int32.le_iff_toInt_le.mp q_34
              have w_40 := Int32.toInt_lt x1
              have w_41 := Int32.le_toInt x1
              exact ih95 x1 x2 v4 r8 σ mσ fσ nσ_c0 (by omega) (by omega) (by omega) (by omega) (by first | with_reducible assumption | with_reducible rfl | omega | assumption | rfl) H (by omega)
            · intro q_34
              replace H := f_f q_34 H
              have w_42 := Int32.toInt_lt (gi σ (c0 + 14) x2.toNatClampNeg)
              have w_43 := Int32.le_toInt (gi σ (c0 + 14) x2.toNatClampNeg)
              have w_44 := Int32.toInt_lt r8
              have w_45 := Int32.le_toInt r8
              have b_46 : ¬ (gi σ (c0 + 14) x2.toNatClampNeg).toInt ≤ r8.toInt := fun h9 => q_34 (Int32.le_iff_toInt_le.mpr h9)
              intro v11 ev11
              replace H := f_l ev11 H
              have w_47 := Int32.toInt_lt v11
              have w_48 := Int32.le_toInt v11
              exact ih95 v11 x2 v4 r8 σ mσ fσ nσ_c0 (by omega) (by omega) (by omega) (by omega) (by first | with_reducible assumption | with_reducible rfl | omega | assumption | rfl) H (by omega)
          · intro q_30
            replace H := f_f q_30 H
            have w_49 := Int32.toInt_lt (gi σ (c0 + 6) v4.toNatClampNeg)
            have w_50 := Int32.le_toInt (gi σ (c0 + 6) v4.toNatClampNeg)
            have b_51 : ¬ (gi σ (c0 + 6) v4.toNatClampNeg).toInt ≤ 0 := fun h9 => q_30 (Int32.le_iff_toInt_le.mpr h9)
            refine ⟨hv_29, ?_⟩
            refine ⟨hv_29, ?_⟩
            intro σ14 eσ14
            replace H := f_l eσ14 H
            have mσ14 : XI (mV M) σ14 := by rw [eσ14]; exact XIs_n mσ (lim_C6 hc0 _)
            have fσ14 : FX (fun id => id = c0 + 14 ∨ id = c0 + 15 ∨ id = c0 + 3 ∨ id = c0 + 4 ∨ id = c0 + 5 ∨ id = c0 + 6) (fun id k => (id = c0 ∧ k = 9)) σ0 σ14 := by rw [eσ14]; exact FX_si fσ (Or.inl (show c0 + 6 = c0 + 14 ∨ c0 + 6 = c0 + 15 ∨ c0 + 6 = c0 + 3 ∨ c0 + 6 = c0 + 4 ∨ c0 + 6 = c0 + 5 ∨ c0 + 6 = c0 + 6 from Or.inr (Or.inr (Or.inr (Or.inr (Or.inr (rfl)))))))
            have k_52 : (gi σ14 c0 3).toInt = (gi σ c0 3).toInt := by rw [eσ14]; exact congrArg Int32.toInt (gi_si_ne (Or.inl (by first | omega | (have uoc0 := un oc0; omega))))
            have k_53 : (gi σ14 c0 9).toInt = (gi σ c0 9).toInt := by rw [eσ14]; exact congrArg Int32.toInt (gi_si_ne (Or.inl (by first | omega | (have uoc0 := un oc0; omega))))
            have nσ14_c0 : NN σ14 c0 := by rw [eσ14]; exact NN_si nσ_c0 (by first | omega | (have uoc0 := un oc0; omega)) (fun h9 => absurd h9 (by first | omega | (have uoc0 := un oc0; omega)))
            have w_54 := Int32.toInt_lt x1
            have w_55 := Int32.le_toInt x1
            have z_56 : (0 : Int32).toInt = 0 := rfl
            exact ih95 x1 x2 v4 (0 : Int32) σ14 mσ14 fσ14 nσ14_c0 (by omega) (by omega) (by omega) (by omega) (by first | with_reducible assumption | with_reducible rfl | omega | assumption | rfl) H (by omega)
      · intro x1 x2 x3 x4 σ mσ fσ nσ_c0 lx2 ux2 lx3 ux3 i0 H hmu
        replace H : LB_X1_goesMinute_95 c0 (LF_X1_goesMinute c0 n) x1 x2 x3 x4 σ = R9 := H
        unfold LB_X1_goesMinute_95 at H
        have k_57 : (gi σ c0 3).toInt = (gi σ0 c0 3).toInt := congrArg Int32.toInt (FX_i fσ (show ¬ (c0 = c0 + 14 ∨ c0 = c0 + 15 ∨ c0 = c0 + 3 ∨ c0 = c0 + 4 ∨ c0 = c0 + 5 ∨ c0 = c0 + 6) from by first | omega | (have uoc0 := un oc0; omega)) (show ¬ ((c0 = c0 ∧ 3 = 9)) from by first | omega | (have uoc0 := un oc0; omega)))
        have t_58 := XI_c1 mσ (id := c0) (k := 3) (lim_C0_3 hc0)
        have t_59 := XI_c1 mσ (id := c0) (k := 9) (lim_C0_9 hc0)
        refine s_X1_goesMinute_95 C hN hc0 ?_
        have hv_60 : vp_in x3 6 := vp_in_iff.mpr ⟨by omega, by omega⟩
        refine ⟨hv_60, ?_⟩
        refine ⟨hv_60, ?_⟩
        intro σ3 eσ3
        replace H := f_l eσ3 H
        have mσ3 : XI (mV M) σ3 := by rw [eσ3]; exact XIs_n mσ (lim_C3 hc0 _)
        have fσ3 : FX (fun id => id = c0 + 14 ∨ id = c0 + 15 ∨ id = c0 + 3 ∨ id = c0 + 4 ∨ id = c0 + 5 ∨ id = c0 + 6) (fun id k => (id = c0 ∧ k = 9)) σ0 σ3 := by rw [eσ3]; exact FX_si fσ (Or.inl (show c0 + 3 = c0 + 14 ∨ c0 + 3 = c0 + 15 ∨ c0 + 3 = c0 + 3 ∨ c0 + 3 = c0 + 4 ∨ c0 + 3 = c0 + 5 ∨ c0 + 3 = c0 + 6 from Or.inr (Or.inr (Or.inl (rfl)))))
        have k_61 : (gi σ3 c0 3).toInt = (gi σ c0 3).toInt := by rw [eσ3]; exact congrArg Int32.toInt (gi_si_ne (Or.inl (by first | omega | (have uoc0 := un oc0; omega))))
        have k_62 : (gi σ3 c0 9).toInt = (gi σ c0 9).toInt := by rw [eσ3]; exact congrArg Int32.toInt (gi_si_ne (Or.inl (by first | omega | (have uoc0 := un oc0; omega))))
        have nσ3_c0 : NN σ3 c0 := by rw [eσ3]; exact NN_si nσ_c0 (by first | omega | (have uoc0 := un oc0; omega)) (fun h9 => absurd h9 (by first | omega | (have uoc0 := un oc0; omega)))
        refine ⟨?_, ?_⟩
        · intro q_63
          replace H := f_t q_63 H
          have w_64 := Int32.toInt_lt x4
          have w_65 := Int32.le_toInt x4
          have b_66 : x4.toInt ≤ 0 := Int32.le_iff_toInt_le.mp q_63
          have z_67 : (0 : Int32).toInt = 0 := rfl
          refine kF_X1_wears hc0 mσ3  (by omega) (by omega) (fun σ5 mσ5 cσ5 hσ5 => ?_)
          replace H := f_v hσ5 H
          have fσ5 : FX (fun id => id = c0 + 14 ∨ id = c0 + 15 ∨ id = c0 + 3 ∨ id = c0 + 4 ∨ id = c0 + 5 ∨ id = c0 + 6) (fun id k => (id = c0 ∧ k = 9)) σ0 σ5 := FX_tr fσ3 cσ5 (fun x (h9 : x = c0 + 4 ∨ x = c0 + 5) => h9.elim (fun e9 => (show x = c0 + 14 ∨ x = c0 + 15 ∨ x = c0 + 3 ∨ x = c0 + 4 ∨ x = c0 + 5 ∨ x = c0 + 6 from Or.inr (Or.inr (Or.inr (Or.inl (e9)))))) (fun h9 => (show x = c0 + 14 ∨ x = c0 + 15 ∨ x = c0 + 3 ∨ x = c0 + 4 ∨ x = c0 + 5 ∨ x = c0 + 6 from Or.inr (Or.inr (Or.inr (Or.inr (Or.inl (h9)))))))) (fun _ _ h9 => h9.elim)
          have k_68 : (gi σ5 c0 3).toInt = (gi σ3 c0 3).toInt := congrArg Int32.toInt (FX_i cσ5 (show ¬ (c0 = c0 + 4 ∨ c0 = c0 + 5) from by first | omega | (have uoc0 := un oc0; omega)) id)
          have k_69 : (gi σ5 c0 9).toInt = (gi σ3 c0 9).toInt := congrArg Int32.toInt (FX_i cσ5 (show ¬ (c0 = c0 + 4 ∨ c0 = c0 + 5) from by first | omega | (have uoc0 := un oc0; omega)) id)
          have nσ5_c0 : NN σ5 c0 := NN_fx nσ3_c0 cσ5 (show ¬ (c0 = c0 + 4 ∨ c0 = c0 + 5) from by first | omega | (have uoc0 := un oc0; omega)) (show ¬ (c0 + 1 = c0 + 4 ∨ c0 + 1 = c0 + 5) from by first | omega | (have uoc0 := un oc0; omega)) (show ¬ (c0 + 2 = c0 + 4 ∨ c0 + 2 = c0 + 5) from by first | omega | (have uoc0 := un oc0; omega)) id id (fun _ => id) (fun _ => id)
          intro v6 ev6
          replace H := f_l ev6 H
          have t_70 : (x2 + (1 : Int32)).toInt = x2.toInt + 1 := i_add (x := x2) (y := (1 : Int32)) (by show (_ : Int) ≤ x2.toInt + 1; omega) (by show x2.toInt + 1 ≤ (_ : Int); omega)
          have t_71 : v6.toInt = (x2 + (1 : Int32)).toInt := congrArg Int32.toInt ev6
          have w_72 := Int32.toInt_lt x1
          have w_73 := Int32.le_toInt x1
          exact ih31 x1 v6 σ5 mσ5 fσ5 nσ5_c0 (by omega) (by omega) (by first | with_reducible assumption | with_reducible rfl | omega | assumption | rfl) H (by omega)
        · intro q_63
          replace H := f_f q_63 H
          have w_74 := Int32.toInt_lt x4
          have w_75 := Int32.le_toInt x4
          have b_76 : ¬ x4.toInt ≤ 0 := fun h9 => q_63 (Int32.le_iff_toInt_le.mpr h9)
          have z_77 : (1 : Int32).toInt = 1 := rfl
          refine kF_X1_wears hc0 mσ3  (by omega) (by omega) (fun σ7 mσ7 cσ7 hσ7 => ?_)
          replace H := f_v hσ7 H
          have fσ7 : FX (fun id => id = c0 + 14 ∨ id = c0 + 15 ∨ id = c0 + 3 ∨ id = c0 + 4 ∨ id = c0 + 5 ∨ id = c0 + 6) (fun id k => (id = c0 ∧ k = 9)) σ0 σ7 := FX_tr fσ3 cσ7 (fun x (h9 : x = c0 + 4 ∨ x = c0 + 5) => h9.elim (fun e9 => (show x = c0 + 14 ∨ x = c0 + 15 ∨ x = c0 + 3 ∨ x = c0 + 4 ∨ x = c0 + 5 ∨ x = c0 + 6 from Or.inr (Or.inr (Or.inr (Or.inl (e9)))))) (fun h9 => (show x = c0 + 14 ∨ x = c0 + 15 ∨ x = c0 + 3 ∨ x = c0 + 4 ∨ x = c0 + 5 ∨ x = c0 + 6 from Or.inr (Or.inr (Or.inr (Or.inr (Or.inl (h9)))))))) (fun _ _ h9 => h9.elim)
          have k_78 : (gi σ7 c0 3).toInt = (gi σ3 c0 3).toInt := congrArg Int32.toInt (FX_i cσ7 (show ¬ (c0 = c0 + 4 ∨ c0 = c0 + 5) from by first | omega | (have uoc0 := un oc0; omega)) id)
          have k_79 : (gi σ7 c0 9).toInt = (gi σ3 c0 9).toInt := congrArg Int32.toInt (FX_i cσ7 (show ¬ (c0 = c0 + 4 ∨ c0 = c0 + 5) from by first | omega | (have uoc0 := un oc0; omega)) id)
          have nσ7_c0 : NN σ7 c0 := NN_fx nσ3_c0 cσ7 (show ¬ (c0 = c0 + 4 ∨ c0 = c0 + 5) from by first | omega | (have uoc0 := un oc0; omega)) (show ¬ (c0 + 1 = c0 + 4 ∨ c0 + 1 = c0 + 5) from by first | omega | (have uoc0 := un oc0; omega)) (show ¬ (c0 + 2 = c0 + 4 ∨ c0 + 2 = c0 + 5) from by first | omega | (have uoc0 := un oc0; omega)) id id (fun _ => id) (fun _ => id)
          intro v8 ev8
          replace H := f_l ev8 H
          have t_80 : (x2 + (1 : Int32)).toInt = x2.toInt + 1 := i_add (x := x2) (y := (1 : Int32)) (by show (_ : Int) ≤ x2.toInt + 1; omega) (by show x2.toInt + 1 ≤ (_ : Int); omega)
          have t_81 : v8.toInt = (x2 + (1 : Int32)).toInt := congrArg Int32.toInt ev8
          have w_82 := Int32.toInt_lt x1
          have w_83 := Int32.le_toInt x1
          exact ih31 x1 v8 σ7 mσ7 fσ7 nσ7_c0 (by omega) (by omega) (by first | with_reducible assumption | with_reducible rfl | omega | assumption | rfl) H (by omega)
  obtain ⟨U2, U31, U95⟩ := T 900
  have f0 : FX (fun id => id = c0 + 14 ∨ id = c0 + 15 ∨ id = c0 + 3 ∨ id = c0 + 4 ∨ id = c0 + 5 ∨ id = c0 + 6) (fun id k => (id = c0 ∧ k = 9)) σ0 σ0 := FX_rf
  have t_84 := XI_c1 m0 (id := c0) (k := 3) (lim_C0_3 hc0)
  have t_85 := XI_c1 m0 (id := c0) (k := 9) (lim_C0_9 hc0)
  have H := H0
  unfold F_X1_goesMinute at H
  refine s_X1_goesMinute_0 C hN hc0 ?_
  have z_86 : (0 : Int32).toInt = 0 := rfl
  exact U2 (0 : Int32) σ0 m0 f0 nn_c0 (by omega) (by omega) (by first | with_reducible assumption | with_reducible rfl | omega | assumption | rfl) H (by omega)
set_option maxRecDepth 100000 in
set_option maxHeartbeats 4000000 in
theorem kF_X1_goes {l : Launch} {V : Vx} {c0 : Nat} {a1 : Int32} {σ0 : Sg} {Qk : Sg → Prop} (hc0 : isC c0) (m0 : XI V σ0) (nn_c0 : NN σ0 c0) (l_a1 : 0 ≤ a1.toInt) (u_a1 : a1.toInt ≤ 60) (pre0 : (gi σ0 c0 9).toInt ≤ 18000) (h9ret : ∀ (σ' : Sg), XI V σ' → FX (fun id => id = c0 + 14 ∨ id = c0 + 15 ∨ id = c0 + 3 ∨ id = c0 + 4 ∨ id = c0 + 5 ∨ id = c0 + 6) (fun id k => (id = c0 ∧ k = 9)) σ0 σ' → (NN σ' c0) → ((gi σ' c0 9).toInt = (gi σ0 c0 9).toInt + a1.toInt) → (F_X1_goes c0 a1 σ0 = σ') → Qk σ') : K_X1_goes l V c0 a1 σ0 Qk := by
  refine e_X1_goes (fun M hl hV hN C => ?_)
  subst hl
  subst hV
  obtain ⟨R9, H0⟩ : ∃ R9, F_X1_goes c0 a1 σ0 = R9 := ⟨_, rfl⟩
  have oc0 : hid (c0 = 1 ∨ c0 = 17 ∨ c0 = 33) := hc0
  have T : ∀ n : Nat, (∀ (x1 : Int32) (x2 : Int32) (σ : Sg), XI (mV M) σ → FX (fun id => id = c0 + 14 ∨ id = c0 + 15 ∨ id = c0 + 3 ∨ id = c0 + 4 ∨ id = c0 + 5 ∨ id = c0 + 6) (fun id k => (id = c0 ∧ k = 9)) σ0 σ → NN σ c0 → (0 ≤ x1.toInt) → (x1.toInt ≤ 60) → (0 ≤ x2.toInt) → (x2.toInt ≤ 60) → ((gi σ c0 9).toInt = (gi σ0 c0 9).toInt + x2.toInt) → (x1.toInt = a1.toInt) → (x2.toInt ≤ x1.toInt) → (LF_X1_goes c0 n x1 x2 σ = R9) → (61 - x2.toInt).toNat < n → PS M 2 [(0, .ref c0), (1, .int x1), (2, .int x2)] [] σ (0, 0)) := by
    intro n
    induction n with
    | zero => exact fun _ _ _ _ _ _ _ _ _ _ _ _ _ _ h8 => absurd h8 (Nat.not_lt_zero _)
    | succ n ih =>
      have ih2 := ih
      · intro x1 x2 σ mσ fσ nσ_c0 lx1 ux1 lx2 ux2 i0 i1 i2 H hmu
        replace H : LB_X1_goes_2 c0 (LF_X1_goes c0 n) x1 x2 σ = R9 := H
        unfold LB_X1_goes_2 at H
        have t_1 := XI_c1 mσ (id := c0) (k := 9) (lim_C0_9 hc0)
        refine s_X1_goes_2 C hN hc0 ?_
        refine ⟨?_, ?_⟩
        · intro q_2
          replace H := f_t q_2 H
          have b_3 : x1.toInt ≤ x2.toInt := Int32.le_iff_toInt_le.mp q_2
          exact h9ret σ mσ fσ nσ_c0 (by first | with_reducible assumption | with_reducible rfl | omega | assumption | rfl) (H0.trans H.symm)
        · intro q_2
          replace H := f_f q_2 H
          have b_4 : ¬ x1.toInt ≤ x2.toInt := fun h9 => q_2 (Int32.le_iff_toInt_le.mpr h9)
          refine kF_X1_goesMinute hc0 mσ nσ_c0 (by first | with_reducible assumption | with_reducible rfl | omega | assumption | rfl) (fun r3 σ2 mσ2 cσ2 nσ2_c0 (pσ2_0 : (gi σ2 c0 9).toInt = (gi σ c0 9).toInt + 1) hσ2 => ?_)
          replace H := f_b hσ2 H
          have fσ2 : FX (fun id => id = c0 + 14 ∨ id = c0 + 15 ∨ id = c0 + 3 ∨ id = c0 + 4 ∨ id = c0 + 5 ∨ id = c0 + 6) (fun id k => (id = c0 ∧ k = 9)) σ0 σ2 := FX_tr fσ cσ2 (fun x (h9 : x = c0 + 14 ∨ x = c0 + 15 ∨ x = c0 + 3 ∨ x = c0 + 4 ∨ x = c0 + 5 ∨ x = c0 + 6) => h9.elim (fun e9 => (show x = c0 + 14 ∨ x = c0 + 15 ∨ x = c0 + 3 ∨ x = c0 + 4 ∨ x = c0 + 5 ∨ x = c0 + 6 from Or.inl (e9))) (fun h9 => h9.elim (fun e9 => (show x = c0 + 14 ∨ x = c0 + 15 ∨ x = c0 + 3 ∨ x = c0 + 4 ∨ x = c0 + 5 ∨ x = c0 + 6 from Or.inr (Or.inl (e9)))) (fun h9 => h9.elim (fun e9 => (show x = c0 + 14 ∨ x = c0 + 15 ∨ x = c0 + 3 ∨ x = c0 + 4 ∨ x = c0 + 5 ∨ x = c0 + 6 from Or.inr (Or.inr (Or.inl (e9))))) (fun h9 => h9.elim (fun e9 => (show x = c0 + 14 ∨ x = c0 + 15 ∨ x = c0 + 3 ∨ x = c0 + 4 ∨ x = c0 + 5 ∨ x = c0 + 6 from Or.inr (Or.inr (Or.inr (Or.inl (e9)))))) (fun h9 => h9.elim (fun e9 => (show x = c0 + 14 ∨ x = c0 + 15 ∨ x = c0 + 3 ∨ x = c0 + 4 ∨ x = c0 + 5 ∨ x = c0 + 6 from Or.inr (Or.inr (Or.inr (Or.inr (Or.inl (e9))))))) (fun h9 => (show x = c0 + 14 ∨ x = c0 + 15 ∨ x = c0 + 3 ∨ x = c0 + 4 ∨ x = c0 + 5 ∨ x = c0 + 6 from Or.inr (Or.inr (Or.inr (Or.inr (Or.inr (h9)))))))))))) (fun x k (h9 : (x = c0 ∧ k = 9)) => (show (x = c0 + 14 ∨ x = c0 + 15 ∨ x = c0 + 3 ∨ x = c0 + 4 ∨ x = c0 + 5 ∨ x = c0 + 6) ∨ ((x = c0 ∧ k = 9)) from Or.inr (show (x = c0 ∧ k = 9) from h9)))
          have t_5 := XI_c1 mσ2 (id := c0) (k := 9) (lim_C0_9 hc0)
          intro v4 ev4
          replace H := f_l ev4 H
          have t_6 : (x2 + (1 : Int32)).toInt = x2.toInt + 1 := i_add (x := x2) (y := (1 : Int32)) (by show (_ : Int) ≤ x2.toInt + 1; omega) (by show x2.toInt + 1 ≤ (_ : Int); omega)
          have t_7 : v4.toInt = (x2 + (1 : Int32)).toInt := congrArg Int32.toInt ev4
          exact ih2 x1 v4 σ2 mσ2 fσ2 nσ2_c0 (by omega) (by omega) (by omega) (by omega) (by first | with_reducible assumption | with_reducible rfl | omega | assumption | rfl) (by first | with_reducible assumption | with_reducible rfl | omega | assumption | rfl) (by first | with_reducible assumption | with_reducible rfl | omega | assumption | rfl) H (by omega)
  have U2 := T 90
  have f0 : FX (fun id => id = c0 + 14 ∨ id = c0 + 15 ∨ id = c0 + 3 ∨ id = c0 + 4 ∨ id = c0 + 5 ∨ id = c0 + 6) (fun id k => (id = c0 ∧ k = 9)) σ0 σ0 := FX_rf
  have t_8 := XI_c1 m0 (id := c0) (k := 9) (lim_C0_9 hc0)
  have H := H0
  unfold F_X1_goes at H
  refine s_X1_goes_0 C hN hc0 ?_
  have z_9 : (0 : Int32).toInt = 0 := rfl
  exact U2 a1 (0 : Int32) σ0 m0 f0 nn_c0 (by omega) (by omega) (by omega) (by omega) (by first | with_reducible assumption | with_reducible rfl | omega | assumption | rfl) (by first | with_reducible assumption | with_reducible rfl | omega | assumption | rfl) (by first | with_reducible assumption | with_reducible rfl | omega | assumption | rfl) H (by omega)
set_option maxRecDepth 100000 in
set_option maxHeartbeats 4000000 in
theorem kF_X1_passes {l : Launch} {V : Vx} {c0 : Nat} {a1 : Int32} {a2 : Int32} {σ0 : Sg} {Qk : Sg → Prop} (hc0 : isC c0) (m0 : XI V σ0) (nn_c0 : NN σ0 c0) (l_a1 : 1 ≤ a1.toInt) (u_a1 : a1.toInt ≤ 60) (pre0 : (gi σ0 c0 9).toInt ≤ 18000) (h9ret : ∀ (σ' : Sg), XI V σ' → FX (fun id => id = c0 + 5 ∨ id = c0 + 6) (fun id k => (id = c0 ∧ k = 9)) σ0 σ' → (NN σ' c0) → ((gi σ' c0 9).toInt = (gi σ0 c0 9).toInt + a1.toInt) → (F_X1_passes c0 a1 a2 σ0 = σ') → Qk σ') : K_X1_passes l V c0 a1 a2 σ0 Qk := by
  refine e_X1_passes (fun M hl hV hN C => ?_)
  subst hl
  subst hV
  obtain ⟨R9, H0⟩ : ∃ R9, F_X1_passes c0 a1 a2 σ0 = R9 := ⟨_, rfl⟩
  have oc0 : hid (c0 = 1 ∨ c0 = 17 ∨ c0 = 33) := hc0
  have T : ∀ n : Nat, (∀ (x1 : Int32) (x2 : Int32) (x3 : Int32) (σ : Sg), XI (mV M) σ → FX (fun id => id = c0 + 5 ∨ id = c0 + 6) (fun id k => (id = c0 ∧ k = 9)) σ0 σ → NN σ c0 → (1 ≤ x1.toInt) → (x1.toInt ≤ 60) → (0 ≤ x3.toInt) → (x3.toInt ≤ 6) → ((gi σ c0 9).toInt = (gi σ0 c0 9).toInt) → (x1.toInt = a1.toInt) → (LF_X1_passes c0 n x1 x2 x3 σ = R9) → (7 - x3.toInt).toNat < n → PS M 2 [(0, .ref c0), (1, .int x1), (2, .int x2), (3, .int x3)] [] σ (0, 0)) := by
    intro n
    induction n with
    | zero => exact fun _ _ _ _ _ _ _ _ _ _ _ _ _ _ h8 => absurd h8 (Nat.not_lt_zero _)
    | succ n ih =>
      have ih2 := ih
      · intro x1 x2 x3 σ mσ fσ nσ_c0 lx1 ux1 lx3 ux3 i0 i1 H hmu
        replace H : LB_X1_passes_2 c0 (LF_X1_passes c0 n) x1 x2 x3 σ = R9 := H
        unfold LB_X1_passes_2 at H
        have k_1 : (gi σ c0 1).toInt = (gi σ0 c0 1).toInt := congrArg Int32.toInt (FX_i fσ (show ¬ (c0 = c0 + 5 ∨ c0 = c0 + 6) from by first | omega | (have uoc0 := un oc0; omega)) (show ¬ ((c0 = c0 ∧ 1 = 9)) from by first | omega | (have uoc0 := un oc0; omega)))
        have t_2 := XI_c1 mσ (id := c0) (k := 1) (lim_C0_1 hc0)
        have t_3 := XI_c1 mσ (id := c0) (k := 9) (lim_C0_9 hc0)
        refine s_X1_passes_2 C hN hc0 ?_
        refine ⟨?_, ?_⟩
        · intro q_4
          replace H := f_t q_4 H
          have b_5 : (gi σ c0 1).toInt ≤ x3.toInt := Int32.le_iff_toInt_le.mp q_4
          intro σ2 eσ2
          replace H := f_l eσ2 H
          have t_6 : ((gi σ c0 9) + x1).toInt = (gi σ c0 9).toInt + x1.toInt := i_add (x := (gi σ c0 9)) (y := x1) (by show (_ : Int) ≤ (gi σ c0 9).toInt + x1.toInt; omega) (by show (gi σ c0 9).toInt + x1.toInt ≤ (_ : Int); omega)
          have mσ2 : XI (mV M) σ2 := by rw [eσ2]; exact XIs_b mσ (lim_C0_9 hc0) (by omega) (by omega)
          have fσ2 : FX (fun id => id = c0 + 5 ∨ id = c0 + 6) (fun id k => (id = c0 ∧ k = 9)) σ0 σ2 := by rw [eσ2]; exact FX_si fσ (Or.inr (show (c0 = c0 ∧ 9 = 9) from ⟨rfl, rfl⟩))
          have k_7 : (gi σ2 c0 1).toInt = (gi σ c0 1).toInt := gk_r eσ2 rfl
          have k_8 : (gi σ2 c0 9).toInt = ((gi σ c0 9) + x1).toInt := by rw [eσ2]; exact congrArg Int32.toInt gi_si_eq
          have nσ2_c0 : NN σ2 c0 := by rw [eσ2]; exact NN_si nσ_c0 (by first | omega | (have uoc0 := un oc0; omega)) (fun _ => by decide +kernel)
          exact h9ret σ2 mσ2 fσ2 nσ2_c0 (by first | with_reducible assumption | with_reducible rfl | omega | assumption | rfl) (H0.trans H.symm)
        · intro q_4
          replace H := f_f q_4 H
          have b_9 : ¬ (gi σ c0 1).toInt ≤ x3.toInt := fun h9 => q_4 (Int32.le_iff_toInt_le.mpr h9)
          have hv_10 : vp_in x3 6 := vp_in_iff.mpr ⟨by omega, by omega⟩
          refine ⟨hv_10, ?_⟩
          have z_11 : (0 : Int32).toInt = 0 := rfl
          have w_12 := Int32.toInt_lt (gi σ (c0 + 5) x3.toNatClampNeg)
          have w_13 := Int32.le_toInt (gi σ (c0 + 5) x3.toNatClampNeg)
          have w_14 := Int32.toInt_lt x2
          have w_15 := Int32.le_toInt x2
          try have t_16 : ((gi σ (c0 + 5) x3.toNatClampNeg) - x2).toInt = (gi σ (c0 + 5) x3.toNatClampNeg).toInt - x2.toInt := i_sub (x := (gi σ (c0 + 5) x3.toNatClampNeg)) (y := x2) (by show (_ : Int) ≤ (gi σ (c0 + 5) x3.toNatClampNeg).toInt - x2.toInt; omega) (by show (gi σ (c0 + 5) x3.toNatClampNeg).toInt - x2.toInt ≤ (_ : Int); omega)
          intro v4 ev4
          replace H := f_l ev4 H
          have t_17 := jmax_b (0 : Int32) ((gi σ (c0 + 5) x3.toNatClampNeg) - x2)
          have t_18 : v4.toInt = (jmax (0 : Int32) ((gi σ (c0 + 5) x3.toNatClampNeg) - x2)).toInt := congrArg Int32.toInt ev4
          refine ⟨hv_10, ?_⟩
          intro σ6 eσ6
          replace H := f_l eσ6 H
          have mσ6 : XI (mV M) σ6 := by rw [eσ6]; exact XIs_n mσ (lim_C5 hc0 _)
          have fσ6 : FX (fun id => id = c0 + 5 ∨ id = c0 + 6) (fun id k => (id = c0 ∧ k = 9)) σ0 σ6 := by rw [eσ6]; exact FX_si fσ (Or.inl (show c0 + 5 = c0 + 5 ∨ c0 + 5 = c0 + 6 from Or.inl (rfl)))
          have k_19 : (gi σ6 c0 1).toInt = (gi σ c0 1).toInt := by rw [eσ6]; exact congrArg Int32.toInt (gi_si_ne (Or.inl (by first | omega | (have uoc0 := un oc0; omega))))
          have k_20 : (gi σ6 c0 9).toInt = (gi σ c0 9).toInt := by rw [eσ6]; exact congrArg Int32.toInt (gi_si_ne (Or.inl (by first | omega | (have uoc0 := un oc0; omega))))
          have nσ6_c0 : NN σ6 c0 := by rw [eσ6]; exact NN_si nσ_c0 (by first | omega | (have uoc0 := un oc0; omega)) (fun h9 => absurd h9 (by first | omega | (have uoc0 := un oc0; omega)))
          refine ⟨hv_10, ?_⟩
          have w_21 := Int32.toInt_lt (gi σ6 (c0 + 6) x3.toNatClampNeg)
          have w_22 := Int32.le_toInt (gi σ6 (c0 + 6) x3.toNatClampNeg)
          try have t_23 : ((gi σ6 (c0 + 6) x3.toNatClampNeg) - x1).toInt = (gi σ6 (c0 + 6) x3.toNatClampNeg).toInt - x1.toInt := i_sub (x := (gi σ6 (c0 + 6) x3.toNatClampNeg)) (y := x1) (by show (_ : Int) ≤ (gi σ6 (c0 + 6) x3.toNatClampNeg).toInt - x1.toInt; omega) (by show (gi σ6 (c0 + 6) x3.toNatClampNeg).toInt - x1.toInt ≤ (_ : Int); omega)
          intro v8 ev8
          replace H := f_l ev8 H
          have t_24 := jmax_b (0 : Int32) ((gi σ6 (c0 + 6) x3.toNatClampNeg) - x1)
          have t_25 : v8.toInt = (jmax (0 : Int32) ((gi σ6 (c0 + 6) x3.toNatClampNeg) - x1)).toInt := congrArg Int32.toInt ev8
          refine ⟨hv_10, ?_⟩
          intro σ10 eσ10
          replace H := f_l eσ10 H
          have mσ10 : XI (mV M) σ10 := by rw [eσ10]; exact XIs_n mσ6 (lim_C6 hc0 _)
          have fσ10 : FX (fun id => id = c0 + 5 ∨ id = c0 + 6) (fun id k => (id = c0 ∧ k = 9)) σ0 σ10 := by rw [eσ10]; exact FX_si fσ6 (Or.inl (show c0 + 6 = c0 + 5 ∨ c0 + 6 = c0 + 6 from Or.inr (rfl)))
          have k_26 : (gi σ10 c0 1).toInt = (gi σ6 c0 1).toInt := by rw [eσ10]; exact congrArg Int32.toInt (gi_si_ne (Or.inl (by first | omega | (have uoc0 := un oc0; omega))))
          have k_27 : (gi σ10 c0 9).toInt = (gi σ6 c0 9).toInt := by rw [eσ10]; exact congrArg Int32.toInt (gi_si_ne (Or.inl (by first | omega | (have uoc0 := un oc0; omega))))
          have nσ10_c0 : NN σ10 c0 := by rw [eσ10]; exact NN_si nσ6_c0 (by first | omega | (have uoc0 := un oc0; omega)) (fun h9 => absurd h9 (by first | omega | (have uoc0 := un oc0; omega)))
          intro v11 ev11
          replace H := f_l ev11 H
          have t_28 : (x3 + (1 : Int32)).toInt = x3.toInt + 1 := i_add (x := x3) (y := (1 : Int32)) (by show (_ : Int) ≤ x3.toInt + 1; omega) (by show x3.toInt + 1 ≤ (_ : Int); omega)
          have t_29 : v11.toInt = (x3 + (1 : Int32)).toInt := congrArg Int32.toInt ev11
          exact ih2 x1 x2 v11 σ10 mσ10 fσ10 nσ10_c0 (by omega) (by omega) (by omega) (by omega) (by first | with_reducible assumption | with_reducible rfl | omega | assumption | rfl) (by first | with_reducible assumption | with_reducible rfl | omega | assumption | rfl) H (by omega)
  have U2 := T 9
  have f0 : FX (fun id => id = c0 + 5 ∨ id = c0 + 6) (fun id k => (id = c0 ∧ k = 9)) σ0 σ0 := FX_rf
  have t_30 := XI_c1 m0 (id := c0) (k := 1) (lim_C0_1 hc0)
  have t_31 := XI_c1 m0 (id := c0) (k := 9) (lim_C0_9 hc0)
  have H := H0
  unfold F_X1_passes at H
  refine s_X1_passes_0 C hN hc0 ?_
  have w_32 := Int32.toInt_lt a2
  have w_33 := Int32.le_toInt a2
  have z_34 : (0 : Int32).toInt = 0 := rfl
  exact U2 a1 a2 (0 : Int32) σ0 m0 f0 nn_c0 (by omega) (by omega) (by omega) (by omega) (by first | with_reducible assumption | with_reducible rfl | omega | assumption | rfl) (by first | with_reducible assumption | with_reducible rfl | omega | assumption | rfl) H (by omega)
set_option maxRecDepth 100000 in
set_option maxHeartbeats 4000000 in
theorem kF_X1_whetsAll {l : Launch} {V : Vx} {c0 : Nat} {σ0 : Sg} {Qk : Sg → Prop} (hc0 : isC c0) (m0 : XI V σ0) (nn_c0 : NN σ0 c0) (pre0 : (gi σ0 c0 9).toInt ≤ 18000) (h9ret : ∀ (σ' : Sg), XI V σ' → FX (fun id => id = c0 + 4 ∨ id = c0 + 5 ∨ id = c0 + 6) (fun id k => (id = c0 ∧ k = 9)) σ0 σ' → (NN σ' c0) → ((gi σ' c0 9).toInt = (gi σ0 c0 9).toInt + 1) → (F_X1_whetsAll c0 σ0 = σ') → Qk σ') : K_X1_whetsAll l V c0 σ0 Qk := by
  refine e_X1_whetsAll (fun M hl hV hN C => ?_)
  subst hl
  subst hV
  obtain ⟨R9, H0⟩ : ∃ R9, F_X1_whetsAll c0 σ0 = R9 := ⟨_, rfl⟩
  have oc0 : hid (c0 = 1 ∨ c0 = 17 ∨ c0 = 33) := hc0
  have T : ∀ n : Nat, (∀ (x1 : Int32) (σ : Sg), XI (mV M) σ → FX (fun id => id = c0 + 4 ∨ id = c0 + 5 ∨ id = c0 + 6) (fun id k => (id = c0 ∧ k = 9)) σ0 σ → NN σ c0 → (0 ≤ x1.toInt) → (x1.toInt ≤ 6) → ((gi σ c0 9).toInt = (gi σ0 c0 9).toInt) → (LF_X1_whetsAll c0 n x1 σ = R9) → (7 - x1.toInt).toNat < n → PS M 2 [(0, .ref c0), (1, .int x1)] [] σ (0, 0)) := by
    intro n
    induction n with
    | zero => exact fun _ _ _ _ _ _ _ _ _ h8 => absurd h8 (Nat.not_lt_zero _)
    | succ n ih =>
      have ih2 := ih
      · intro x1 σ mσ fσ nσ_c0 lx1 ux1 i0 H hmu
        replace H : LB_X1_whetsAll_2 c0 (LF_X1_whetsAll c0 n) x1 σ = R9 := H
        unfold LB_X1_whetsAll_2 at H
        have k_1 : (gi σ c0 1).toInt = (gi σ0 c0 1).toInt := congrArg Int32.toInt (FX_i fσ (show ¬ (c0 = c0 + 4 ∨ c0 = c0 + 5 ∨ c0 = c0 + 6) from by first | omega | (have uoc0 := un oc0; omega)) (show ¬ ((c0 = c0 ∧ 1 = 9)) from by first | omega | (have uoc0 := un oc0; omega)))
        have t_2 := XI_c1 mσ (id := c0) (k := 1) (lim_C0_1 hc0)
        have t_3 := XI_c1 mσ (id := c0) (k := 9) (lim_C0_9 hc0)
        refine s_X1_whetsAll_2 C hN hc0 ?_
        refine ⟨?_, ?_⟩
        · intro q_4
          replace H := f_t q_4 H
          have b_5 : (gi σ c0 1).toInt ≤ x1.toInt := Int32.le_iff_toInt_le.mp q_4
          have z_6 : (1 : Int32).toInt = 1 := rfl
          refine kF_X1_passes hc0 mσ nσ_c0 (by omega) (by omega) (by first | with_reducible assumption | with_reducible rfl | omega | assumption | rfl) (fun σ2 mσ2 cσ2 nσ2_c0 (pσ2_0 : (gi σ2 c0 9).toInt = (gi σ c0 9).toInt + (1 : Int)) hσ2 => ?_)
          replace H := f_v hσ2 H
          have fσ2 : FX (fun id => id = c0 + 4 ∨ id = c0 + 5 ∨ id = c0 + 6) (fun id k => (id = c0 ∧ k = 9)) σ0 σ2 := FX_tr fσ cσ2 (fun x (h9 : x = c0 + 5 ∨ x = c0 + 6) => h9.elim (fun e9 => (show x = c0 + 4 ∨ x = c0 + 5 ∨ x = c0 + 6 from Or.inr (Or.inl (e9)))) (fun h9 => (show x = c0 + 4 ∨ x = c0 + 5 ∨ x = c0 + 6 from Or.inr (Or.inr (h9))))) (fun x k (h9 : (x = c0 ∧ k = 9)) => (show (x = c0 + 4 ∨ x = c0 + 5 ∨ x = c0 + 6) ∨ ((x = c0 ∧ k = 9)) from Or.inr (show (x = c0 ∧ k = 9) from h9)))
          have k_7 : (gi σ2 c0 1).toInt = (gi σ c0 1).toInt := congrArg Int32.toInt (FX_i cσ2 (show ¬ (c0 = c0 + 5 ∨ c0 = c0 + 6) from by first | omega | (have uoc0 := un oc0; omega)) (show ¬ ((c0 = c0 ∧ 1 = 9)) from by first | omega | (have uoc0 := un oc0; omega)))
          have t_8 := XI_c1 mσ2 (id := c0) (k := 9) (lim_C0_9 hc0)
          exact h9ret σ2 mσ2 fσ2 nσ2_c0 (by first | with_reducible assumption | with_reducible rfl | omega | assumption | rfl) (H0.trans H.symm)
        · intro q_4
          replace H := f_f q_4 H
          have b_9 : ¬ (gi σ c0 1).toInt ≤ x1.toInt := fun h9 => q_4 (Int32.le_iff_toInt_le.mpr h9)
          have hv_10 : vp_in x1 6 := vp_in_iff.mpr ⟨by omega, by omega⟩
          refine ⟨hv_10, ?_⟩
          intro σ4 eσ4
          replace H := f_l eσ4 H
          have mσ4 : XI (mV M) σ4 := by rw [eσ4]; exact XIs_n mσ (lim_C4 hc0 _)
          have fσ4 : FX (fun id => id = c0 + 4 ∨ id = c0 + 5 ∨ id = c0 + 6) (fun id k => (id = c0 ∧ k = 9)) σ0 σ4 := by rw [eσ4]; exact FX_si fσ (Or.inl (show c0 + 4 = c0 + 4 ∨ c0 + 4 = c0 + 5 ∨ c0 + 4 = c0 + 6 from Or.inl (rfl)))
          have k_11 : (gi σ4 c0 1).toInt = (gi σ c0 1).toInt := by rw [eσ4]; exact congrArg Int32.toInt (gi_si_ne (Or.inl (by first | omega | (have uoc0 := un oc0; omega))))
          have k_12 : (gi σ4 c0 9).toInt = (gi σ c0 9).toInt := by rw [eσ4]; exact congrArg Int32.toInt (gi_si_ne (Or.inl (by first | omega | (have uoc0 := un oc0; omega))))
          have nσ4_c0 : NN σ4 c0 := by rw [eσ4]; exact NN_si nσ_c0 (by first | omega | (have uoc0 := un oc0; omega)) (fun h9 => absurd h9 (by first | omega | (have uoc0 := un oc0; omega)))
          intro v5 ev5
          replace H := f_l ev5 H
          have t_13 : (x1 + (1 : Int32)).toInt = x1.toInt + 1 := i_add (x := x1) (y := (1 : Int32)) (by show (_ : Int) ≤ x1.toInt + 1; omega) (by show x1.toInt + 1 ≤ (_ : Int); omega)
          have t_14 : v5.toInt = (x1 + (1 : Int32)).toInt := congrArg Int32.toInt ev5
          exact ih2 v5 σ4 mσ4 fσ4 nσ4_c0 (by omega) (by omega) (by first | with_reducible assumption | with_reducible rfl | omega | assumption | rfl) H (by omega)
  have U2 := T 9
  have f0 : FX (fun id => id = c0 + 4 ∨ id = c0 + 5 ∨ id = c0 + 6) (fun id k => (id = c0 ∧ k = 9)) σ0 σ0 := FX_rf
  have t_15 := XI_c1 m0 (id := c0) (k := 1) (lim_C0_1 hc0)
  have t_16 := XI_c1 m0 (id := c0) (k := 9) (lim_C0_9 hc0)
  have H := H0
  unfold F_X1_whetsAll at H
  refine s_X1_whetsAll_0 C hN hc0 ?_
  have z_17 : (0 : Int32).toInt = 0 := rfl
  exact U2 (0 : Int32) σ0 m0 f0 nn_c0 (by omega) (by omega) (by first | with_reducible assumption | with_reducible rfl | omega | assumption | rfl) H (by omega)
set_option maxRecDepth 100000 in
set_option maxHeartbeats 4000000 in
theorem kF_X1_rests {l : Launch} {V : Vx} {c0 : Nat} {a1 : Int32} {σ0 : Sg} {Qk : Sg → Prop} (hc0 : isC c0) (m0 : XI V σ0) (nn_c0 : NN σ0 c0) (l_a1 : 1 ≤ a1.toInt) (u_a1 : a1.toInt ≤ 60) (pre0 : (gi σ0 c0 9).toInt ≤ 18000) (h9ret : ∀ (σ' : Sg), XI V σ' → FX (fun id => id = c0 + 5 ∨ id = c0 + 6) (fun id k => (id = c0 ∧ k = 9)) σ0 σ' → (NN σ' c0) → ((gi σ' c0 9).toInt = (gi σ0 c0 9).toInt + a1.toInt) → (F_X1_rests c0 a1 σ0 = σ') → Qk σ') : K_X1_rests l V c0 a1 σ0 Qk := by
  refine e_X1_rests (fun M hl hV hN C => ?_)
  subst hl
  subst hV
  obtain ⟨R9, H0⟩ : ∃ R9, F_X1_rests c0 a1 σ0 = R9 := ⟨_, rfl⟩
  have oc0 : hid (c0 = 1 ∨ c0 = 17 ∨ c0 = 33) := hc0
  have f0 : FX (fun id => id = c0 + 5 ∨ id = c0 + 6) (fun id k => (id = c0 ∧ k = 9)) σ0 σ0 := FX_rf
  have t_1 := XI_c1 m0 (id := c0) (k := 9) (lim_C0_9 hc0)
  have H := H0
  unfold F_X1_rests at H
  refine s_X1_rests_0 C hN hc0 ?_
  have t_2 : ((3 : Int32) * a1).toInt = 3 * a1.toInt := i_mull rfl (by omega) (by omega)
  refine kF_X1_passes hc0 m0 nn_c0 (by omega) (by omega) (by first | with_reducible assumption | with_reducible rfl | omega | assumption | rfl) (fun σ1 mσ1 cσ1 nσ1_c0 (pσ1_0 : (gi σ1 c0 9).toInt = (gi σ0 c0 9).toInt + a1.toInt) hσ1 => ?_)
  replace H := f_v hσ1 H
  have fσ1 : FX (fun id => id = c0 + 5 ∨ id = c0 + 6) (fun id k => (id = c0 ∧ k = 9)) σ0 σ1 := FX_tr f0 cσ1 (fun x (h9 : x = c0 + 5 ∨ x = c0 + 6) => h9.elim (fun e9 => (show x = c0 + 5 ∨ x = c0 + 6 from Or.inl (e9))) (fun h9 => (show x = c0 + 5 ∨ x = c0 + 6 from Or.inr (h9)))) (fun x k (h9 : (x = c0 ∧ k = 9)) => (show (x = c0 + 5 ∨ x = c0 + 6) ∨ ((x = c0 ∧ k = 9)) from Or.inr (show (x = c0 ∧ k = 9) from h9)))
  have t_3 := XI_c1 mσ1 (id := c0) (k := 9) (lim_C0_9 hc0)
  exact h9ret σ1 mσ1 fσ1 nσ1_c0 (by first | with_reducible assumption | with_reducible rfl | omega | assumption | rfl) (H0.trans H.symm)
set_option maxRecDepth 100000 in
set_option maxHeartbeats 4000000 in
theorem kF_X1_allAt {l : Launch} {V : Vx} {c0 : Nat} {σ0 : Sg} {Qk : Int32 → Sg → Prop} (hc0 : isC c0) (m0 : XI V σ0) (h9ret : ∀ (r : Int32) (σ' : Sg), XI V σ' → FX (fun id => False) (fun _ _ => False) σ0 σ' → (F_X1_allAt c0 σ0 = (r, σ')) → Qk r σ') : K_X1_allAt l V c0 σ0 Qk := by
  refine e_X1_allAt (fun M hl hV hN C => ?_)
  subst hl
  subst hV
  obtain ⟨R9, H0⟩ : ∃ R9, F_X1_allAt c0 σ0 = R9 := ⟨_, rfl⟩
  have oc0 : hid (c0 = 1 ∨ c0 = 17 ∨ c0 = 33) := hc0
  have T : ∀ n : Nat, (∀ (x1 : Int32) (x2 : Int32) (σ : Sg), XI (mV M) σ → FX (fun id => False) (fun _ _ => False) σ0 σ → (0 ≤ x2.toInt) → (x2.toInt ≤ 6) → (LF_X1_allAt c0 n x1 x2 σ = R9) → (7 - x2.toInt).toNat < n → PS M 4 [(0, .ref c0), (1, .int x1), (2, .int x2)] [] σ (0, 0)) := by
    intro n
    induction n with
    | zero => exact fun _ _ _ _ _ _ _ _ h8 => absurd h8 (Nat.not_lt_zero _)
    | succ n ih =>
      have ih4 := ih
      · intro x1 x2 σ mσ fσ lx2 ux2 H hmu
        replace H : LB_X1_allAt_4 c0 (LF_X1_allAt c0 n) x1 x2 σ = R9 := H
        unfold LB_X1_allAt_4 at H
        have k_1 : (gi σ c0 1).toInt = (gi σ0 c0 1).toInt := congrArg Int32.toInt (FX_i fσ id id)
        have t_2 := XI_c1 mσ (id := c0) (k := 1) (lim_C0_1 hc0)
        refine s_X1_allAt_4 C hN hc0 ?_
        refine ⟨?_, ?_⟩
        · intro q_3
          replace H := f_t q_3 H
          have b_4 : (gi σ c0 1).toInt ≤ x2.toInt := Int32.le_iff_toInt_le.mp q_3
          exact h9ret x1 σ mσ fσ (H0.trans H.symm)
        · intro q_3
          replace H := f_f q_3 H
          have b_5 : ¬ (gi σ c0 1).toInt ≤ x2.toInt := fun h9 => q_3 (Int32.le_iff_toInt_le.mpr h9)
          have hv_6 : vp_in x2 6 := vp_in_iff.mpr ⟨by omega, by omega⟩
          refine ⟨hv_6, ?_⟩
          intro v3 ev3
          replace H := f_l ev3 H
          intro v4 ev4
          replace H := f_l ev4 H
          have t_7 : (x2 + (1 : Int32)).toInt = x2.toInt + 1 := i_add (x := x2) (y := (1 : Int32)) (by show (_ : Int) ≤ x2.toInt + 1; omega) (by show x2.toInt + 1 ≤ (_ : Int); omega)
          have t_8 : v4.toInt = (x2 + (1 : Int32)).toInt := congrArg Int32.toInt ev4
          have w_9 := Int32.toInt_lt v3
          have w_10 := Int32.le_toInt v3
          exact ih4 v3 v4 σ mσ fσ (by omega) (by omega) H (by omega)
  have U4 := T 9
  have f0 : FX (fun id => False) (fun _ _ => False) σ0 σ0 := FX_rf
  have t_11 := XI_c1 m0 (id := c0) (k := 1) (lim_C0_1 hc0)
  have H := H0
  unfold F_X1_allAt at H
  refine s_X1_allAt_0 C hN hc0 ?_
  have z_12 : (0 : Int32).toInt = 0 := rfl
  exact U4 (0 : Int32) (0 : Int32) σ0 m0 f0 (by omega) (by omega) H (by omega)
set_option maxRecDepth 100000 in
set_option maxHeartbeats 4000000 in
theorem kF_X1_isDone {l : Launch} {V : Vx} {c0 : Nat} {σ0 : Sg} {Qk : Int32 → Sg → Prop} (hc0 : isC c0) (m0 : XI V σ0) (h9ret : ∀ (r : Int32) (σ' : Sg), XI V σ' → FX (fun id => False) (fun _ _ => False) σ0 σ' → (0 ≤ r.toInt) → (r.toInt ≤ 1) → (F_X1_isDone c0 σ0 = (r, σ')) → Qk r σ') : K_X1_isDone l V c0 σ0 Qk := by
  refine e_X1_isDone (fun M hl hV hN C => ?_)
  subst hl
  subst hV
  obtain ⟨R9, H0⟩ : ∃ R9, F_X1_isDone c0 σ0 = R9 := ⟨_, rfl⟩
  have oc0 : hid (c0 = 1 ∨ c0 = 17 ∨ c0 = 33) := hc0
  have T : ∀ n : Nat, (∀ (x1 : Int32) (σ : Sg), XI (mV M) σ → FX (fun id => False) (fun _ _ => False) σ0 σ → (0 ≤ x1.toInt) → (x1.toInt ≤ 6) → (LF_X1_isDone c0 n x1 σ = R9) → (7 - x1.toInt).toNat < n → PS M 2 [(0, .ref c0), (1, .int x1)] [] σ (0, 0)) := by
    intro n
    induction n with
    | zero => exact fun _ _ _ _ _ _ _ h8 => absurd h8 (Nat.not_lt_zero _)
    | succ n ih =>
      have ih2 := ih
      · intro x1 σ mσ fσ lx1 ux1 H hmu
        replace H : LB_X1_isDone_2 c0 (LF_X1_isDone c0 n) x1 σ = R9 := H
        unfold LB_X1_isDone_2 at H
        have k_1 : (gi σ c0 1).toInt = (gi σ0 c0 1).toInt := congrArg Int32.toInt (FX_i fσ id id)
        have t_2 := XI_c1 mσ (id := c0) (k := 1) (lim_C0_1 hc0)
        refine s_X1_isDone_2 C hN hc0 ?_
        refine ⟨?_, ?_⟩
        · intro q_3
          replace H := f_t q_3 H
          have b_4 : (gi σ c0 1).toInt ≤ x1.toInt := Int32.le_iff_toInt_le.mp q_3
          have z_5 : (1 : Int32).toInt = 1 := rfl
          exact h9ret (1 : Int32) σ mσ fσ (by omega) (by omega) (H0.trans H.symm)
        · intro q_3
          replace H := f_f q_3 H
          have b_6 : ¬ (gi σ c0 1).toInt ≤ x1.toInt := fun h9 => q_3 (Int32.le_iff_toInt_le.mpr h9)
          have hv_7 : vp_in x1 6 := vp_in_iff.mpr ⟨by omega, by omega⟩
          refine ⟨hv_7, ?_⟩
          obtain ⟨f3, ef3, hf3, lf3⟩ := (mσ.2.1 _ hc0).1
          have gf3 : hid _ := kdF_ge hf3
          refine ⟨f3, ef3, hf3, lf3, ?_⟩
          replace H := f_o ef3 H
          refine ⟨?_, ?_⟩
          · intro q_8
            replace H := f_t q_8 H
            have w_9 := Int32.toInt_lt (gi σ f3 2)
            have w_10 := Int32.le_toInt (gi σ f3 2)
            have w_11 := Int32.toInt_lt (gi σ (c0 + 3) x1.toNatClampNeg)
            have w_12 := Int32.le_toInt (gi σ (c0 + 3) x1.toNatClampNeg)
            have b_13 : (gi σ f3 2).toInt ≤ (gi σ (c0 + 3) x1.toNatClampNeg).toInt := Int32.le_iff_toInt_le.mp q_8
            intro v5 ev5
            replace H := f_l ev5 H
            have t_14 : (x1 + (1 : Int32)).toInt = x1.toInt + 1 := i_add (x := x1) (y := (1 : Int32)) (by show (_ : Int) ≤ x1.toInt + 1; omega) (by show x1.toInt + 1 ≤ (_ : Int); omega)
            have t_15 : v5.toInt = (x1 + (1 : Int32)).toInt := congrArg Int32.toInt ev5
            exact ih2 v5 σ mσ fσ (by omega) (by omega) H (by omega)
          · intro q_8
            replace H := f_f q_8 H
            have w_16 := Int32.toInt_lt (gi σ f3 2)
            have w_17 := Int32.le_toInt (gi σ f3 2)
            have w_18 := Int32.toInt_lt (gi σ (c0 + 3) x1.toNatClampNeg)
            have w_19 := Int32.le_toInt (gi σ (c0 + 3) x1.toNatClampNeg)
            have b_20 : ¬ (gi σ f3 2).toInt ≤ (gi σ (c0 + 3) x1.toNatClampNeg).toInt := fun h9 => q_8 (Int32.le_iff_toInt_le.mpr h9)
            have z_21 : (0 : Int32).toInt = 0 := rfl
            exact h9ret (0 : Int32) σ mσ fσ (by omega) (by omega) (H0.trans H.symm)
  have U2 := T 9
  have f0 : FX (fun id => False) (fun _ _ => False) σ0 σ0 := FX_rf
  have t_22 := XI_c1 m0 (id := c0) (k := 1) (lim_C0_1 hc0)
  have H := H0
  unfold F_X1_isDone at H
  refine s_X1_isDone_0 C hN hc0 ?_
  have z_23 : (0 : Int32).toInt = 0 := rfl
  exact U2 (0 : Int32) σ0 m0 f0 (by omega) (by omega) H (by omega)
set_option maxRecDepth 100000 in
set_option maxHeartbeats 4000000 in
theorem kF_X5_becomes {l : Launch} {V : Vx} {c0 : Nat} {a1 : Nat} {σ0 : Sg} {Qk : Sg → Prop} (hc0 : isN c0) (ha1 : isN a1) (m0 : XI V σ0) (pre0 : capI c0 = capI a1) (pre1 : c0 % 16 = a1 % 16) (pre2 : c0 ≠ a1) (h9ret : ∀ (σ' : Sg), XI V σ' → FX (fun id => id = c0 + 1) (fun id k => (id = c0 ∧ k = 1)) σ0 σ' → ((gi σ' c0 1).toInt = (gi σ0 a1 1).toInt) → (F_X5_becomes c0 a1 σ0 = σ') → Qk σ') : K_X5_becomes l V c0 a1 σ0 Qk := by
  refine e_X5_becomes (fun M hl hV hN C => ?_)
  subst hl
  subst hV
  obtain ⟨R9, H0⟩ : ∃ R9, F_X5_becomes c0 a1 σ0 = R9 := ⟨_, rfl⟩
  have H := H0
  unfold F_X5_becomes at H
  refine s_X5_becomes_0 C hN hc0 ha1 ?_
  intro s1 e1
  replace H := f_l e1 H
  have b1 := XI_c1 m0 (lim_N ha1)
  have m1 : XI (mV M) s1 := by rw [e1]; exact XIs_b m0 (lim_N hc0) b1.1 (by omega)
  have f1 : FX (fun id => id = c0 + 1) (fun id k => (id = c0 ∧ k = 1)) σ0 s1 := by rw [e1]; exact FX_si FX_rf (Or.inr ⟨rfl, rfl⟩)
  intro v2 e2
  replace H := f_l e2 H
  have n1 := ofNat_nl hc0
  have n2 := ofNat_nl ha1
  have n3 := nl_le hc0
  have n4 := nl_le ha1
  have hb := jmin_b (Int32.ofNat (nl c0)) (Int32.ofNat (nl a1))
  rw [← e2] at hb
  have ec := cl_eq (x := v2) (by omega)
  have z0 : (0 : Int32).toNatClampNeg = 0 := by decide +kernel
  refine ⟨⟨by decide +kernel, by decide +kernel, fun h9 => ?_, by rw [z0]; omega, by rw [z0]; omega⟩, ?_⟩
  · have h8 := Int32.lt_iff_toInt_lt.mp h9
    have h7 : (0 : Int32).toInt = 0 := rfl
    omega
  intro s3 e3
  replace H := f_l e3 H
  have m3 : XI (mV M) s3 := by
    rw [e3]
    refine XIs_sia m1 (fun k lo hi q => ?_)
    unfold va_cpy
    split
    · exact m1.1 (a1 + 1) _ lo hi (by rw [show (0 : Int32).toNatClampNeg + (k - (0 : Int32).toNatClampNeg) = k from by rw [z0]; omega, ← lim_Nsame hc0 ha1 pre1]; exact q)
    · exact m1.1 (c0 + 1) k lo hi q
  have f3 : FX (fun id => id = c0 + 1) (fun id k => (id = c0 ∧ k = 1)) σ0 s3 := by rw [e3]; exact FX_sia f1 rfl
  refine h9ret s3 m3 f3 ?_ (H0.trans H.symm)
  rw [e3, gi_sia, if_neg (by omega), e1, gi_si_eq]

set_option maxRecDepth 100000 in
set_option maxHeartbeats 4000000 in
theorem kF_X1_becomes {l : Launch} {V : Vx} {c0 : Nat} {a1 : Nat} {σ0 : Sg} {Qk : Sg → Prop} (hc0 : isC c0) (ha1 : isC a1) (m0 : XI V σ0) (nn_a1 : NN σ0 a1) (pre0 : c0 + 16 ≤ a1 ∨ a1 + 16 ≤ c0) (h9ret : ∀ (σ' : Sg), XI V σ' → FX (fun id => id = c0 + 1 ∨ id = c0 + 2 ∨ id = c0 + 3 ∨ id = c0 + 4 ∨ id = c0 + 5 ∨ id = c0 + 6 ∨ id = c0 + 7) (fun id k => (id = c0 ∧ k = 1) ∨ (id = c0 ∧ k = 3) ∨ (id = c0 ∧ k = 9) ∨ (id = c0 ∧ k = 10) ∨ (id = c0 ∧ k = 11)) σ0 σ' → NN σ' a1 → NN σ' c0 → ((gi σ' c0 1).toInt = (gi σ0 a1 1).toInt) → ((gi σ' c0 3).toInt = (gi σ0 a1 3).toInt) → ((gi σ' c0 9).toInt = (gi σ0 a1 9).toInt) → CPY σ0 σ' c0 a1 → (F_X1_becomes c0 a1 σ0 = σ') → Qk σ') : K_X1_becomes l V c0 a1 σ0 Qk := by
  refine e_X1_becomes (fun M hl hV hN C => ?_)
  subst hl
  subst hV
  obtain ⟨R9, H0⟩ : ∃ R9, F_X1_becomes c0 a1 σ0 = R9 := ⟨_, rfl⟩
  have oc0 : c0 = 1 ∨ c0 = 17 ∨ c0 = 33 := hc0
  have oa1 : a1 = 1 ∨ a1 = 17 ∨ a1 = 33 := ha1
  have xr : ∀ {σ : Sg} {k : Nat} {v : Option Nat}, XI (mV M) σ → (∀ μ, v = some μ → isMw (mV M) μ) → XI (mV M) (sr σ (c0 + 1) k v) := fun {σ k v} m h => XIs_r m (fun c hc e _ => by rcases hc with rfl | rfl | rfl <;> (exfalso; omega)) (fun c hc e μ q => h μ q) (fun e => by exfalso; omega) (fun q _ => by rw [kdC_1 hc0] at q; exact absurd (congrArg Prod.fst q) (by decide +kernel))
  have T : ∀ n : Nat, ∀ (i : Nat) (x2 : Int32) (σ : Sg), i ≤ 6 → x2.toInt = i → XI (mV M) σ → FX (fun id => id = c0 + 1 ∨ id = c0 + 2 ∨ id = c0 + 3 ∨ id = c0 + 4 ∨ id = c0 + 5 ∨ id = c0 + 6 ∨ id = c0 + 7) (fun id k => (id = c0 ∧ k = 1) ∨ (id = c0 ∧ k = 3) ∨ (id = c0 ∧ k = 9) ∨ (id = c0 ∧ k = 10) ∨ (id = c0 ∧ k = 11)) σ0 σ → (gi σ c0 1 = gi σ0 a1 1 ∧ gi σ c0 3 = gi σ0 a1 3 ∧ gi σ c0 9 = gi σ0 a1 9 ∧ gi σ c0 11 = gi σ0 a1 11 ∧ gr σ c0 10 = gr σ0 a1 10) → CQ σ0 σ c0 a1 i → (LF_X1_becomes c0 a1 n x2 σ = R9) → 7 - i < n → PS M 42 [(0, .ref c0), (1, .ref a1), (2, .int x2)] [] σ (0, 0) := by
    intro n
    induction n with
    | zero => exact fun _ _ _ _ _ _ _ _ _ _ h8 => absurd h8 (Nat.not_lt_zero _)
    | succ n ih =>
      intro i x2 σ hi ex m f sc cq H hmu
      replace H : LB_X1_becomes_42 c0 a1 (LF_X1_becomes c0 a1 n) x2 σ = R9 := H
      unfold LB_X1_becomes_42 at H
      have z6 : (6 : Int32).toInt = 6 := rfl
      refine s_X1_becomes_42 C hN hc0 ha1 ?_
      refine ⟨fun q => ?_, fun q => ?_⟩
      · replace H := f_t q H
        have b := Int32.le_iff_toInt_le.mp q
        have hi6 : i = 6 := by omega
        subst hi6
        refine ⟨⟨by decide +kernel, by decide +kernel, by decide +kernel, by decide +kernel, by decide +kernel⟩, ?_⟩
        intro σ2 e2
        replace H := f_l e2 H
        have f2 : FX (fun id => id = c0 + 1 ∨ id = c0 + 2 ∨ id = c0 + 3 ∨ id = c0 + 4 ∨ id = c0 + 5 ∨ id = c0 + 6 ∨ id = c0 + 7) (fun id k => (id = c0 ∧ k = 1) ∨ (id = c0 ∧ k = 3) ∨ (id = c0 ∧ k = 9) ∨ (id = c0 ∧ k = 10) ∨ (id = c0 ∧ k = 11)) σ0 σ2 := by rw [e2]; exact FX_sia f (show c0 + 7 = c0 + 1 ∨ c0 + 7 = c0 + 2 ∨ c0 + 7 = c0 + 3 ∨ c0 + 7 = c0 + 4 ∨ c0 + 7 = c0 + 5 ∨ c0 + 7 = c0 + 6 ∨ c0 + 7 = c0 + 7 from by omega)
        have m2 : XI (mV M) σ2 := by rw [e2]; exact XIs_sia m (fun k lo hi q => by rw [lim_C7 hc0 k] at q; cases q)
        have g2 : ∀ b k, b ≠ c0 + 7 → gi σ2 b k = gi σ b k := fun b k hb => by rw [e2, gi_sia, if_neg hb]
        have r2 : ∀ b k, gr σ2 b k = gr σ b k := fun b k => by rw [e2]; rfl
        have p : CPY σ0 σ2 c0 a1 := by
          refine ⟨⟨?_, ?_, ?_, ?_, ?_⟩, ⟨fun k hk => ?_, fun j j1 j2 k hk => ?_⟩, fun k hk => ?_⟩
          · rw [g2 _ _ (by omega)]; exact sc.1
          · rw [g2 _ _ (by omega)]; exact sc.2.1
          · rw [g2 _ _ (by omega)]; exact sc.2.2.1
          · rw [g2 _ _ (by omega)]; exact sc.2.2.2.1
          · rw [r2]; exact sc.2.2.2.2
          · rw [r2]; exact cq.1 k hk
          · rw [g2 _ _ (by omega)]; exact cq.2 j j1 j2 k hk
          · rw [e2, gi_sia, if_pos rfl]
            show va_cpy (σ.1 (a1 + 7)) (σ.1 (c0 + 7)) 0 0 24 k = _
            rw [cpy_in _ _ hk]
            exact FX_i f (show ¬ (a1 + 7 = c0 + 1 ∨ a1 + 7 = c0 + 2 ∨ a1 + 7 = c0 + 3 ∨ a1 + 7 = c0 + 4 ∨ a1 + 7 = c0 + 5 ∨ a1 + 7 = c0 + 6 ∨ a1 + 7 = c0 + 7) from by omega) (show ¬ ((a1 + 7 = c0 ∧ k = 1) ∨ (a1 + 7 = c0 ∧ k = 3) ∨ (a1 + 7 = c0 ∧ k = 9) ∨ (a1 + 7 = c0 ∧ k = 10) ∨ (a1 + 7 = c0 ∧ k = 11)) from by omega)
        exact h9ret σ2 m2 f2 (NN_fx nn_a1 f2 (show ¬ (a1 = c0 + 1 ∨ a1 = c0 + 2 ∨ a1 = c0 + 3 ∨ a1 = c0 + 4 ∨ a1 = c0 + 5 ∨ a1 = c0 + 6 ∨ a1 = c0 + 7) from by omega) (show ¬ (a1 + 1 = c0 + 1 ∨ a1 + 1 = c0 + 2 ∨ a1 + 1 = c0 + 3 ∨ a1 + 1 = c0 + 4 ∨ a1 + 1 = c0 + 5 ∨ a1 + 1 = c0 + 6 ∨ a1 + 1 = c0 + 7) from by omega) (show ¬ (a1 + 2 = c0 + 1 ∨ a1 + 2 = c0 + 2 ∨ a1 + 2 = c0 + 3 ∨ a1 + 2 = c0 + 4 ∨ a1 + 2 = c0 + 5 ∨ a1 + 2 = c0 + 6 ∨ a1 + 2 = c0 + 7) from by omega) (show ¬ ((a1 = c0 ∧ 1 = 1) ∨ (a1 = c0 ∧ 1 = 3) ∨ (a1 = c0 ∧ 1 = 9) ∨ (a1 = c0 ∧ 1 = 10) ∨ (a1 = c0 ∧ 1 = 11)) from by omega) (show ¬ ((a1 = c0 ∧ 3 = 1) ∨ (a1 = c0 ∧ 3 = 3) ∨ (a1 = c0 ∧ 3 = 9) ∨ (a1 = c0 ∧ 3 = 10) ∨ (a1 = c0 ∧ 3 = 11)) from by omega) (fun k => show ¬ ((a1 + 1 = c0 ∧ k = 1) ∨ (a1 + 1 = c0 ∧ k = 3) ∨ (a1 + 1 = c0 ∧ k = 9) ∨ (a1 + 1 = c0 ∧ k = 10) ∨ (a1 + 1 = c0 ∧ k = 11)) from by omega) (fun k => show ¬ ((a1 + 2 = c0 ∧ k = 1) ∨ (a1 + 2 = c0 ∧ k = 3) ∨ (a1 + 2 = c0 ∧ k = 9) ∨ (a1 + 2 = c0 ∧ k = 10) ∨ (a1 + 2 = c0 ∧ k = 11)) from by omega)) (NN_cpy ha1 m0 nn_a1 p) (congrArg Int32.toInt p.1.1) (congrArg Int32.toInt p.1.2.1) (congrArg Int32.toInt p.1.2.2.1) p (H0.trans H.symm)
      · replace H := f_f q H
        have b : ¬ (6 : Int32).toInt ≤ x2.toInt := fun h9 => q (Int32.le_iff_toInt_le.mpr h9)
        have hv : vp_in x2 6 := vp_in_iff.mpr ⟨by omega, by omega⟩
        have ec := cl_eq (x := x2) (by omega)
        have ei : x2.toNatClampNeg = i := by omega
        refine ⟨hv, hv, fun μ hμ => (m.2.1 a1 ha1).2 _ μ hμ, ?_⟩
        intro s1 e1
        replace H := f_l e1 H
        refine ⟨hv, hv, ?_⟩
        intro s2 e2
        replace H := f_l e2 H
        refine ⟨hv, hv, ?_⟩
        intro s3 e3
        replace H := f_l e3 H
        refine ⟨hv, hv, ?_⟩
        intro s4 e4
        replace H := f_l e4 H
        refine ⟨hv, hv, ?_⟩
        intro s5 e5
        replace H := f_l e5 H
        refine ⟨hv, hv, ?_⟩
        intro s6 e6
        replace H := f_l e6 H
        intro v7 e7
        replace H := f_l e7 H
        rw [ei] at e1 e2 e3 e4 e5 e6
        have m1 : XI (mV M) s1 := by rw [e1]; exact xr m (fun μ hμ => (m.2.1 a1 ha1).2 _ μ hμ)
        have bl := XI_c1 m1 (k := i) (lim_C2 ha1 _)
        have m2 : XI (mV M) s2 := by rw [e2]; exact XIs_b m1 (lim_C2 hc0 _) bl.1 bl.2
        have m3 : XI (mV M) s3 := by rw [e3]; exact XIs_n m2 (lim_C3 hc0 _)
        have m4 : XI (mV M) s4 := by rw [e4]; exact XIs_n m3 (lim_C4 hc0 _)
        have m5 : XI (mV M) s5 := by rw [e5]; exact XIs_n m4 (lim_C5 hc0 _)
        have m6 : XI (mV M) s6 := by rw [e6]; exact XIs_n m5 (lim_C6 hc0 _)
        have f1 : FX (fun id => id = c0 + 1 ∨ id = c0 + 2 ∨ id = c0 + 3 ∨ id = c0 + 4 ∨ id = c0 + 5 ∨ id = c0 + 6 ∨ id = c0 + 7) (fun id k => (id = c0 ∧ k = 1) ∨ (id = c0 ∧ k = 3) ∨ (id = c0 ∧ k = 9) ∨ (id = c0 ∧ k = 10) ∨ (id = c0 ∧ k = 11)) σ0 s1 := by rw [e1]; exact FX_sr f (Or.inl (show c0 + 1 = c0 + 1 ∨ c0 + 1 = c0 + 2 ∨ c0 + 1 = c0 + 3 ∨ c0 + 1 = c0 + 4 ∨ c0 + 1 = c0 + 5 ∨ c0 + 1 = c0 + 6 ∨ c0 + 1 = c0 + 7 from by omega))
        have f2 : FX (fun id => id = c0 + 1 ∨ id = c0 + 2 ∨ id = c0 + 3 ∨ id = c0 + 4 ∨ id = c0 + 5 ∨ id = c0 + 6 ∨ id = c0 + 7) (fun id k => (id = c0 ∧ k = 1) ∨ (id = c0 ∧ k = 3) ∨ (id = c0 ∧ k = 9) ∨ (id = c0 ∧ k = 10) ∨ (id = c0 ∧ k = 11)) σ0 s2 := by rw [e2]; exact FX_si f1 (Or.inl (show c0 + 2 = c0 + 1 ∨ c0 + 2 = c0 + 2 ∨ c0 + 2 = c0 + 3 ∨ c0 + 2 = c0 + 4 ∨ c0 + 2 = c0 + 5 ∨ c0 + 2 = c0 + 6 ∨ c0 + 2 = c0 + 7 from by omega))
        have f3 : FX (fun id => id = c0 + 1 ∨ id = c0 + 2 ∨ id = c0 + 3 ∨ id = c0 + 4 ∨ id = c0 + 5 ∨ id = c0 + 6 ∨ id = c0 + 7) (fun id k => (id = c0 ∧ k = 1) ∨ (id = c0 ∧ k = 3) ∨ (id = c0 ∧ k = 9) ∨ (id = c0 ∧ k = 10) ∨ (id = c0 ∧ k = 11)) σ0 s3 := by rw [e3]; exact FX_si f2 (Or.inl (show c0 + 3 = c0 + 1 ∨ c0 + 3 = c0 + 2 ∨ c0 + 3 = c0 + 3 ∨ c0 + 3 = c0 + 4 ∨ c0 + 3 = c0 + 5 ∨ c0 + 3 = c0 + 6 ∨ c0 + 3 = c0 + 7 from by omega))
        have f4 : FX (fun id => id = c0 + 1 ∨ id = c0 + 2 ∨ id = c0 + 3 ∨ id = c0 + 4 ∨ id = c0 + 5 ∨ id = c0 + 6 ∨ id = c0 + 7) (fun id k => (id = c0 ∧ k = 1) ∨ (id = c0 ∧ k = 3) ∨ (id = c0 ∧ k = 9) ∨ (id = c0 ∧ k = 10) ∨ (id = c0 ∧ k = 11)) σ0 s4 := by rw [e4]; exact FX_si f3 (Or.inl (show c0 + 4 = c0 + 1 ∨ c0 + 4 = c0 + 2 ∨ c0 + 4 = c0 + 3 ∨ c0 + 4 = c0 + 4 ∨ c0 + 4 = c0 + 5 ∨ c0 + 4 = c0 + 6 ∨ c0 + 4 = c0 + 7 from by omega))
        have f5 : FX (fun id => id = c0 + 1 ∨ id = c0 + 2 ∨ id = c0 + 3 ∨ id = c0 + 4 ∨ id = c0 + 5 ∨ id = c0 + 6 ∨ id = c0 + 7) (fun id k => (id = c0 ∧ k = 1) ∨ (id = c0 ∧ k = 3) ∨ (id = c0 ∧ k = 9) ∨ (id = c0 ∧ k = 10) ∨ (id = c0 ∧ k = 11)) σ0 s5 := by rw [e5]; exact FX_si f4 (Or.inl (show c0 + 5 = c0 + 1 ∨ c0 + 5 = c0 + 2 ∨ c0 + 5 = c0 + 3 ∨ c0 + 5 = c0 + 4 ∨ c0 + 5 = c0 + 5 ∨ c0 + 5 = c0 + 6 ∨ c0 + 5 = c0 + 7 from by omega))
        have f6 : FX (fun id => id = c0 + 1 ∨ id = c0 + 2 ∨ id = c0 + 3 ∨ id = c0 + 4 ∨ id = c0 + 5 ∨ id = c0 + 6 ∨ id = c0 + 7) (fun id k => (id = c0 ∧ k = 1) ∨ (id = c0 ∧ k = 3) ∨ (id = c0 ∧ k = 9) ∨ (id = c0 ∧ k = 10) ∨ (id = c0 ∧ k = 11)) σ0 s6 := by rw [e6]; exact FX_si f5 (Or.inl (show c0 + 6 = c0 + 1 ∨ c0 + 6 = c0 + 2 ∨ c0 + 6 = c0 + 3 ∨ c0 + 6 = c0 + 4 ∨ c0 + 6 = c0 + 5 ∨ c0 + 6 = c0 + 6 ∨ c0 + 6 = c0 + 7 from by omega))
        have g6 : ∀ k, gi s6 c0 k = gi σ c0 k := fun k => by rw [e6, gi_si_ne (Or.inl (by omega)), e5, gi_si_ne (Or.inl (by omega)), e4, gi_si_ne (Or.inl (by omega)), e3, gi_si_ne (Or.inl (by omega)), e2, gi_si_ne (Or.inl (by omega)), e1, gi_sr]
        have r6 : gr s6 c0 10 = gr σ c0 10 := by rw [e6, gr_si, e5, gr_si, e4, gr_si, e3, gr_si, e2, gr_si, e1, gr_sr, if_neg (fun z => by omega)]
        have t7 : (x2 + (1 : Int32)).toInt = x2.toInt + 1 := i_add (x := x2) (y := (1 : Int32)) (by show (_ : Int) ≤ x2.toInt + 1; omega) (by show x2.toInt + 1 ≤ (_ : Int); omega)
        refine ih (i + 1) v7 s6 (by omega) (by rw [e7, t7]; omega) m6 f6 ⟨by rw [g6]; exact sc.1, by rw [g6]; exact sc.2.1, by rw [g6]; exact sc.2.2.1, by rw [g6]; exact sc.2.2.2.1, by rw [r6]; exact sc.2.2.2.2⟩ ?_ H (by omega)
        exact CQ_s pre0 (fun j k j1 j2 => ⟨FX_i f (show ¬ (a1 + j = c0 + 1 ∨ a1 + j = c0 + 2 ∨ a1 + j = c0 + 3 ∨ a1 + j = c0 + 4 ∨ a1 + j = c0 + 5 ∨ a1 + j = c0 + 6 ∨ a1 + j = c0 + 7) from by omega) (show ¬ ((a1 + j = c0 ∧ k = 1) ∨ (a1 + j = c0 ∧ k = 3) ∨ (a1 + j = c0 ∧ k = 9) ∨ (a1 + j = c0 ∧ k = 10) ∨ (a1 + j = c0 ∧ k = 11)) from by omega), FX_r f (show ¬ (a1 + 1 = c0 + 1 ∨ a1 + 1 = c0 + 2 ∨ a1 + 1 = c0 + 3 ∨ a1 + 1 = c0 + 4 ∨ a1 + 1 = c0 + 5 ∨ a1 + 1 = c0 + 6 ∨ a1 + 1 = c0 + 7) from by omega) (show ¬ ((a1 + 1 = c0 ∧ k = 1) ∨ (a1 + 1 = c0 ∧ k = 3) ∨ (a1 + 1 = c0 ∧ k = 9) ∨ (a1 + 1 = c0 ∧ k = 10) ∨ (a1 + 1 = c0 ∧ k = 11)) from by omega)⟩) e1 e2 e3 e4 e5 e6 cq
  have U42 := T 9
  have f0 : FX (fun id => id = c0 + 1 ∨ id = c0 + 2 ∨ id = c0 + 3 ∨ id = c0 + 4 ∨ id = c0 + 5 ∨ id = c0 + 6 ∨ id = c0 + 7) (fun id k => (id = c0 ∧ k = 1) ∨ (id = c0 ∧ k = 3) ∨ (id = c0 ∧ k = 9) ∨ (id = c0 ∧ k = 10) ∨ (id = c0 ∧ k = 11)) σ0 σ0 := FX_rf
  have H := H0
  unfold F_X1_becomes at H
  refine s_X1_becomes_0 C hN hc0 ha1 ?_
  intro s1 e1
  replace H := f_l e1 H
  intro s2 e2
  replace H := f_l e2 H
  intro s3 e3
  replace H := f_l e3 H
  have b1 := XI_c1 m0 (lim_C0_1 ha1)
  have m1 : XI (mV M) s1 := by rw [e1]; exact XIs_b m0 (lim_C0_1 hc0) b1.1 b1.2
  have b2 := XI_c1 m1 (lim_C0_3 ha1)
  have m2 : XI (mV M) s2 := by rw [e2]; exact XIs_b m1 (lim_C0_3 hc0) b2.1 b2.2
  have b3 := XI_c1 m2 (lim_C0_9 ha1)
  have m3 : XI (mV M) s3 := by rw [e3]; exact XIs_b m2 (lim_C0_9 hc0) b3.1 b3.2
  have f1 : FX (fun id => id = c0 + 1 ∨ id = c0 + 2 ∨ id = c0 + 3 ∨ id = c0 + 4 ∨ id = c0 + 5 ∨ id = c0 + 6 ∨ id = c0 + 7) (fun id k => (id = c0 ∧ k = 1) ∨ (id = c0 ∧ k = 3) ∨ (id = c0 ∧ k = 9) ∨ (id = c0 ∧ k = 10) ∨ (id = c0 ∧ k = 11)) σ0 s1 := by rw [e1]; exact FX_si f0 (Or.inr (show (c0 = c0 ∧ 1 = 1) ∨ (c0 = c0 ∧ 1 = 3) ∨ (c0 = c0 ∧ 1 = 9) ∨ (c0 = c0 ∧ 1 = 10) ∨ (c0 = c0 ∧ 1 = 11) from by omega))
  have f2 : FX (fun id => id = c0 + 1 ∨ id = c0 + 2 ∨ id = c0 + 3 ∨ id = c0 + 4 ∨ id = c0 + 5 ∨ id = c0 + 6 ∨ id = c0 + 7) (fun id k => (id = c0 ∧ k = 1) ∨ (id = c0 ∧ k = 3) ∨ (id = c0 ∧ k = 9) ∨ (id = c0 ∧ k = 10) ∨ (id = c0 ∧ k = 11)) σ0 s2 := by rw [e2]; exact FX_si f1 (Or.inr (show (c0 = c0 ∧ 3 = 1) ∨ (c0 = c0 ∧ 3 = 3) ∨ (c0 = c0 ∧ 3 = 9) ∨ (c0 = c0 ∧ 3 = 10) ∨ (c0 = c0 ∧ 3 = 11) from by omega))
  have f3 : FX (fun id => id = c0 + 1 ∨ id = c0 + 2 ∨ id = c0 + 3 ∨ id = c0 + 4 ∨ id = c0 + 5 ∨ id = c0 + 6 ∨ id = c0 + 7) (fun id k => (id = c0 ∧ k = 1) ∨ (id = c0 ∧ k = 3) ∨ (id = c0 ∧ k = 9) ∨ (id = c0 ∧ k = 10) ∨ (id = c0 ∧ k = 11)) σ0 s3 := by rw [e3]; exact FX_si f2 (Or.inr (show (c0 = c0 ∧ 9 = 1) ∨ (c0 = c0 ∧ 9 = 3) ∨ (c0 = c0 ∧ 9 = 9) ∨ (c0 = c0 ∧ 9 = 10) ∨ (c0 = c0 ∧ 9 = 11) from by omega))
  obtain ⟨f4, ef4, hf4, lf4⟩ := (m3.2.1 _ ha1).1
  refine ⟨f4, ef4, hf4, lf4, ?_⟩
  replace H := f_o ef4 H
  intro s5 e5
  replace H := f_l e5 H
  intro s6 e6
  replace H := f_l e6 H
  have m5 : XI (mV M) s5 := by
    rw [e5]
    exact XIs_r m3 (fun c hc e _ => ⟨f4, rfl, hf4, lf4⟩) (fun c hc e => by rcases hc with rfl | rfl | rfl <;> (exfalso; omega)) (fun e => by exfalso; omega) (fun q _ => by rw [kdC_0 hc0] at q; exact absurd (congrArg Prod.fst q) (by decide +kernel))
  have m6 : XI (mV M) s6 := by rw [e6]; exact XIs_n m5 (lim_C0_n hc0 _ (by decide +kernel))
  have g5 : FX (fun id => id = c0 + 1 ∨ id = c0 + 2 ∨ id = c0 + 3 ∨ id = c0 + 4 ∨ id = c0 + 5 ∨ id = c0 + 6 ∨ id = c0 + 7) (fun id k => (id = c0 ∧ k = 1) ∨ (id = c0 ∧ k = 3) ∨ (id = c0 ∧ k = 9) ∨ (id = c0 ∧ k = 10) ∨ (id = c0 ∧ k = 11)) σ0 s5 := by rw [e5]; exact FX_sr f3 (Or.inr (show (c0 = c0 ∧ 10 = 1) ∨ (c0 = c0 ∧ 10 = 3) ∨ (c0 = c0 ∧ 10 = 9) ∨ (c0 = c0 ∧ 10 = 10) ∨ (c0 = c0 ∧ 10 = 11) from by omega))
  have g6 : FX (fun id => id = c0 + 1 ∨ id = c0 + 2 ∨ id = c0 + 3 ∨ id = c0 + 4 ∨ id = c0 + 5 ∨ id = c0 + 6 ∨ id = c0 + 7) (fun id k => (id = c0 ∧ k = 1) ∨ (id = c0 ∧ k = 3) ∨ (id = c0 ∧ k = 9) ∨ (id = c0 ∧ k = 10) ∨ (id = c0 ∧ k = 11)) σ0 s6 := by rw [e6]; exact FX_si g5 (Or.inr (show (c0 = c0 ∧ 11 = 1) ∨ (c0 = c0 ∧ 11 = 3) ∨ (c0 = c0 ∧ 11 = 9) ∨ (c0 = c0 ∧ 11 = 10) ∨ (c0 = c0 ∧ 11 = 11) from by omega))
  have n1 : ∀ k, gi s1 a1 k = gi σ0 a1 k := fun k => by rw [e1, gi_si_ne (Or.inl (by omega))]
  have n2 : ∀ k, gi s2 a1 k = gi σ0 a1 k := fun k => by rw [e2, gi_si_ne (Or.inl (by omega)), n1]
  have n5 : ∀ k, gi s5 a1 k = gi σ0 a1 k := fun k => by rw [e5, gi_sr, e3, gi_si_ne (Or.inl (by omega)), n2]
  refine U42 0 (0 : Int32) s6 (by decide +kernel) rfl m6 g6 ⟨?_, ?_, ?_, ?_, ?_⟩ CQ_0 H (by decide +kernel)
  · rw [e6, gi_si_ne (Or.inr (by decide +kernel)), e5, gi_sr, e3, gi_si_ne (Or.inr (by decide +kernel)), e2, gi_si_ne (Or.inr (by decide +kernel)), e1, gi_si_eq]
  · rw [e6, gi_si_ne (Or.inr (by decide +kernel)), e5, gi_sr, e3, gi_si_ne (Or.inr (by decide +kernel)), e2, gi_si_eq, n1]
  · rw [e6, gi_si_ne (Or.inr (by decide +kernel)), e5, gi_sr, e3, gi_si_eq, n2]
  · rw [e6, gi_si_eq, n5]
  · rw [e6, gr_si, e5, gr_sr, if_pos ⟨rfl, rfl⟩, ← ef4, e3, gr_si, e2, gr_si, e1, gr_si]

