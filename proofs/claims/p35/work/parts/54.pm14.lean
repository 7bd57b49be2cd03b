noncomputable def HS (σ0 σ : Sg) : Prop := ∀ lo : Nat, OKP σ0 lo (gi σ0 74 24).toNatClampNeg (nbw σ0 (gi σ0 74 25).toNatClampNeg + 1) → OKP σ lo (gi σ 74 24).toNatClampNeg (nbw σ0 (gi σ 74 25).toNatClampNeg + 1)
theorem HS_rf {σ : Sg} : HS σ σ := fun _ q => q
theorem HS_step {σ0 σ σ1 σ3 : Sg} {v : Int32} (h : HS σ0 σ) (hq : ∀ k, gi σ 123 k = gi σ0 123 k) (e1 : σ1 = si σ 74 25 ((gi σ 74 25) - 1)) (w1 : 1 ≤ (gi σ 74 25).toInt) (t1 : ((gi σ 74 25) - 1).toInt = (gi σ 74 25).toInt - 1) (top : gi σ 123 ((gi σ 74 25) - 1).toNatClampNeg = 38 ∨ gi σ 123 ((gi σ 74 25) - 1).toNatClampNeg = 124) (hv : v = -(gi σ1 123 (gi σ1 74 25).toNatClampNeg)) (e : EMT σ1 σ3 v) (s24 : 0 ≤ (gi σ 74 24).toInt) (e24 : (gi σ3 74 24).toInt = (gi σ1 74 24).toInt + 1) (w3 : (gi σ3 74 25).toInt = (gi σ1 74 25).toInt) : HS σ0 σ3 := fun lo q0 => by
  have q := h lo q0
  have a24 : gi σ1 74 24 = gi σ 74 24 := by rw [e1, gi_si_ne (Or.inr (by decide))]
  have a25 : gi σ1 74 25 = (gi σ 74 25) - 1 := by rw [e1, gi_si_eq]
  have a123 : ∀ k, gi σ1 123 k = gi σ 123 k := fun k => by rw [e1, gi_si_ne (Or.inl (by decide))]
  have a122 : ∀ k, gi σ1 122 k = gi σ 122 k := fun k => by rw [e1, gi_si_ne (Or.inl (by decide))]
  rw [a24] at e24
  rw [a25] at w3
  have c1 := cl_eq (x := gi σ 74 25) (by omega)
  have c3 := cl_eq (x := gi σ3 74 25) (by omega)
  have c4 := cl_eq (x := (gi σ 74 25) - 1) (by omega)
  have c5 := cl_eq s24
  have c6 := cl_eq (x := gi σ3 74 24) (by omega)
  have ew : (gi σ 74 25).toNatClampNeg = (gi σ3 74 25).toNatClampNeg + 1 := by omega
  have es : (gi σ3 74 24).toNatClampNeg = (gi σ 74 24).toNatClampNeg + 1 := by omega
  have et : ((gi σ 74 25) - 1).toNatClampNeg = (gi σ3 74 25).toNatClampNeg := by omega
  rw [et] at top
  rw [ew, nbw_y (by rw [← hq]; exact top)] at q
  rw [es]
  obtain ⟨f1, f2⟩ := e
  rw [a24] at f1 f2
  have fv : gi σ3 122 (gi σ 74 24).toNatClampNeg = -38 ∨ gi σ3 122 (gi σ 74 24).toNatClampNeg = -124 := by
    rw [f1, hv, a25, a123, et]
    rcases top with z | z <;> rw [z]
    · exact Or.inl rfl
    · exact Or.inr rfl
  have q2 : OKP σ3 lo (gi σ 74 24).toNatClampNeg (nbw σ0 (gi σ3 74 25).toNatClampNeg + 1 + 1) := OKP_eq (fun k hk => by rw [f2 k (by omega), a122]) q
  refine OKP_emit q2 (fun z => ?_) (fun _ _ => ⟨by omega, rfl⟩) (fun z => ?_)
  · rcases fv with y | y <;> rw [y] at z <;> exact absurd z (by decide)
  · rcases fv with y | y <;> rw [y] at z <;> exact absurd z (by decide)
set_option maxRecDepth 100000 in
set_option maxHeartbeats 4000000 in
theorem k_X12_settle {l : Launch} {V : Vx} {a1 : Int32} {σ0 : Sg} {Qk : Sg → Prop} (m0 : MI σ0) (pre0 : (gi σ0 74 12).toInt < (gi σ0 74 11).toInt) (pre1 : (gi σ0 74 50).toInt < (gi σ0 74 11).toInt) (pre2 : 100 * (gi σ0 74 11).toInt ≤ (gi σ0 74 24).toInt) (pre3 : (gi σ0 74 24).toInt + (gi σ0 74 25).toInt ≤ 599) (h9ret : ∀ (σ' : Sg), MI σ' → Fr [74, 122] [24, 25] σ0 σ' → (HS σ0 σ') → ((gi σ' 74 24).toInt + (gi σ' 74 25).toInt = (gi σ0 74 24).toInt + (gi σ0 74 25).toInt) → ((gi σ' 74 25).toInt ≤ (gi σ0 74 25).toInt) → (nbw σ' (gi σ' 74 25).toNatClampNeg = nbw σ0 (gi σ' 74 25).toNatClampNeg) → ((gi σ' 74 25).toInt = 0 ∨ (¬ gi σ' 123 ((gi σ' 74 25) - (1 : Int32)).toNatClampNeg = 38 ∧ (¬ a1 = 38 → ¬ gi σ' 123 ((gi σ' 74 25) - (1 : Int32)).toNatClampNeg = 124))) → (BL σ0 σ') → ((gi σ0 74 24).toInt ≤ (gi σ' 74 24).toInt) → Qk σ') : K_X12_settle l V a1 σ0 Qk := by
  refine e_X12_settle (fun M hl hV hN C => ?_)
  subst hl
  subst hV
  have T : ∀ n : Nat, (∀ (x1 : Int32) (σ : Sg), MI σ → Fr [74, 122] [24, 25] σ0 σ → (x1 = a1) → (HS σ0 σ) → ((gi σ 74 24).toInt + (gi σ 74 25).toInt = (gi σ0 74 24).toInt + (gi σ0 74 25).toInt) → ((gi σ 74 25).toInt ≤ (gi σ0 74 25).toInt) → (100 * (gi σ 74 11).toInt ≤ (gi σ 74 24).toInt) → ((gi σ 74 12).toInt < (gi σ 74 11).toInt) → ((gi σ 74 50).toInt < (gi σ 74 11).toInt) → (BL σ0 σ) → ((gi σ0 74 24).toInt ≤ (gi σ 74 24).toInt) → (gi σ 74 25).toInt.toNat * 2 + 1 < n → PS M 0 [(0, .ref 74), (1, .int x1)] [] σ (0, 0)) ∧ (∀ (x1 : Int32) (σ : Sg), MI σ → Fr [74, 122] [24, 25] σ0 σ → (x1 = a1) → (HS σ0 σ) → ((gi σ 74 24).toInt + (gi σ 74 25).toInt = (gi σ0 74 24).toInt + (gi σ0 74 25).toInt) → ((gi σ 74 25).toInt ≤ (gi σ0 74 25).toInt) → (100 * (gi σ 74 11).toInt ≤ (gi σ 74 24).toInt) → ((gi σ 74 12).toInt < (gi σ 74 11).toInt) → ((gi σ 74 50).toInt < (gi σ 74 11).toInt) → (BL σ0 σ) → ((gi σ0 74 24).toInt ≤ (gi σ 74 24).toInt) → (1 ≤ (gi σ 74 25).toInt) → (gi σ 123 ((gi σ 74 25) - (1 : Int32)).toNatClampNeg = 38 ∨ gi σ 123 ((gi σ 74 25) - (1 : Int32)).toNatClampNeg = 124) → (gi σ 74 25).toInt.toNat * 2 < n → PS M 45 [(0, .ref 74), (1, .int x1)] [] σ (0, 0)) := by
    intro n
    induction n with
    | zero => exact ⟨fun _ _ _ _ _ _ _ _ _ _ _ _ _ h8 => absurd h8 (Nat.not_lt_zero _), fun _ _ _ _ _ _ _ _ _ _ _ _ _ _ _ h8 => absurd h8 (Nat.not_lt_zero _)⟩
    | succ n ih =>
      obtain ⟨ih0, ih45⟩ := ih
      refine ⟨?_, ?_⟩
      · intro x1 σ mσ fσ i0 i1 i2 i3 i4 i5 i6 i7 i8 hmu
        have mw24 := MI_f24 mσ
        have mw25 := MI_f25 mσ
        refine s_X12_settle_0 C hN ?_
        refine ⟨?_, ?_⟩
        · intro q_1
          have t_2 := MI_f25 mσ
          have b_3 : (gi σ 74 25).toInt ≤ 0 := Int32.le_iff_toInt_le.mp q_1
          exact h9ret σ mσ fσ (by assumption) (by first | omega | assumption | rfl) (by first | omega | assumption | rfl) (nbw_eq (fun k _ => congrFun (fσ.1 123 (by decide)).1 k)) (by first | (left; omega) | exact Or.inr ⟨by assumption, fun _ => by assumption⟩ | exact Or.inr ⟨by assumption, fun z => absurd (i0.symm.trans (by assumption)) z⟩) (by first | omega | assumption | rfl) (by first | omega | assumption | rfl)
        · intro q_1
          have t_4 := MI_f25 mσ
          have b_5 : ¬ (gi σ 74 25).toInt ≤ 0 := fun h9 => q_1 (Int32.le_iff_toInt_le.mpr h9)
          have t_6 : ((gi σ 74 25) - (1 : Int32)).toInt = (gi σ 74 25).toInt - 1 := i_sub (x := (gi σ 74 25)) (y := (1 : Int32)) (by show (_ : Int) ≤ (gi σ 74 25).toInt - 1; omega) (by show (gi σ 74 25).toInt - 1 ≤ (_ : Int); omega)
          have hv_7 : vp_in ((gi σ 74 25) - (1 : Int32)) 101 := vp_in_iff.mpr ⟨by omega, by omega⟩
          refine ⟨hv_7, ?_⟩
          refine ⟨?_, ?_⟩
          · intro q_8
            have b_9 : (gi σ 123 ((gi σ 74 25) - (1 : Int32)).toNatClampNeg).toInt = 38 := congrArg Int32.toInt q_8
            exact ih45 x1 σ mσ fσ (by first | omega | assumption | rfl) (by first | omega | assumption | rfl) (by first | omega | assumption | rfl) (by first | omega | assumption | rfl) (by first | omega | assumption | rfl) (by first | omega | assumption | rfl) (by first | omega | assumption | rfl) (by assumption) (by first | omega | assumption | rfl) (by first | omega | assumption | rfl) (by first | (left; assumption) | (right; assumption)) (by omega)
          · intro q_8
            have b_10 : ¬ (gi σ 123 ((gi σ 74 25) - (1 : Int32)).toNatClampNeg).toInt = 38 := fun h9 => q_8 (Int32.toInt_inj.mp h9)
            refine ⟨hv_7, ?_⟩
            refine ⟨?_, ?_⟩
            · intro q_11
              have b_12 : ¬ (gi σ 123 ((gi σ 74 25) - (1 : Int32)).toNatClampNeg).toInt = 124 := fun h9 => q_11 (Int32.toInt_inj.mp h9)
              exact h9ret σ mσ fσ (by assumption) (by first | omega | assumption | rfl) (by first | omega | assumption | rfl) (nbw_eq (fun k _ => congrFun (fσ.1 123 (by decide)).1 k)) (by first | (left; omega) | exact Or.inr ⟨by assumption, fun _ => by assumption⟩ | exact Or.inr ⟨by assumption, fun z => absurd (i0.symm.trans (by assumption)) z⟩) (by first | omega | assumption | rfl) (by first | omega | assumption | rfl)
            · intro q_11
              have b_13 : (gi σ 123 ((gi σ 74 25) - (1 : Int32)).toNatClampNeg).toInt = 124 := congrArg Int32.toInt q_11
              refine ⟨?_, ?_⟩
              · intro q_14
                have w_15 := Int32.toInt_lt x1
                have w_16 := Int32.le_toInt x1
                have b_17 : x1.toInt = 38 := congrArg Int32.toInt q_14
                exact h9ret σ mσ fσ (by assumption) (by first | omega | assumption | rfl) (by first | omega | assumption | rfl) (nbw_eq (fun k _ => congrFun (fσ.1 123 (by decide)).1 k)) (by first | (left; omega) | exact Or.inr ⟨by assumption, fun _ => by assumption⟩ | exact Or.inr ⟨by assumption, fun z => absurd (i0.symm.trans (by assumption)) z⟩) (by first | omega | assumption | rfl) (by first | omega | assumption | rfl)
              · intro q_14
                have w_18 := Int32.toInt_lt x1
                have w_19 := Int32.le_toInt x1
                have b_20 : ¬ x1.toInt = 38 := fun h9 => q_14 (Int32.toInt_inj.mp h9)
                exact ih45 x1 σ mσ fσ (by first | omega | assumption | rfl) (by first | omega | assumption | rfl) (by first | omega | assumption | rfl) (by first | omega | assumption | rfl) (by first | omega | assumption | rfl) (by first | omega | assumption | rfl) (by first | omega | assumption | rfl) (by assumption) (by first | omega | assumption | rfl) (by first | omega | assumption | rfl) (by first | (left; assumption) | (right; assumption)) (by omega)
      · intro x1 σ mσ fσ i0 i1 i2 i3 i4 i5 i6 i7 i8 i9 i10 hmu
        have mw24 := MI_f24 mσ
        have mw25 := MI_f25 mσ
        refine s_X12_settle_45 C hN ?_
        intro σ1 eσ1
        have t_21 := MI_f25 mσ
        have t_22 : ((gi σ 74 25) - (1 : Int32)).toInt = (gi σ 74 25).toInt - 1 := i_sub (x := (gi σ 74 25)) (y := (1 : Int32)) (by show (_ : Int) ≤ (gi σ 74 25).toInt - 1; omega) (by show (gi σ 74 25).toInt - 1 ≤ (_ : Int); omega)
        have mσ1 : MI σ1 := by rw [eσ1]; exact MIs_f25 mσ (by omega) (by omega)
        have fσ1 : Fr [74, 122] [24, 25] σ0 σ1 := by rw [eσ1]; exact Fr_si fσ (by decide) (fun _ => by decide)
        have k_23 : (gi σ1 74 11).toInt = (gi σ 74 11).toInt := by rw [eσ1]; exact congrArg Int32.toInt (gi_si_ne (Or.inr (by decide)))
        have k_24 : (gi σ1 74 12).toInt = (gi σ 74 12).toInt := by rw [eσ1]; exact congrArg Int32.toInt (gi_si_ne (Or.inr (by decide)))
        have k_25 : (gi σ1 74 14).toInt = (gi σ 74 14).toInt := by rw [eσ1]; exact congrArg Int32.toInt (gi_si_ne (Or.inr (by decide)))
        have k_26 : (gi σ1 74 24).toInt = (gi σ 74 24).toInt := by rw [eσ1]; exact congrArg Int32.toInt (gi_si_ne (Or.inr (by decide)))
        have k_27 : (gi σ1 74 25).toInt = ((gi σ 74 25) - (1 : Int32)).toInt := by rw [eσ1]; exact congrArg Int32.toInt gi_si_eq
        have k_28 : (gi σ1 74 50).toInt = (gi σ 74 50).toInt := by rw [eσ1]; exact congrArg Int32.toInt (gi_si_ne (Or.inr (by decide)))
        have t_29 := MI_f25 mσ1
        have hv_30 : vp_in (gi σ1 74 25) 101 := vp_in_iff.mpr ⟨by omega, by omega⟩
        refine ⟨hv_30, ?_⟩
        refine k_X12_emits mσ1 (by first | omega | assumption | rfl) (by first | omega | assumption | rfl) (by first | omega | assumption | rfl) (by first | omega | assumption | rfl) (fun σ3 mσ3 cσ3 (pσ3_0 : (gi σ3 74 24).toInt = (gi σ1 74 24).toInt + 1) (pσ3_1 : EMT σ1 σ3 (-(gi σ1 123 (gi σ1 74 25).toNatClampNeg))) => ?_)
        have fσ3 : Fr [74, 122] [24, 25] σ0 σ3 := Fr_tr fσ1 cσ3 (by decide) (by decide)
        have k_31 : (gi σ3 74 11).toInt = (gi σ1 74 11).toInt := congrArg Int32.toInt (cσ3.2.1 11 (by decide))
        have k_32 : (gi σ3 74 12).toInt = (gi σ1 74 12).toInt := congrArg Int32.toInt (cσ3.2.1 12 (by decide))
        have k_33 : (gi σ3 74 14).toInt = (gi σ1 74 14).toInt := congrArg Int32.toInt (cσ3.2.1 14 (by decide))
        have k_34 : (gi σ3 74 25).toInt = (gi σ1 74 25).toInt := congrArg Int32.toInt (cσ3.2.1 25 (by decide))
        have k_35 : (gi σ3 74 50).toInt = (gi σ1 74 50).toInt := congrArg Int32.toInt (cσ3.2.1 50 (by decide))
        exact ih0 x1 σ3 mσ3 fσ3 (by first | rfl | assumption) (by first | exact HS_rf | assumption | exact HS_step i1 (fun k => congrFun (fσ.1 123 (by decide)).1 k) eσ1 (by omega) (by omega) i10 rfl pσ3_1 (by omega) (by omega) (by omega)) (by first | omega | assumption | rfl) (by first | omega | assumption | rfl) (by first | omega | assumption | rfl) (by first | omega | assumption | rfl) (by first | omega | assumption | rfl) (by first | exact BL_rf | assumption | exact BL_emit (fun k hk => by rw [eσ1, gi_si_ne (Or.inl (by decide))]; exact i7 k hk) pσ3_1 (by omega) (by omega) (fun _ => rfl)) (by first | omega | assumption | rfl) (by omega)
  obtain ⟨U0, U45⟩ := T 400
  have f0 : Fr [74, 122] [24, 25] σ0 σ0 := Fr_rf
  have mw24 := MI_f24 m0
  have mw25 := MI_f25 m0
  exact U0 a1 σ0 m0 f0 (by first | rfl | assumption) (by first | exact HS_rf | assumption | exact HS_step i1 (fun k => congrFun (fσ0.1 123 (by decide)).1 k) eσ1 (by omega) (by omega) i10 rfl pσ3_1 (by omega) (by omega) (by omega)) (by first | omega | assumption | rfl) (by first | omega | assumption | rfl) (by first | omega | assumption | rfl) (by first | omega | assumption | rfl) (by first | omega | assumption | rfl) (by first | exact BL_rf | assumption | exact BL_emit (fun k hk => by rw [eσ1, gi_si_ne (Or.inl (by decide))]; exact i7 k hk) pσ3_1 (by omega) (by omega) (fun _ => rfl)) (by first | omega | assumption | rfl) (by omega)
