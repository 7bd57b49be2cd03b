noncomputable def F_X5_isFull (c0 : Nat) (σ : Sg) : Int32 × Sg := (if (gi σ c0 1) < (Int32.ofNat (nl c0)) then ((0 : Int32), σ) else ((1 : Int32), σ))
set_option maxRecDepth 100000 in
set_option maxHeartbeats 4000000 in
theorem kF_X5_isFull {l : Launch} {V : Vx} {c0 : Nat} {σ0 : Sg} {Qk : Int32 → Sg → Prop} (hc0 : isN c0) (m0 : XI V σ0) (h9ret : ∀ (r : Int32) (σ' : Sg), XI V σ' → FX (fun id => False) (fun _ _ => False) σ0 σ' → (0 ≤ r.toInt) → (r.toInt ≤ 1) → ((r.toInt = 1 ∧ (nl c0 : Int) ≤ (gi σ0 c0 1).toInt) ∨ (r.toInt = 0 ∧ (gi σ0 c0 1).toInt < (nl c0 : Int))) → (F_X5_isFull c0 σ0 = (r, σ')) → Qk r σ') : K_X5_isFull l V c0 σ0 Qk := by
  refine e_X5_isFull (fun M hl hV hN C => ?_)
  subst hl
  subst hV
  obtain ⟨R9, H0⟩ : ∃ R9, F_X5_isFull c0 σ0 = R9 := ⟨_, rfl⟩
  have oc0 : hid (c0 = 9 ∨ c0 = 11 ∨ c0 = 13 ∨ c0 = 25 ∨ c0 = 27 ∨ c0 = 29 ∨ c0 = 41 ∨ c0 = 43 ∨ c0 = 45 ∨ c0 = 64) := hc0
  have f0 : FX (fun id => False) (fun _ _ => False) σ0 σ0 := FX_rf
  have t_1 := XI_c1 m0 (lim_N hc0)
  have t_2 := nl_le hc0
  have H := H0
  unfold F_X5_isFull at H
  refine s_X5_isFull_0 C hN hc0 ?_
  refine ⟨?_, ?_⟩
  · intro q_3
    replace H := f_t q_3 H
    have t_4 := ofNat_nl hc0
    have t_5 := nl_le hc0
    have b_6 : (gi σ0 c0 1).toInt < (Int32.ofNat (nl c0)).toInt := Int32.lt_iff_toInt_lt.mp q_3
    have z_7 : (0 : Int32).toInt = 0 := rfl
    exact h9ret (0 : Int32) σ0 m0 f0 (by omega) (by omega) (by first | omega | assumption | rfl) (H0.trans H.symm)
  · intro q_3
    replace H := f_f q_3 H
    have t_8 := ofNat_nl hc0
    have t_9 := nl_le hc0
    have b_10 : ¬ (gi σ0 c0 1).toInt < (Int32.ofNat (nl c0)).toInt := fun h9 => q_3 (Int32.lt_iff_toInt_lt.mpr h9)
    have z_11 : (1 : Int32).toInt = 1 := rfl
    exact h9ret (1 : Int32) σ0 m0 f0 (by omega) (by omega) (by first | omega | assumption | rfl) (H0.trans H.symm)
noncomputable def F_X5_has (c0 : Nat) (a1 : Int32) (σ : Sg) : Int32 × Sg := (if a1 < 0 then ((0 : Int32), σ) else (if (gi σ c0 1) ≤ a1 then ((0 : Int32), σ) else (if (Int32.ofNat (nl c0)) ≤ a1 then ((0 : Int32), σ) else ((1 : Int32), σ))))
set_option maxRecDepth 100000 in
set_option maxHeartbeats 4000000 in
theorem kF_X5_has {l : Launch} {V : Vx} {c0 : Nat} {a1 : Int32} {σ0 : Sg} {Qk : Int32 → Sg → Prop} (hc0 : isN c0) (m0 : XI V σ0) (h9ret : ∀ (r : Int32) (σ' : Sg), XI V σ' → FX (fun id => False) (fun _ _ => False) σ0 σ' → (0 ≤ r.toInt) → (r.toInt ≤ 1) → ((r.toInt = 1 ∧ 0 ≤ a1.toInt ∧ a1.toInt < (gi σ0 c0 1).toInt ∧ a1.toInt < (nl c0 : Int)) ∨ r.toInt = 0) → (F_X5_has c0 a1 σ0 = (r, σ')) → Qk r σ') : K_X5_has l V c0 a1 σ0 Qk := by
  refine e_X5_has (fun M hl hV hN C => ?_)
  subst hl
  subst hV
  obtain ⟨R9, H0⟩ : ∃ R9, F_X5_has c0 a1 σ0 = R9 := ⟨_, rfl⟩
  have oc0 : hid (c0 = 9 ∨ c0 = 11 ∨ c0 = 13 ∨ c0 = 25 ∨ c0 = 27 ∨ c0 = 29 ∨ c0 = 41 ∨ c0 = 43 ∨ c0 = 45 ∨ c0 = 64) := hc0
  have f0 : FX (fun id => False) (fun _ _ => False) σ0 σ0 := FX_rf
  have t_1 := XI_c1 m0 (lim_N hc0)
  have t_2 := nl_le hc0
  have H := H0
  unfold F_X5_has at H
  refine s_X5_has_0 C hN hc0 ?_
  refine ⟨?_, ?_⟩
  · intro q_3
    replace H := f_t q_3 H
    have w_4 := Int32.toInt_lt a1
    have w_5 := Int32.le_toInt a1
    have b_6 : a1.toInt < 0 := Int32.lt_iff_toInt_lt.mp q_3
    have z_7 : (0 : Int32).toInt = 0 := rfl
    exact h9ret (0 : Int32) σ0 m0 f0 (by omega) (by omega) (by first | omega | assumption | rfl) (H0.trans H.symm)
  · intro q_3
    replace H := f_f q_3 H
    have w_8 := Int32.toInt_lt a1
    have w_9 := Int32.le_toInt a1
    have b_10 : ¬ a1.toInt < 0 := fun h9 => q_3 (Int32.lt_iff_toInt_lt.mpr h9)
    refine ⟨?_, ?_⟩
    · intro q_11
      replace H := f_t q_11 H
      have b_12 : (gi σ0 c0 1).toInt ≤ a1.toInt := Int32.le_iff_toInt_le.mp q_11
      have z_13 : (0 : Int32).toInt = 0 := rfl
      exact h9ret (0 : Int32) σ0 m0 f0 (by omega) (by omega) (by first | omega | assumption | rfl) (H0.trans H.symm)
    · intro q_11
      replace H := f_f q_11 H
      have b_14 : ¬ (gi σ0 c0 1).toInt ≤ a1.toInt := fun h9 => q_11 (Int32.le_iff_toInt_le.mpr h9)
      refine ⟨?_, ?_⟩
      · intro q_15
        replace H := f_t q_15 H
        have t_16 := ofNat_nl hc0
        have t_17 := nl_le hc0
        have b_18 : (Int32.ofNat (nl c0)).toInt ≤ a1.toInt := Int32.le_iff_toInt_le.mp q_15
        have z_19 : (0 : Int32).toInt = 0 := rfl
        exact h9ret (0 : Int32) σ0 m0 f0 (by omega) (by omega) (by first | omega | assumption | rfl) (H0.trans H.symm)
      · intro q_15
        replace H := f_f q_15 H
        have t_20 := ofNat_nl hc0
        have t_21 := nl_le hc0
        have b_22 : ¬ (Int32.ofNat (nl c0)).toInt ≤ a1.toInt := fun h9 => q_15 (Int32.le_iff_toInt_le.mpr h9)
        have z_23 : (1 : Int32).toInt = 1 := rfl
        exact h9ret (1 : Int32) σ0 m0 f0 (by omega) (by omega) (by first | omega | assumption | rfl) (H0.trans H.symm)
noncomputable def F_X5_comes (c0 : Nat) (a1 : Int32) (σ : Sg) : Sg := (if (Int32.ofNat (nl c0)) ≤ (gi σ c0 1) then fl (si σ c0 1 ((gi σ c0 1) + (1 : Int32))) (fun σ2 => σ2) else fl (si σ (c0 + 1) (gi σ c0 1).toNatClampNeg a1) (fun σ4 => fl (si σ4 c0 1 ((gi σ4 c0 1) + (1 : Int32))) (fun σ5 => σ5)))
set_option maxRecDepth 100000 in
set_option maxHeartbeats 4000000 in
theorem kF_X5_comes {l : Launch} {V : Vx} {c0 : Nat} {a1 : Int32} {σ0 : Sg} {Qk : Sg → Prop} (hc0 : isN c0) (m0 : XI V σ0) (pre0 : (gi σ0 c0 1).toInt + 1 ≤ capI c0) (pre1 : okNum c0 (gi σ0 c0 1) a1) (h9ret : ∀ (σ' : Sg), XI V σ' → FX (fun id => id = c0 + 1) (fun id k => (id = c0 ∧ k = 1)) σ0 σ' → ((gi σ' c0 1).toInt = (gi σ0 c0 1).toInt + 1) → (F_X5_comes c0 a1 σ0 = σ') → Qk σ') : K_X5_comes l V c0 a1 σ0 Qk := by
  refine e_X5_comes (fun M hl hV hN C => ?_)
  subst hl
  subst hV
  obtain ⟨R9, H0⟩ : ∃ R9, F_X5_comes c0 a1 σ0 = R9 := ⟨_, rfl⟩
  have oc0 : hid (c0 = 9 ∨ c0 = 11 ∨ c0 = 13 ∨ c0 = 25 ∨ c0 = 27 ∨ c0 = 29 ∨ c0 = 41 ∨ c0 = 43 ∨ c0 = 45 ∨ c0 = 64) := hc0
  have f0 : FX (fun id => id = c0 + 1) (fun id k => (id = c0 ∧ k = 1)) σ0 σ0 := FX_rf
  have t_1 := XI_c1 m0 (lim_N hc0)
  have t_2 := nl_le hc0
  have hs := cl_eq (x := gi σ0 c0 1) (by omega)
  have H := H0
  unfold F_X5_comes at H
  refine s_X5_comes_0 C hN hc0 ?_
  refine ⟨?_, ?_⟩
  · intro q_3
    replace H := f_t q_3 H
    have t_4 := ofNat_nl hc0
    have t_5 := nl_le hc0
    have b_6 : (Int32.ofNat (nl c0)).toInt ≤ (gi σ0 c0 1).toInt := Int32.le_iff_toInt_le.mp q_3
    intro σ2 eσ2
    replace H := f_l eσ2 H
    have t_7 : ((gi σ0 c0 1) + (1 : Int32)).toInt = (gi σ0 c0 1).toInt + 1 := i_add (x := (gi σ0 c0 1)) (y := (1 : Int32)) (by show (_ : Int) ≤ (gi σ0 c0 1).toInt + 1; omega) (by show (gi σ0 c0 1).toInt + 1 ≤ (_ : Int); omega)
    have mσ2 : XI (mV M) σ2 := by rw [eσ2]; exact XIs_b m0 (lim_N hc0) (by omega) (by omega)
    have fσ2 : FX (fun id => id = c0 + 1) (fun id k => (id = c0 ∧ k = 1)) σ0 σ2 := by rw [eσ2]; exact FX_si f0 (Or.inr (show (c0 = c0 ∧ 1 = 1) from ⟨rfl, rfl⟩))
    have k_8 : (gi σ2 c0 1).toInt = ((gi σ0 c0 1) + (1 : Int32)).toInt := by rw [eσ2]; exact congrArg Int32.toInt gi_si_eq
    exact h9ret σ2 mσ2 fσ2 (by first | omega | assumption | rfl) (H0.trans H.symm)
  · intro q_3
    replace H := f_f q_3 H
    have t_9 := ofNat_nl hc0
    have t_10 := nl_le hc0
    have b_11 : ¬ (Int32.ofNat (nl c0)).toInt ≤ (gi σ0 c0 1).toInt := fun h9 => q_3 (Int32.le_iff_toInt_le.mpr h9)
    have hv_12 : vp_in (gi σ0 c0 1) (nl c0) := vp_in_iff.mpr ⟨by omega, by omega⟩
    refine ⟨hv_12, ?_⟩
    intro σ4 eσ4
    replace H := f_l eσ4 H
    have mσ4 : XI (mV M) σ4 := by rw [eσ4]; exact XIs_Nr m0 hc0 (okNum_in pre1 hs)
    have fσ4 : FX (fun id => id = c0 + 1) (fun id k => (id = c0 ∧ k = 1)) σ0 σ4 := by rw [eσ4]; exact FX_si f0 (Or.inl (show c0 + 1 = c0 + 1 from rfl))
    have k_13 : (gi σ4 c0 1).toInt = (gi σ0 c0 1).toInt := by rw [eσ4]; exact congrArg Int32.toInt (gi_si_ne (Or.inl (by first | omega | (have uoc0 := un oc0; omega))))
    intro σ5 eσ5
    replace H := f_l eσ5 H
    have t_14 := XI_c1 mσ4 (lim_N hc0)
    have t_15 := nl_le hc0
    have t_16 : ((gi σ4 c0 1) + (1 : Int32)).toInt = (gi σ4 c0 1).toInt + 1 := i_add (x := (gi σ4 c0 1)) (y := (1 : Int32)) (by show (_ : Int) ≤ (gi σ4 c0 1).toInt + 1; omega) (by show (gi σ4 c0 1).toInt + 1 ≤ (_ : Int); omega)
    have mσ5 : XI (mV M) σ5 := by rw [eσ5]; exact XIs_b mσ4 (lim_N hc0) (by omega) (by omega)
    have fσ5 : FX (fun id => id = c0 + 1) (fun id k => (id = c0 ∧ k = 1)) σ0 σ5 := by rw [eσ5]; exact FX_si fσ4 (Or.inr (show (c0 = c0 ∧ 1 = 1) from ⟨rfl, rfl⟩))
    have k_17 : (gi σ5 c0 1).toInt = ((gi σ4 c0 1) + (1 : Int32)).toInt := by rw [eσ5]; exact congrArg Int32.toInt gi_si_eq
    exact h9ret σ5 mσ5 fσ5 (by first | omega | assumption | rfl) (H0.trans H.symm)
noncomputable def F_X4_mowing (c0 : Nat) (a1 : Int32) (a2 : Nat) (σ : Sg) : Int32 × Sg := fl (F_X5_comes a2 (10 : Int32) σ) (fun σ1 => (a1 + (gi σ1 c0 1), σ1))
set_option maxRecDepth 100000 in
set_option maxHeartbeats 4000000 in
theorem kF_X4_mowing {l : Launch} {V : Vx} {c0 : Nat} {a1 : Int32} {a2 : Nat} {σ0 : Sg} {Qk : Int32 → Sg → Prop} {ci0 : Nat} (sc0 : ci0 = 0 ∨ ci0 = 3 ∨ ci0 = 4 ∨ ci0 = 6 ∨ ci0 = 7 ∨ ci0 = 8 ∨ ci0 = 10) (hc0 : kd c0 = (10 + ci0, 0)) (lc0 : c0 ∈ ids (V)) (ha2 : isN a2) (m0 : XI V σ0) (pre0 : a2 = 64) (pre1 : (gi σ0 a2 1).toInt ≤ 999) (h9ret : ∀ (r : Int32) (σ' : Sg), XI V σ' → FX (fun id => id = a2 + 1) (fun id k => (id = a2 ∧ k = 1)) σ0 σ' → ((gi σ' a2 1).toInt ≤ (gi σ0 a2 1).toInt + 1) → (F_X4_mowing c0 a1 a2 σ0 = (r, σ')) → Qk r σ') : K_X4_mowing l V c0 a1 a2 σ0 Qk := by
  refine e_X4_mowing (fun M hl hV hN C => ?_)
  subst hl
  subst hV
  obtain ⟨R9, H0⟩ : ∃ R9, F_X4_mowing c0 a1 a2 σ0 = R9 := ⟨_, rfl⟩
  have ic0 : isMc ci0 := by rcases sc0 with rfl | rfl | rfl | rfl | rfl | rfl | rfl <;> decide
  have gc0 := kdM_ge ic0 hc0
  have oa2 : hid (a2 = 9 ∨ a2 = 11 ∨ a2 = 13 ∨ a2 = 25 ∨ a2 = 27 ∨ a2 = 29 ∨ a2 = 41 ∨ a2 = 43 ∨ a2 = 45 ∨ a2 = 64) := ha2
  have hcap : capI a2 = 1000 := by rw [pre0]; rfl
  have f0 : FX (fun id => id = a2 + 1) (fun id k => (id = a2 ∧ k = 1)) σ0 σ0 := FX_rf
  have t_1 := XI_c1 m0 (lim_N ha2)
  have t_2 := nl_le ha2
  have t_3 := XI_c1 m0 (id := c0) (k := 1) (lim_M0_1 ic0 hc0)
  have H := H0
  unfold F_X4_mowing at H
  refine s_X4_mowing_0 C hN sc0 hc0 lc0 ha2 ?_
  have z_4 : (10 : Int32).toInt = 10 := rfl
  refine kF_X5_comes ha2 m0  (by omega) (by rw [pre0]; exact okNum_64) (fun σ1 mσ1 cσ1 (pσ1_0 : (gi σ1 a2 1).toInt = (gi σ0 a2 1).toInt + 1) hσ1 => ?_)
  replace H := f_v hσ1 H
  have fσ1 : FX (fun id => id = a2 + 1) (fun id k => (id = a2 ∧ k = 1)) σ0 σ1 := FX_tr f0 cσ1 (fun x (h9 : x = a2 + 1) => (show x = a2 + 1 from h9)) (fun x k (h9 : (x = a2 ∧ k = 1)) => (show (x = a2 + 1) ∨ ((x = a2 ∧ k = 1)) from Or.inr (show (x = a2 ∧ k = 1) from h9)))
  have t_5 := XI_c1 mσ1 (lim_N ha2)
  have t_6 := nl_le ha2
  have k_7 : (gi σ1 c0 1).toInt = (gi σ0 c0 1).toInt := congrArg Int32.toInt (FX_i cσ1 (show ¬ (c0 = a2 + 1) from by first | omega | (have uoa2 := un oa2; omega)) (show ¬ ((c0 = a2 ∧ 1 = 1)) from by first | omega | (have uoa2 := un oa2; omega)))
  have w_8 := Int32.toInt_lt a1
  have w_9 := Int32.le_toInt a1
  have t_10 := XI_c1 mσ1 (id := c0) (k := 1) (lim_M0_1 ic0 hc0)
  try have t_11 : (a1 + (gi σ1 c0 1)).toInt = a1.toInt + (gi σ1 c0 1).toInt := i_add (x := a1) (y := (gi σ1 c0 1)) (by show (_ : Int) ≤ a1.toInt + (gi σ1 c0 1).toInt; omega) (by show a1.toInt + (gi σ1 c0 1).toInt ≤ (_ : Int); omega)
  exact h9ret (a1 + (gi σ1 c0 1)) σ1 mσ1 fσ1 (by first | omega | assumption | rfl) (H0.trans H.symm)
noncomputable def F_X3_mowing (c0 : Nat) (a1 : Int32) (a2 : Nat) (σ : Sg) : Int32 × Sg := fl (F_X5_comes a2 (30 : Int32) σ) (fun σ1 => fb (F_X4_mowing c0 (a1 * (3 : Int32)) a2 σ1) (fun r4 σ3 => (r4, σ3)))
set_option maxRecDepth 100000 in
set_option maxHeartbeats 4000000 in
theorem kF_X3_mowing {l : Launch} {V : Vx} {c0 : Nat} {a1 : Int32} {a2 : Nat} {σ0 : Sg} {Qk : Int32 → Sg → Prop} {ci0 : Nat} (sc0 : ci0 = 3 ∨ ci0 = 7) (hc0 : kd c0 = (10 + ci0, 0)) (lc0 : c0 ∈ ids (V)) (ha2 : isN a2) (m0 : XI V σ0) (pre0 : a2 = 64) (pre1 : (gi σ0 a2 1).toInt ≤ 998) (h9ret : ∀ (r : Int32) (σ' : Sg), XI V σ' → FX (fun id => id = a2 + 1) (fun id k => (id = a2 ∧ k = 1)) σ0 σ' → ((gi σ' a2 1).toInt ≤ (gi σ0 a2 1).toInt + 2) → (F_X3_mowing c0 a1 a2 σ0 = (r, σ')) → Qk r σ') : K_X3_mowing l V c0 a1 a2 σ0 Qk := by
  refine e_X3_mowing (fun M hl hV hN C => ?_)
  subst hl
  subst hV
  obtain ⟨R9, H0⟩ : ∃ R9, F_X3_mowing c0 a1 a2 σ0 = R9 := ⟨_, rfl⟩
  have ic0 : isMc ci0 := by rcases sc0 with rfl | rfl <;> decide
  have gc0 := kdM_ge ic0 hc0
  have oa2 : hid (a2 = 9 ∨ a2 = 11 ∨ a2 = 13 ∨ a2 = 25 ∨ a2 = 27 ∨ a2 = 29 ∨ a2 = 41 ∨ a2 = 43 ∨ a2 = 45 ∨ a2 = 64) := ha2
  have hcap : capI a2 = 1000 := by rw [pre0]; rfl
  have f0 : FX (fun id => id = a2 + 1) (fun id k => (id = a2 ∧ k = 1)) σ0 σ0 := FX_rf
  have t_1 := XI_c1 m0 (lim_N ha2)
  have t_2 := nl_le ha2
  have H := H0
  unfold F_X3_mowing at H
  refine s_X3_mowing_0 C hN sc0 hc0 lc0 ha2 ?_
  have z_3 : (30 : Int32).toInt = 30 := rfl
  refine kF_X5_comes ha2 m0  (by omega) (by rw [pre0]; exact okNum_64) (fun σ1 mσ1 cσ1 (pσ1_0 : (gi σ1 a2 1).toInt = (gi σ0 a2 1).toInt + 1) hσ1 => ?_)
  replace H := f_v hσ1 H
  have fσ1 : FX (fun id => id = a2 + 1) (fun id k => (id = a2 ∧ k = 1)) σ0 σ1 := FX_tr f0 cσ1 (fun x (h9 : x = a2 + 1) => (show x = a2 + 1 from h9)) (fun x k (h9 : (x = a2 ∧ k = 1)) => (show (x = a2 + 1) ∨ ((x = a2 ∧ k = 1)) from Or.inr (show (x = a2 ∧ k = 1) from h9)))
  have t_4 := XI_c1 mσ1 (lim_N ha2)
  have t_5 := nl_le ha2
  refine kF_X4_mowing (show ci0 = 0 ∨ ci0 = 3 ∨ ci0 = 4 ∨ ci0 = 6 ∨ ci0 = 7 ∨ ci0 = 8 ∨ ci0 = 10 from by omega) hc0 lc0 ha2 mσ1  (by first | omega | assumption | rfl) (by first | omega | assumption | rfl) (fun r4 σ3 mσ3 cσ3 (pσ3_0 : (gi σ3 a2 1).toInt ≤ (gi σ1 a2 1).toInt + 1) hσ3 => ?_)
  replace H := f_b hσ3 H
  have fσ3 : FX (fun id => id = a2 + 1) (fun id k => (id = a2 ∧ k = 1)) σ0 σ3 := FX_tr fσ1 cσ3 (fun x (h9 : x = a2 + 1) => (show x = a2 + 1 from h9)) (fun x k (h9 : (x = a2 ∧ k = 1)) => (show (x = a2 + 1) ∨ ((x = a2 ∧ k = 1)) from Or.inr (show (x = a2 ∧ k = 1) from h9)))
  have t_6 := XI_c1 mσ3 (lim_N ha2)
  have t_7 := nl_le ha2
  have w_8 := Int32.toInt_lt r4
  have w_9 := Int32.le_toInt r4
  exact h9ret r4 σ3 mσ3 fσ3 (by first | omega | assumption | rfl) (H0.trans H.symm)
noncomputable def F_X6_mowing (c0 : Nat) (a1 : Int32) (a2 : Nat) (σ : Sg) : Int32 × Sg := fl (F_X5_comes a2 (50 : Int32) σ) (fun σ1 => fb (F_X4_mowing c0 a1 a2 σ1) (fun r4 σ3 => (-r4, σ3)))
set_option maxRecDepth 100000 in
set_option maxHeartbeats 4000000 in
theorem kF_X6_mowing {l : Launch} {V : Vx} {c0 : Nat} {a1 : Int32} {a2 : Nat} {σ0 : Sg} {Qk : Int32 → Sg → Prop} {ci0 : Nat} (sc0 : ci0 = 6) (hc0 : kd c0 = (10 + ci0, 0)) (lc0 : c0 ∈ ids (V)) (ha2 : isN a2) (m0 : XI V σ0) (pre0 : a2 = 64) (pre1 : (gi σ0 a2 1).toInt ≤ 998) (h9ret : ∀ (r : Int32) (σ' : Sg), XI V σ' → FX (fun id => id = a2 + 1) (fun id k => (id = a2 ∧ k = 1)) σ0 σ' → ((gi σ' a2 1).toInt ≤ (gi σ0 a2 1).toInt + 2) → (F_X6_mowing c0 a1 a2 σ0 = (r, σ')) → Qk r σ') : K_X6_mowing l V c0 a1 a2 σ0 Qk := by
  refine e_X6_mowing (fun M hl hV hN C => ?_)
  subst hl
  subst hV
  obtain ⟨R9, H0⟩ : ∃ R9, F_X6_mowing c0 a1 a2 σ0 = R9 := ⟨_, rfl⟩
  have ic0 : isMc ci0 := by rw [sc0]; decide
  have gc0 := kdM_ge ic0 hc0
  have oa2 : hid (a2 = 9 ∨ a2 = 11 ∨ a2 = 13 ∨ a2 = 25 ∨ a2 = 27 ∨ a2 = 29 ∨ a2 = 41 ∨ a2 = 43 ∨ a2 = 45 ∨ a2 = 64) := ha2
  have hcap : capI a2 = 1000 := by rw [pre0]; rfl
  have f0 : FX (fun id => id = a2 + 1) (fun id k => (id = a2 ∧ k = 1)) σ0 σ0 := FX_rf
  have t_1 := XI_c1 m0 (lim_N ha2)
  have t_2 := nl_le ha2
  have H := H0
  unfold F_X6_mowing at H
  refine s_X6_mowing_0 C hN sc0 hc0 lc0 ha2 ?_
  have z_3 : (50 : Int32).toInt = 50 := rfl
  refine kF_X5_comes ha2 m0  (by omega) (by rw [pre0]; exact okNum_64) (fun σ1 mσ1 cσ1 (pσ1_0 : (gi σ1 a2 1).toInt = (gi σ0 a2 1).toInt + 1) hσ1 => ?_)
  replace H := f_v hσ1 H
  have fσ1 : FX (fun id => id = a2 + 1) (fun id k => (id = a2 ∧ k = 1)) σ0 σ1 := FX_tr f0 cσ1 (fun x (h9 : x = a2 + 1) => (show x = a2 + 1 from h9)) (fun x k (h9 : (x = a2 ∧ k = 1)) => (show (x = a2 + 1) ∨ ((x = a2 ∧ k = 1)) from Or.inr (show (x = a2 ∧ k = 1) from h9)))
  have t_4 := XI_c1 mσ1 (lim_N ha2)
  have t_5 := nl_le ha2
  refine kF_X4_mowing (show ci0 = 0 ∨ ci0 = 3 ∨ ci0 = 4 ∨ ci0 = 6 ∨ ci0 = 7 ∨ ci0 = 8 ∨ ci0 = 10 from by omega) hc0 lc0 ha2 mσ1  (by first | omega | assumption | rfl) (by first | omega | assumption | rfl) (fun r4 σ3 mσ3 cσ3 (pσ3_0 : (gi σ3 a2 1).toInt ≤ (gi σ1 a2 1).toInt + 1) hσ3 => ?_)
  replace H := f_b hσ3 H
  have fσ3 : FX (fun id => id = a2 + 1) (fun id k => (id = a2 ∧ k = 1)) σ0 σ3 := FX_tr fσ1 cσ3 (fun x (h9 : x = a2 + 1) => (show x = a2 + 1 from h9)) (fun x k (h9 : (x = a2 ∧ k = 1)) => (show (x = a2 + 1) ∨ ((x = a2 ∧ k = 1)) from Or.inr (show (x = a2 ∧ k = 1) from h9)))
  have t_6 := XI_c1 mσ3 (lim_N ha2)
  have t_7 := nl_le ha2
  exact h9ret (-r4) σ3 mσ3 fσ3 (by first | omega | assumption | rfl) (H0.trans H.symm)
noncomputable def F_X10_mowing (c0 : Nat) (a1 : Int32) (a2 : Nat) (σ : Sg) : Int32 × Sg := fl (F_X5_comes a2 (71 : Int32) σ) (fun σ1 => fb (F_X4_mowing c0 a1 a2 σ1) (fun r4 σ3 => (r4 ^^^ (gi σ3 c0 2), σ3)))
set_option maxRecDepth 100000 in
set_option maxHeartbeats 4000000 in
theorem kF_X10_mowing {l : Launch} {V : Vx} {c0 : Nat} {a1 : Int32} {a2 : Nat} {σ0 : Sg} {Qk : Int32 → Sg → Prop} {ci0 : Nat} (sc0 : ci0 = 10) (hc0 : kd c0 = (10 + ci0, 0)) (lc0 : c0 ∈ ids (V)) (ha2 : isN a2) (m0 : XI V σ0) (pre0 : a2 = 64) (pre1 : (gi σ0 a2 1).toInt ≤ 998) (h9ret : ∀ (r : Int32) (σ' : Sg), XI V σ' → FX (fun id => id = a2 + 1) (fun id k => (id = a2 ∧ k = 1)) σ0 σ' → ((gi σ' a2 1).toInt ≤ (gi σ0 a2 1).toInt + 2) → (F_X10_mowing c0 a1 a2 σ0 = (r, σ')) → Qk r σ') : K_X10_mowing l V c0 a1 a2 σ0 Qk := by
  refine e_X10_mowing (fun M hl hV hN C => ?_)
  subst hl
  subst hV
  obtain ⟨R9, H0⟩ : ∃ R9, F_X10_mowing c0 a1 a2 σ0 = R9 := ⟨_, rfl⟩
  have ic0 : isMc ci0 := by rw [sc0]; decide
  have gc0 := kdM_ge ic0 hc0
  have oa2 : hid (a2 = 9 ∨ a2 = 11 ∨ a2 = 13 ∨ a2 = 25 ∨ a2 = 27 ∨ a2 = 29 ∨ a2 = 41 ∨ a2 = 43 ∨ a2 = 45 ∨ a2 = 64) := ha2
  have hcap : capI a2 = 1000 := by rw [pre0]; rfl
  have f0 : FX (fun id => id = a2 + 1) (fun id k => (id = a2 ∧ k = 1)) σ0 σ0 := FX_rf
  have t_1 := XI_c1 m0 (lim_N ha2)
  have t_2 := nl_le ha2
  have t_3 := XI_c1 m0 (id := c0) (k := 2) (lim_M0_2 ic0 hc0)
  have H := H0
  unfold F_X10_mowing at H
  refine s_X10_mowing_0 C hN sc0 hc0 lc0 ha2 ?_
  have z_4 : (71 : Int32).toInt = 71 := rfl
  refine kF_X5_comes ha2 m0  (by omega) (by rw [pre0]; exact okNum_64) (fun σ1 mσ1 cσ1 (pσ1_0 : (gi σ1 a2 1).toInt = (gi σ0 a2 1).toInt + 1) hσ1 => ?_)
  replace H := f_v hσ1 H
  have fσ1 : FX (fun id => id = a2 + 1) (fun id k => (id = a2 ∧ k = 1)) σ0 σ1 := FX_tr f0 cσ1 (fun x (h9 : x = a2 + 1) => (show x = a2 + 1 from h9)) (fun x k (h9 : (x = a2 ∧ k = 1)) => (show (x = a2 + 1) ∨ ((x = a2 ∧ k = 1)) from Or.inr (show (x = a2 ∧ k = 1) from h9)))
  have t_5 := XI_c1 mσ1 (lim_N ha2)
  have t_6 := nl_le ha2
  have k_7 : (gi σ1 c0 2).toInt = (gi σ0 c0 2).toInt := congrArg Int32.toInt (FX_i cσ1 (show ¬ (c0 = a2 + 1) from by first | omega | (have uoa2 := un oa2; omega)) (show ¬ ((c0 = a2 ∧ 2 = 1)) from by first | omega | (have uoa2 := un oa2; omega)))
  refine kF_X4_mowing (show ci0 = 0 ∨ ci0 = 3 ∨ ci0 = 4 ∨ ci0 = 6 ∨ ci0 = 7 ∨ ci0 = 8 ∨ ci0 = 10 from by omega) hc0 lc0 ha2 mσ1  (by first | omega | assumption | rfl) (by first | omega | assumption | rfl) (fun r4 σ3 mσ3 cσ3 (pσ3_0 : (gi σ3 a2 1).toInt ≤ (gi σ1 a2 1).toInt + 1) hσ3 => ?_)
  replace H := f_b hσ3 H
  have fσ3 : FX (fun id => id = a2 + 1) (fun id k => (id = a2 ∧ k = 1)) σ0 σ3 := FX_tr fσ1 cσ3 (fun x (h9 : x = a2 + 1) => (show x = a2 + 1 from h9)) (fun x k (h9 : (x = a2 ∧ k = 1)) => (show (x = a2 + 1) ∨ ((x = a2 ∧ k = 1)) from Or.inr (show (x = a2 ∧ k = 1) from h9)))
  have t_8 := XI_c1 mσ3 (lim_N ha2)
  have t_9 := nl_le ha2
  have k_10 : (gi σ3 c0 2).toInt = (gi σ1 c0 2).toInt := congrArg Int32.toInt (FX_i cσ3 (show ¬ (c0 = a2 + 1) from by first | omega | (have uoa2 := un oa2; omega)) (show ¬ ((c0 = a2 ∧ 2 = 1)) from by first | omega | (have uoa2 := un oa2; omega)))
  have w_11 := Int32.toInt_lt r4
  have w_12 := Int32.le_toInt r4
  have t_13 := XI_c1 mσ3 (id := c0) (k := 2) (lim_M0_2 ic0 hc0)
  exact h9ret (r4 ^^^ (gi σ3 c0 2)) σ3 mσ3 fσ3 (by first | omega | assumption | rfl) (H0.trans H.symm)
noncomputable def F_KD_mowing (ci : Nat) (c0 : Nat) (a1 : Int32) (a2 : Nat) (σ : Sg) : Int32 × Sg := (if ci = 0 then F_X4_mowing c0 a1 a2 σ else (if ci = 3 then F_X3_mowing c0 a1 a2 σ else (if ci = 4 then F_X4_mowing c0 a1 a2 σ else (if ci = 6 then F_X6_mowing c0 a1 a2 σ else (if ci = 7 then F_X3_mowing c0 a1 a2 σ else (if ci = 8 then F_X4_mowing c0 a1 a2 σ else (if ci = 10 then F_X10_mowing c0 a1 a2 σ else (0, σ))))))))
theorem kF_KD_mowing {l : Launch} {V : Vx} {ci c0 : Nat} {a1 : Int32} {a2 : Nat} {σ0 : Sg} {Qk : Int32 → Sg → Prop} (s : isMc ci) (h : kd c0 = (10 + ci, 0)) (lc : c0 ∈ ids V) (ha2 : isN a2) (m0 : XI V σ0) (pre0 : a2 = 64) (pre1 : (gi σ0 a2 1).toInt ≤ 998) (h9ret : ∀ (r : Int32) (σ' : Sg), XI V σ' → FX (fun id => id = a2 + 1) (fun id k => (id = a2 ∧ k = 1)) σ0 σ' → ((gi σ' a2 1).toInt ≤ (gi σ0 a2 1).toInt + 2) → (F_KD_mowing ci c0 a1 a2 σ0 = (r, σ')) → Qk r σ') : KD_mowing l V ci c0 a1 a2 σ0 Qk := by
  refine ⟨fun e => ?_, fun e => ?_, fun e => ?_, fun e => ?_, fun e => ?_, fun e => ?_, fun e => ?_⟩
  · exact kF_X4_mowing (by omega) h lc ha2 m0 pre0 (by omega) (fun r σ' m f p hF => h9ret r σ' m f (by omega) (by unfold F_KD_mowing; rw [if_pos e]; exact hF))
  · exact kF_X3_mowing (by omega) h lc ha2 m0 pre0 (by omega) (fun r σ' m f p hF => h9ret r σ' m f (by omega) (by unfold F_KD_mowing; rw [if_neg (show ¬ ci = 0 by omega), if_pos e]; exact hF))
  · exact kF_X4_mowing (by omega) h lc ha2 m0 pre0 (by omega) (fun r σ' m f p hF => h9ret r σ' m f (by omega) (by unfold F_KD_mowing; rw [if_neg (show ¬ ci = 0 by omega), if_neg (show ¬ ci = 3 by omega), if_pos e]; exact hF))
  · exact kF_X6_mowing (by omega) h lc ha2 m0 pre0 (by omega) (fun r σ' m f p hF => h9ret r σ' m f (by omega) (by unfold F_KD_mowing; rw [if_neg (show ¬ ci = 0 by omega), if_neg (show ¬ ci = 3 by omega), if_neg (show ¬ ci = 4 by omega), if_pos e]; exact hF))
  · exact kF_X3_mowing (by omega) h lc ha2 m0 pre0 (by omega) (fun r σ' m f p hF => h9ret r σ' m f (by omega) (by unfold F_KD_mowing; rw [if_neg (show ¬ ci = 0 by omega), if_neg (show ¬ ci = 3 by omega), if_neg (show ¬ ci = 4 by omega), if_neg (show ¬ ci = 6 by omega), if_pos e]; exact hF))
  · exact kF_X4_mowing (by omega) h lc ha2 m0 pre0 (by omega) (fun r σ' m f p hF => h9ret r σ' m f (by omega) (by unfold F_KD_mowing; rw [if_neg (show ¬ ci = 0 by omega), if_neg (show ¬ ci = 3 by omega), if_neg (show ¬ ci = 4 by omega), if_neg (show ¬ ci = 6 by omega), if_neg (show ¬ ci = 7 by omega), if_pos e]; exact hF))
  · exact kF_X10_mowing (by omega) h lc ha2 m0 pre0 (by omega) (fun r σ' m f p hF => h9ret r σ' m f (by omega) (by unfold F_KD_mowing; rw [if_neg (show ¬ ci = 0 by omega), if_neg (show ¬ ci = 3 by omega), if_neg (show ¬ ci = 4 by omega), if_neg (show ¬ ci = 6 by omega), if_neg (show ¬ ci = 7 by omega), if_neg (show ¬ ci = 8 by omega), if_pos e]; exact hF))
noncomputable def F_X4_whetting (c0 : Nat) (a1 : Int32) (a2 : Nat) (σ : Sg) : Int32 × Sg := fl (F_X5_comes a2 (11 : Int32) σ) (fun σ1 => fb (F_KD_mowing ((kd c0).1 - 10) c0 a1 a2 σ1) (fun r3 σ2 => (r3 - (gi σ2 c0 2), σ2)))
set_option maxRecDepth 100000 in
set_option maxHeartbeats 4000000 in
theorem kF_X4_whetting {l : Launch} {V : Vx} {c0 : Nat} {a1 : Int32} {a2 : Nat} {σ0 : Sg} {Qk : Int32 → Sg → Prop} {ci0 : Nat} (sc0 : ci0 = 0 ∨ ci0 = 3 ∨ ci0 = 4 ∨ ci0 = 6 ∨ ci0 = 7 ∨ ci0 = 8 ∨ ci0 = 10) (hc0 : kd c0 = (10 + ci0, 0)) (lc0 : c0 ∈ ids (V)) (ha2 : isN a2) (m0 : XI V σ0) (pre0 : a2 = 64) (pre1 : (gi σ0 a2 1).toInt ≤ 997) (h9ret : ∀ (r : Int32) (σ' : Sg), XI V σ' → FX (fun id => id = a2 + 1) (fun id k => (id = a2 ∧ k = 1)) σ0 σ' → ((gi σ' a2 1).toInt ≤ (gi σ0 a2 1).toInt + 3) → (F_X4_whetting c0 a1 a2 σ0 = (r, σ')) → Qk r σ') : K_X4_whetting l V c0 a1 a2 σ0 Qk := by
  refine e_X4_whetting (fun M hl hV hN C => ?_)
  subst hl
  subst hV
  obtain ⟨R9, H0⟩ : ∃ R9, F_X4_whetting c0 a1 a2 σ0 = R9 := ⟨_, rfl⟩
  have ic0 : isMc ci0 := by rcases sc0 with rfl | rfl | rfl | rfl | rfl | rfl | rfl <;> decide
  have gc0 := kdM_ge ic0 hc0
  have oa2 : hid (a2 = 9 ∨ a2 = 11 ∨ a2 = 13 ∨ a2 = 25 ∨ a2 = 27 ∨ a2 = 29 ∨ a2 = 41 ∨ a2 = 43 ∨ a2 = 45 ∨ a2 = 64) := ha2
  have hcap : capI a2 = 1000 := by rw [pre0]; rfl
  have f0 : FX (fun id => id = a2 + 1) (fun id k => (id = a2 ∧ k = 1)) σ0 σ0 := FX_rf
  have t_1 := XI_c1 m0 (lim_N ha2)
  have t_2 := nl_le ha2
  have t_3 := XI_c1 m0 (id := c0) (k := 2) (lim_M0_2 ic0 hc0)
  have H := H0
  unfold F_X4_whetting at H
  rw [show (kd c0).1 - 10 = ci0 from by rw [hc0]; exact Nat.add_sub_cancel_left _ _] at H
  refine s_X4_whetting_0 C hN sc0 hc0 lc0 ha2 ?_
  have z_4 : (11 : Int32).toInt = 11 := rfl
  refine kF_X5_comes ha2 m0  (by omega) (by rw [pre0]; exact okNum_64) (fun σ1 mσ1 cσ1 (pσ1_0 : (gi σ1 a2 1).toInt = (gi σ0 a2 1).toInt + 1) hσ1 => ?_)
  replace H := f_v hσ1 H
  have fσ1 : FX (fun id => id = a2 + 1) (fun id k => (id = a2 ∧ k = 1)) σ0 σ1 := FX_tr f0 cσ1 (fun x (h9 : x = a2 + 1) => (show x = a2 + 1 from h9)) (fun x k (h9 : (x = a2 ∧ k = 1)) => (show (x = a2 + 1) ∨ ((x = a2 ∧ k = 1)) from Or.inr (show (x = a2 ∧ k = 1) from h9)))
  have t_5 := XI_c1 mσ1 (lim_N ha2)
  have t_6 := nl_le ha2
  have k_7 : (gi σ1 c0 2).toInt = (gi σ0 c0 2).toInt := congrArg Int32.toInt (FX_i cσ1 (show ¬ (c0 = a2 + 1) from by first | omega | (have uoa2 := un oa2; omega)) (show ¬ ((c0 = a2 ∧ 2 = 1)) from by first | omega | (have uoa2 := un oa2; omega)))
  refine kF_KD_mowing ic0 hc0 lc0 ha2 mσ1  (by first | omega | assumption | rfl) (by first | omega | assumption | rfl) (fun r3 σ2 mσ2 cσ2 (pσ2_0 : (gi σ2 a2 1).toInt ≤ (gi σ1 a2 1).toInt + 2) hσ2 => ?_)
  replace H := f_b hσ2 H
  have fσ2 : FX (fun id => id = a2 + 1) (fun id k => (id = a2 ∧ k = 1)) σ0 σ2 := FX_tr fσ1 cσ2 (fun x (h9 : x = a2 + 1) => (show x = a2 + 1 from h9)) (fun x k (h9 : (x = a2 ∧ k = 1)) => (show (x = a2 + 1) ∨ ((x = a2 ∧ k = 1)) from Or.inr (show (x = a2 ∧ k = 1) from h9)))
  have t_8 := XI_c1 mσ2 (lim_N ha2)
  have t_9 := nl_le ha2
  have k_10 : (gi σ2 c0 2).toInt = (gi σ1 c0 2).toInt := congrArg Int32.toInt (FX_i cσ2 (show ¬ (c0 = a2 + 1) from by first | omega | (have uoa2 := un oa2; omega)) (show ¬ ((c0 = a2 ∧ 2 = 1)) from by first | omega | (have uoa2 := un oa2; omega)))
  have w_11 := Int32.toInt_lt r3
  have w_12 := Int32.le_toInt r3
  have t_13 := XI_c1 mσ2 (id := c0) (k := 2) (lim_M0_2 ic0 hc0)
  try have t_14 : (r3 - (gi σ2 c0 2)).toInt = r3.toInt - (gi σ2 c0 2).toInt := i_sub (x := r3) (y := (gi σ2 c0 2)) (by show (_ : Int) ≤ r3.toInt - (gi σ2 c0 2).toInt; omega) (by show r3.toInt - (gi σ2 c0 2).toInt ≤ (_ : Int); omega)
  exact h9ret (r3 - (gi σ2 c0 2)) σ2 mσ2 fσ2 (by first | omega | assumption | rfl) (H0.trans H.symm)
noncomputable def F_X8_whetting (c0 : Nat) (a1 : Int32) (a2 : Nat) (σ : Sg) : Int32 × Sg := fl (F_X5_comes a2 (20 : Int32) σ) (fun σ1 => fb (F_X4_whetting c0 a1 a2 σ1) (fun r4 σ3 => (r4 ^^^ (6 : Int32), σ3)))
set_option maxRecDepth 100000 in
set_option maxHeartbeats 4000000 in
theorem kF_X8_whetting {l : Launch} {V : Vx} {c0 : Nat} {a1 : Int32} {a2 : Nat} {σ0 : Sg} {Qk : Int32 → Sg → Prop} {ci0 : Nat} (sc0 : ci0 = 6 ∨ ci0 = 8) (hc0 : kd c0 = (10 + ci0, 0)) (lc0 : c0 ∈ ids (V)) (ha2 : isN a2) (m0 : XI V σ0) (pre0 : a2 = 64) (pre1 : (gi σ0 a2 1).toInt ≤ 996) (h9ret : ∀ (r : Int32) (σ' : Sg), XI V σ' → FX (fun id => id = a2 + 1) (fun id k => (id = a2 ∧ k = 1)) σ0 σ' → ((gi σ' a2 1).toInt ≤ (gi σ0 a2 1).toInt + 4) → (F_X8_whetting c0 a1 a2 σ0 = (r, σ')) → Qk r σ') : K_X8_whetting l V c0 a1 a2 σ0 Qk := by
  refine e_X8_whetting (fun M hl hV hN C => ?_)
  subst hl
  subst hV
  obtain ⟨R9, H0⟩ : ∃ R9, F_X8_whetting c0 a1 a2 σ0 = R9 := ⟨_, rfl⟩
  have ic0 : isMc ci0 := by rcases sc0 with rfl | rfl <;> decide
  have gc0 := kdM_ge ic0 hc0
  have oa2 : hid (a2 = 9 ∨ a2 = 11 ∨ a2 = 13 ∨ a2 = 25 ∨ a2 = 27 ∨ a2 = 29 ∨ a2 = 41 ∨ a2 = 43 ∨ a2 = 45 ∨ a2 = 64) := ha2
  have hcap : capI a2 = 1000 := by rw [pre0]; rfl
  have f0 : FX (fun id => id = a2 + 1) (fun id k => (id = a2 ∧ k = 1)) σ0 σ0 := FX_rf
  have t_1 := XI_c1 m0 (lim_N ha2)
  have t_2 := nl_le ha2
  have H := H0
  unfold F_X8_whetting at H
  refine s_X8_whetting_0 C hN sc0 hc0 lc0 ha2 ?_
  have z_3 : (20 : Int32).toInt = 20 := rfl
  refine kF_X5_comes ha2 m0  (by omega) (by rw [pre0]; exact okNum_64) (fun σ1 mσ1 cσ1 (pσ1_0 : (gi σ1 a2 1).toInt = (gi σ0 a2 1).toInt + 1) hσ1 => ?_)
  replace H := f_v hσ1 H
  have fσ1 : FX (fun id => id = a2 + 1) (fun id k => (id = a2 ∧ k = 1)) σ0 σ1 := FX_tr f0 cσ1 (fun x (h9 : x = a2 + 1) => (show x = a2 + 1 from h9)) (fun x k (h9 : (x = a2 ∧ k = 1)) => (show (x = a2 + 1) ∨ ((x = a2 ∧ k = 1)) from Or.inr (show (x = a2 ∧ k = 1) from h9)))
  have t_4 := XI_c1 mσ1 (lim_N ha2)
  have t_5 := nl_le ha2
  refine kF_X4_whetting (show ci0 = 0 ∨ ci0 = 3 ∨ ci0 = 4 ∨ ci0 = 6 ∨ ci0 = 7 ∨ ci0 = 8 ∨ ci0 = 10 from by omega) hc0 lc0 ha2 mσ1  (by first | omega | assumption | rfl) (by first | omega | assumption | rfl) (fun r4 σ3 mσ3 cσ3 (pσ3_0 : (gi σ3 a2 1).toInt ≤ (gi σ1 a2 1).toInt + 3) hσ3 => ?_)
  replace H := f_b hσ3 H
  have fσ3 : FX (fun id => id = a2 + 1) (fun id k => (id = a2 ∧ k = 1)) σ0 σ3 := FX_tr fσ1 cσ3 (fun x (h9 : x = a2 + 1) => (show x = a2 + 1 from h9)) (fun x k (h9 : (x = a2 ∧ k = 1)) => (show (x = a2 + 1) ∨ ((x = a2 ∧ k = 1)) from Or.inr (show (x = a2 ∧ k = 1) from h9)))
  have t_6 := XI_c1 mσ3 (lim_N ha2)
  have t_7 := nl_le ha2
  have w_8 := Int32.toInt_lt r4
  have w_9 := Int32.le_toInt r4
  exact h9ret (r4 ^^^ (6 : Int32)) σ3 mσ3 fσ3 (by first | omega | assumption | rfl) (H0.trans H.symm)
noncomputable def F_X6_whetting (c0 : Nat) (a1 : Int32) (a2 : Nat) (σ : Sg) : Int32 × Sg := fl (F_X5_comes a2 (51 : Int32) σ) (fun σ1 => fb (F_X8_whetting c0 (a1 + (1 : Int32)) a2 σ1) (fun r4 σ3 => (r4, σ3)))
set_option maxRecDepth 100000 in
set_option maxHeartbeats 4000000 in
theorem kF_X6_whetting {l : Launch} {V : Vx} {c0 : Nat} {a1 : Int32} {a2 : Nat} {σ0 : Sg} {Qk : Int32 → Sg → Prop} {ci0 : Nat} (sc0 : ci0 = 6) (hc0 : kd c0 = (10 + ci0, 0)) (lc0 : c0 ∈ ids (V)) (ha2 : isN a2) (m0 : XI V σ0) (pre0 : a2 = 64) (pre1 : (gi σ0 a2 1).toInt ≤ 995) (h9ret : ∀ (r : Int32) (σ' : Sg), XI V σ' → FX (fun id => id = a2 + 1) (fun id k => (id = a2 ∧ k = 1)) σ0 σ' → ((gi σ' a2 1).toInt ≤ (gi σ0 a2 1).toInt + 5) → (F_X6_whetting c0 a1 a2 σ0 = (r, σ')) → Qk r σ') : K_X6_whetting l V c0 a1 a2 σ0 Qk := by
  refine e_X6_whetting (fun M hl hV hN C => ?_)
  subst hl
  subst hV
  obtain ⟨R9, H0⟩ : ∃ R9, F_X6_whetting c0 a1 a2 σ0 = R9 := ⟨_, rfl⟩
  have ic0 : isMc ci0 := by rw [sc0]; decide
  have gc0 := kdM_ge ic0 hc0
  have oa2 : hid (a2 = 9 ∨ a2 = 11 ∨ a2 = 13 ∨ a2 = 25 ∨ a2 = 27 ∨ a2 = 29 ∨ a2 = 41 ∨ a2 = 43 ∨ a2 = 45 ∨ a2 = 64) := ha2
  have hcap : capI a2 = 1000 := by rw [pre0]; rfl
  have f0 : FX (fun id => id = a2 + 1) (fun id k => (id = a2 ∧ k = 1)) σ0 σ0 := FX_rf
  have t_1 := XI_c1 m0 (lim_N ha2)
  have t_2 := nl_le ha2
  have H := H0
  unfold F_X6_whetting at H
  refine s_X6_whetting_0 C hN sc0 hc0 lc0 ha2 ?_
  have z_3 : (51 : Int32).toInt = 51 := rfl
  refine kF_X5_comes ha2 m0  (by omega) (by rw [pre0]; exact okNum_64) (fun σ1 mσ1 cσ1 (pσ1_0 : (gi σ1 a2 1).toInt = (gi σ0 a2 1).toInt + 1) hσ1 => ?_)
  replace H := f_v hσ1 H
  have fσ1 : FX (fun id => id = a2 + 1) (fun id k => (id = a2 ∧ k = 1)) σ0 σ1 := FX_tr f0 cσ1 (fun x (h9 : x = a2 + 1) => (show x = a2 + 1 from h9)) (fun x k (h9 : (x = a2 ∧ k = 1)) => (show (x = a2 + 1) ∨ ((x = a2 ∧ k = 1)) from Or.inr (show (x = a2 ∧ k = 1) from h9)))
  have t_4 := XI_c1 mσ1 (lim_N ha2)
  have t_5 := nl_le ha2
  have w_6 := Int32.toInt_lt a1
  have w_7 := Int32.le_toInt a1
  try have t_8 : (a1 + (1 : Int32)).toInt = a1.toInt + 1 := i_add (x := a1) (y := (1 : Int32)) (by show (_ : Int) ≤ a1.toInt + 1; omega) (by show a1.toInt + 1 ≤ (_ : Int); omega)
  refine kF_X8_whetting (show ci0 = 6 ∨ ci0 = 8 from by omega) hc0 lc0 ha2 mσ1  (by first | omega | assumption | rfl) (by first | omega | assumption | rfl) (fun r4 σ3 mσ3 cσ3 (pσ3_0 : (gi σ3 a2 1).toInt ≤ (gi σ1 a2 1).toInt + 4) hσ3 => ?_)
  replace H := f_b hσ3 H
  have fσ3 : FX (fun id => id = a2 + 1) (fun id k => (id = a2 ∧ k = 1)) σ0 σ3 := FX_tr fσ1 cσ3 (fun x (h9 : x = a2 + 1) => (show x = a2 + 1 from h9)) (fun x k (h9 : (x = a2 ∧ k = 1)) => (show (x = a2 + 1) ∨ ((x = a2 ∧ k = 1)) from Or.inr (show (x = a2 ∧ k = 1) from h9)))
  have t_9 := XI_c1 mσ3 (lim_N ha2)
  have t_10 := nl_le ha2
  have w_11 := Int32.toInt_lt r4
  have w_12 := Int32.le_toInt r4
  exact h9ret r4 σ3 mσ3 fσ3 (by first | omega | assumption | rfl) (H0.trans H.symm)
noncomputable def F_X10_whetting (c0 : Nat) (a1 : Int32) (a2 : Nat) (σ : Sg) : Int32 × Sg := fl (F_X5_comes a2 (70 : Int32) σ) (fun σ1 => fb (F_X4_whetting c0 a1 a2 σ1) (fun r4 σ3 => fb (F_X4_mowing c0 (2 : Int32) a2 σ3) (fun r7 σ6 => (r4 + r7, σ6))))
set_option maxRecDepth 100000 in
set_option maxHeartbeats 4000000 in
theorem kF_X10_whetting {l : Launch} {V : Vx} {c0 : Nat} {a1 : Int32} {a2 : Nat} {σ0 : Sg} {Qk : Int32 → Sg → Prop} {ci0 : Nat} (sc0 : ci0 = 10) (hc0 : kd c0 = (10 + ci0, 0)) (lc0 : c0 ∈ ids (V)) (ha2 : isN a2) (m0 : XI V σ0) (pre0 : a2 = 64) (pre1 : (gi σ0 a2 1).toInt ≤ 995) (h9ret : ∀ (r : Int32) (σ' : Sg), XI V σ' → FX (fun id => id = a2 + 1) (fun id k => (id = a2 ∧ k = 1)) σ0 σ' → ((gi σ' a2 1).toInt ≤ (gi σ0 a2 1).toInt + 5) → (F_X10_whetting c0 a1 a2 σ0 = (r, σ')) → Qk r σ') : K_X10_whetting l V c0 a1 a2 σ0 Qk := by
  refine e_X10_whetting (fun M hl hV hN C => ?_)
  subst hl
  subst hV
  obtain ⟨R9, H0⟩ : ∃ R9, F_X10_whetting c0 a1 a2 σ0 = R9 := ⟨_, rfl⟩
  have ic0 : isMc ci0 := by rw [sc0]; decide
  have gc0 := kdM_ge ic0 hc0
  have oa2 : hid (a2 = 9 ∨ a2 = 11 ∨ a2 = 13 ∨ a2 = 25 ∨ a2 = 27 ∨ a2 = 29 ∨ a2 = 41 ∨ a2 = 43 ∨ a2 = 45 ∨ a2 = 64) := ha2
  have hcap : capI a2 = 1000 := by rw [pre0]; rfl
  have f0 : FX (fun id => id = a2 + 1) (fun id k => (id = a2 ∧ k = 1)) σ0 σ0 := FX_rf
  have t_1 := XI_c1 m0 (lim_N ha2)
  have t_2 := nl_le ha2
  have H := H0
  unfold F_X10_whetting at H
  refine s_X10_whetting_0 C hN sc0 hc0 lc0 ha2 ?_
  have z_3 : (70 : Int32).toInt = 70 := rfl
  refine kF_X5_comes ha2 m0  (by omega) (by rw [pre0]; exact okNum_64) (fun σ1 mσ1 cσ1 (pσ1_0 : (gi σ1 a2 1).toInt = (gi σ0 a2 1).toInt + 1) hσ1 => ?_)
  replace H := f_v hσ1 H
  have fσ1 : FX (fun id => id = a2 + 1) (fun id k => (id = a2 ∧ k = 1)) σ0 σ1 := FX_tr f0 cσ1 (fun x (h9 : x = a2 + 1) => (show x = a2 + 1 from h9)) (fun x k (h9 : (x = a2 ∧ k = 1)) => (show (x = a2 + 1) ∨ ((x = a2 ∧ k = 1)) from Or.inr (show (x = a2 ∧ k = 1) from h9)))
  have t_4 := XI_c1 mσ1 (lim_N ha2)
  have t_5 := nl_le ha2
  refine kF_X4_whetting (show ci0 = 0 ∨ ci0 = 3 ∨ ci0 = 4 ∨ ci0 = 6 ∨ ci0 = 7 ∨ ci0 = 8 ∨ ci0 = 10 from by omega) hc0 lc0 ha2 mσ1  (by first | omega | assumption | rfl) (by first | omega | assumption | rfl) (fun r4 σ3 mσ3 cσ3 (pσ3_0 : (gi σ3 a2 1).toInt ≤ (gi σ1 a2 1).toInt + 3) hσ3 => ?_)
  replace H := f_b hσ3 H
  have fσ3 : FX (fun id => id = a2 + 1) (fun id k => (id = a2 ∧ k = 1)) σ0 σ3 := FX_tr fσ1 cσ3 (fun x (h9 : x = a2 + 1) => (show x = a2 + 1 from h9)) (fun x k (h9 : (x = a2 ∧ k = 1)) => (show (x = a2 + 1) ∨ ((x = a2 ∧ k = 1)) from Or.inr (show (x = a2 ∧ k = 1) from h9)))
  have t_6 := XI_c1 mσ3 (lim_N ha2)
  have t_7 := nl_le ha2
  have z_8 : (2 : Int32).toInt = 2 := rfl
  refine kF_X4_mowing (show ci0 = 0 ∨ ci0 = 3 ∨ ci0 = 4 ∨ ci0 = 6 ∨ ci0 = 7 ∨ ci0 = 8 ∨ ci0 = 10 from by omega) hc0 lc0 ha2 mσ3  (by first | omega | assumption | rfl) (by first | omega | assumption | rfl) (fun r7 σ6 mσ6 cσ6 (pσ6_0 : (gi σ6 a2 1).toInt ≤ (gi σ3 a2 1).toInt + 1) hσ6 => ?_)
  replace H := f_b hσ6 H
  have fσ6 : FX (fun id => id = a2 + 1) (fun id k => (id = a2 ∧ k = 1)) σ0 σ6 := FX_tr fσ3 cσ6 (fun x (h9 : x = a2 + 1) => (show x = a2 + 1 from h9)) (fun x k (h9 : (x = a2 ∧ k = 1)) => (show (x = a2 + 1) ∨ ((x = a2 ∧ k = 1)) from Or.inr (show (x = a2 ∧ k = 1) from h9)))
  have t_9 := XI_c1 mσ6 (lim_N ha2)
  have t_10 := nl_le ha2
  have w_11 := Int32.toInt_lt r4
  have w_12 := Int32.le_toInt r4
  have w_13 := Int32.toInt_lt r7
  have w_14 := Int32.le_toInt r7
  try have t_15 : (r4 + r7).toInt = r4.toInt + r7.toInt := i_add (x := r4) (y := r7) (by show (_ : Int) ≤ r4.toInt + r7.toInt; omega) (by show r4.toInt + r7.toInt ≤ (_ : Int); omega)
  exact h9ret (r4 + r7) σ6 mσ6 fσ6 (by first | omega | assumption | rfl) (H0.trans H.symm)
noncomputable def F_KD_whetting (ci : Nat) (c0 : Nat) (a1 : Int32) (a2 : Nat) (σ : Sg) : Int32 × Sg := (if ci = 0 then F_X4_whetting c0 a1 a2 σ else (if ci = 3 then F_X4_whetting c0 a1 a2 σ else (if ci = 4 then F_X4_whetting c0 a1 a2 σ else (if ci = 6 then F_X6_whetting c0 a1 a2 σ else (if ci = 7 then F_X4_whetting c0 a1 a2 σ else (if ci = 8 then F_X8_whetting c0 a1 a2 σ else (if ci = 10 then F_X10_whetting c0 a1 a2 σ else (0, σ))))))))
theorem kF_KD_whetting {l : Launch} {V : Vx} {ci c0 : Nat} {a1 : Int32} {a2 : Nat} {σ0 : Sg} {Qk : Int32 → Sg → Prop} (s : isMc ci) (h : kd c0 = (10 + ci, 0)) (lc : c0 ∈ ids V) (ha2 : isN a2) (m0 : XI V σ0) (pre0 : a2 = 64) (pre1 : (gi σ0 a2 1).toInt ≤ 995) (h9ret : ∀ (r : Int32) (σ' : Sg), XI V σ' → FX (fun id => id = a2 + 1) (fun id k => (id = a2 ∧ k = 1)) σ0 σ' → ((gi σ' a2 1).toInt ≤ (gi σ0 a2 1).toInt + 5) → (F_KD_whetting ci c0 a1 a2 σ0 = (r, σ')) → Qk r σ') : KD_whetting l V ci c0 a1 a2 σ0 Qk := by
  refine ⟨fun e => ?_, fun e => ?_, fun e => ?_, fun e => ?_, fun e => ?_, fun e => ?_, fun e => ?_⟩
  · exact kF_X4_whetting (by omega) h lc ha2 m0 pre0 (by omega) (fun r σ' m f p hF => h9ret r σ' m f (by omega) (by unfold F_KD_whetting; rw [if_pos e]; exact hF))
  · exact kF_X4_whetting (by omega) h lc ha2 m0 pre0 (by omega) (fun r σ' m f p hF => h9ret r σ' m f (by omega) (by unfold F_KD_whetting; rw [if_neg (show ¬ ci = 0 by omega), if_pos e]; exact hF))
  · exact kF_X4_whetting (by omega) h lc ha2 m0 pre0 (by omega) (fun r σ' m f p hF => h9ret r σ' m f (by omega) (by unfold F_KD_whetting; rw [if_neg (show ¬ ci = 0 by omega), if_neg (show ¬ ci = 3 by omega), if_pos e]; exact hF))
  · exact kF_X6_whetting (by omega) h lc ha2 m0 pre0 (by omega) (fun r σ' m f p hF => h9ret r σ' m f (by omega) (by unfold F_KD_whetting; rw [if_neg (show ¬ ci = 0 by omega), if_neg (show ¬ ci = 3 by omega), if_neg (show ¬ ci = 4 by omega), if_pos e]; exact hF))
  · exact kF_X4_whetting (by omega) h lc ha2 m0 pre0 (by omega) (fun r σ' m f p hF => h9ret r σ' m f (by omega) (by unfold F_KD_whetting; rw [if_neg (show ¬ ci = 0 by omega), if_neg (show ¬ ci = 3 by omega), if_neg (show ¬ ci = 4 by omega), if_neg (show ¬ ci = 6 by omega), if_pos e]; exact hF))
  · exact kF_X8_whetting (by omega) h lc ha2 m0 pre0 (by omega) (fun r σ' m f p hF => h9ret r σ' m f (by omega) (by unfold F_KD_whetting; rw [if_neg (show ¬ ci = 0 by omega), if_neg (show ¬ ci = 3 by omega), if_neg (show ¬ ci = 4 by omega), if_neg (show ¬ ci = 6 by omega), if_neg (show ¬ ci = 7 by omega), if_pos e]; exact hF))
  · exact kF_X10_whetting (by omega) h lc ha2 m0 pre0 (by omega) (fun r σ' m f p hF => h9ret r σ' m f (by omega) (by unfold F_KD_whetting; rw [if_neg (show ¬ ci = 0 by omega), if_neg (show ¬ ci = 3 by omega), if_neg (show ¬ ci = 4 by omega), if_neg (show ¬ ci = 6 by omega), if_neg (show ¬ ci = 7 by omega), if_neg (show ¬ ci = 8 by omega), if_pos e]; exact hF))
noncomputable def F_X4_telling (c0 : Nat) (a1 : Int32) (a2 : Nat) (σ : Sg) : Int32 × Sg := fl (F_X5_comes a2 (12 : Int32) σ) (fun σ1 => fb (F_KD_whetting ((kd c0).1 - 10) c0 a1 a2 σ1) (fun r3 σ2 => (r3 * (2 : Int32), σ2)))
set_option maxRecDepth 100000 in
set_option maxHeartbeats 4000000 in
theorem kF_X4_telling {l : Launch} {V : Vx} {c0 : Nat} {a1 : Int32} {a2 : Nat} {σ0 : Sg} {Qk : Int32 → Sg → Prop} {ci0 : Nat} (sc0 : ci0 = 0 ∨ ci0 = 3 ∨ ci0 = 4 ∨ ci0 = 6 ∨ ci0 = 7 ∨ ci0 = 8 ∨ ci0 = 10) (hc0 : kd c0 = (10 + ci0, 0)) (lc0 : c0 ∈ ids (V)) (ha2 : isN a2) (m0 : XI V σ0) (pre0 : a2 = 64) (pre1 : (gi σ0 a2 1).toInt ≤ 994) (h9ret : ∀ (r : Int32) (σ' : Sg), XI V σ' → FX (fun id => id = a2 + 1) (fun id k => (id = a2 ∧ k = 1)) σ0 σ' → ((gi σ' a2 1).toInt ≤ (gi σ0 a2 1).toInt + 6) → (F_X4_telling c0 a1 a2 σ0 = (r, σ')) → Qk r σ') : K_X4_telling l V c0 a1 a2 σ0 Qk := by
  refine e_X4_telling (fun M hl hV hN C => ?_)
  subst hl
  subst hV
  obtain ⟨R9, H0⟩ : ∃ R9, F_X4_telling c0 a1 a2 σ0 = R9 := ⟨_, rfl⟩
  have ic0 : isMc ci0 := by rcases sc0 with rfl | rfl | rfl | rfl | rfl | rfl | rfl <;> decide
  have gc0 := kdM_ge ic0 hc0
  have oa2 : hid (a2 = 9 ∨ a2 = 11 ∨ a2 = 13 ∨ a2 = 25 ∨ a2 = 27 ∨ a2 = 29 ∨ a2 = 41 ∨ a2 = 43 ∨ a2 = 45 ∨ a2 = 64) := ha2
  have hcap : capI a2 = 1000 := by rw [pre0]; rfl
  have f0 : FX (fun id => id = a2 + 1) (fun id k => (id = a2 ∧ k = 1)) σ0 σ0 := FX_rf
  have t_1 := XI_c1 m0 (lim_N ha2)
  have t_2 := nl_le ha2
  have H := H0
  unfold F_X4_telling at H
  rw [show (kd c0).1 - 10 = ci0 from by rw [hc0]; exact Nat.add_sub_cancel_left _ _] at H
  refine s_X4_telling_0 C hN sc0 hc0 lc0 ha2 ?_
  have z_3 : (12 : Int32).toInt = 12 := rfl
  refine kF_X5_comes ha2 m0  (by omega) (by rw [pre0]; exact okNum_64) (fun σ1 mσ1 cσ1 (pσ1_0 : (gi σ1 a2 1).toInt = (gi σ0 a2 1).toInt + 1) hσ1 => ?_)
  replace H := f_v hσ1 H
  have fσ1 : FX (fun id => id = a2 + 1) (fun id k => (id = a2 ∧ k = 1)) σ0 σ1 := FX_tr f0 cσ1 (fun x (h9 : x = a2 + 1) => (show x = a2 + 1 from h9)) (fun x k (h9 : (x = a2 ∧ k = 1)) => (show (x = a2 + 1) ∨ ((x = a2 ∧ k = 1)) from Or.inr (show (x = a2 ∧ k = 1) from h9)))
  have t_4 := XI_c1 mσ1 (lim_N ha2)
  have t_5 := nl_le ha2
  refine kF_KD_whetting ic0 hc0 lc0 ha2 mσ1  (by first | omega | assumption | rfl) (by first | omega | assumption | rfl) (fun r3 σ2 mσ2 cσ2 (pσ2_0 : (gi σ2 a2 1).toInt ≤ (gi σ1 a2 1).toInt + 5) hσ2 => ?_)
  replace H := f_b hσ2 H
  have fσ2 : FX (fun id => id = a2 + 1) (fun id k => (id = a2 ∧ k = 1)) σ0 σ2 := FX_tr fσ1 cσ2 (fun x (h9 : x = a2 + 1) => (show x = a2 + 1 from h9)) (fun x k (h9 : (x = a2 ∧ k = 1)) => (show (x = a2 + 1) ∨ ((x = a2 ∧ k = 1)) from Or.inr (show (x = a2 ∧ k = 1) from h9)))
  have t_6 := XI_c1 mσ2 (lim_N ha2)
  have t_7 := nl_le ha2
  have w_8 := Int32.toInt_lt r3
  have w_9 := Int32.le_toInt r3
  try have t_10 : (r3 * (2 : Int32)).toInt = r3.toInt * 2 := i_mulr rfl (by omega) (by omega)
  exact h9ret (r3 * (2 : Int32)) σ2 mσ2 fσ2 (by first | omega | assumption | rfl) (H0.trans H.symm)
noncomputable def F_X0_telling (c0 : Nat) (a1 : Int32) (a2 : Nat) (σ : Sg) : Int32 × Sg := fl (F_X5_comes a2 (40 : Int32) σ) (fun σ1 => fb (F_X4_telling c0 a1 a2 σ1) (fun r4 σ3 => fb (F_KD_whetting ((kd c0).1 - 10) c0 (1 : Int32) a2 σ3) (fun r6 σ5 => (r4 + r6, σ5))))
set_option maxRecDepth 100000 in
set_option maxHeartbeats 4000000 in
theorem kF_X0_telling {l : Launch} {V : Vx} {c0 : Nat} {a1 : Int32} {a2 : Nat} {σ0 : Sg} {Qk : Int32 → Sg → Prop} {ci0 : Nat} (sc0 : ci0 = 0 ∨ ci0 = 10) (hc0 : kd c0 = (10 + ci0, 0)) (lc0 : c0 ∈ ids (V)) (ha2 : isN a2) (m0 : XI V σ0) (pre0 : a2 = 64) (pre1 : (gi σ0 a2 1).toInt ≤ 988) (h9ret : ∀ (r : Int32) (σ' : Sg), XI V σ' → FX (fun id => id = a2 + 1) (fun id k => (id = a2 ∧ k = 1)) σ0 σ' → ((gi σ' a2 1).toInt ≤ (gi σ0 a2 1).toInt + 12) → (F_X0_telling c0 a1 a2 σ0 = (r, σ')) → Qk r σ') : K_X0_telling l V c0 a1 a2 σ0 Qk := by
  refine e_X0_telling (fun M hl hV hN C => ?_)
  subst hl
  subst hV
  obtain ⟨R9, H0⟩ : ∃ R9, F_X0_telling c0 a1 a2 σ0 = R9 := ⟨_, rfl⟩
  have ic0 : isMc ci0 := by rcases sc0 with rfl | rfl <;> decide
  have gc0 := kdM_ge ic0 hc0
  have oa2 : hid (a2 = 9 ∨ a2 = 11 ∨ a2 = 13 ∨ a2 = 25 ∨ a2 = 27 ∨ a2 = 29 ∨ a2 = 41 ∨ a2 = 43 ∨ a2 = 45 ∨ a2 = 64) := ha2
  have hcap : capI a2 = 1000 := by rw [pre0]; rfl
  have f0 : FX (fun id => id = a2 + 1) (fun id k => (id = a2 ∧ k = 1)) σ0 σ0 := FX_rf
  have t_1 := XI_c1 m0 (lim_N ha2)
  have t_2 := nl_le ha2
  have H := H0
  unfold F_X0_telling at H
  rw [show (kd c0).1 - 10 = ci0 from by rw [hc0]; exact Nat.add_sub_cancel_left _ _] at H
  refine s_X0_telling_0 C hN sc0 hc0 lc0 ha2 ?_
  have z_3 : (40 : Int32).toInt = 40 := rfl
  refine kF_X5_comes ha2 m0  (by omega) (by rw [pre0]; exact okNum_64) (fun σ1 mσ1 cσ1 (pσ1_0 : (gi σ1 a2 1).toInt = (gi σ0 a2 1).toInt + 1) hσ1 => ?_)
  replace H := f_v hσ1 H
  have fσ1 : FX (fun id => id = a2 + 1) (fun id k => (id = a2 ∧ k = 1)) σ0 σ1 := FX_tr f0 cσ1 (fun x (h9 : x = a2 + 1) => (show x = a2 + 1 from h9)) (fun x k (h9 : (x = a2 ∧ k = 1)) => (show (x = a2 + 1) ∨ ((x = a2 ∧ k = 1)) from Or.inr (show (x = a2 ∧ k = 1) from h9)))
  have t_4 := XI_c1 mσ1 (lim_N ha2)
  have t_5 := nl_le ha2
  refine kF_X4_telling (show ci0 = 0 ∨ ci0 = 3 ∨ ci0 = 4 ∨ ci0 = 6 ∨ ci0 = 7 ∨ ci0 = 8 ∨ ci0 = 10 from by omega) hc0 lc0 ha2 mσ1  (by first | omega | assumption | rfl) (by first | omega | assumption | rfl) (fun r4 σ3 mσ3 cσ3 (pσ3_0 : (gi σ3 a2 1).toInt ≤ (gi σ1 a2 1).toInt + 6) hσ3 => ?_)
  replace H := f_b hσ3 H
  have fσ3 : FX (fun id => id = a2 + 1) (fun id k => (id = a2 ∧ k = 1)) σ0 σ3 := FX_tr fσ1 cσ3 (fun x (h9 : x = a2 + 1) => (show x = a2 + 1 from h9)) (fun x k (h9 : (x = a2 ∧ k = 1)) => (show (x = a2 + 1) ∨ ((x = a2 ∧ k = 1)) from Or.inr (show (x = a2 ∧ k = 1) from h9)))
  have t_6 := XI_c1 mσ3 (lim_N ha2)
  have t_7 := nl_le ha2
  have z_8 : (1 : Int32).toInt = 1 := rfl
  refine kF_KD_whetting ic0 hc0 lc0 ha2 mσ3  (by first | omega | assumption | rfl) (by first | omega | assumption | rfl) (fun r6 σ5 mσ5 cσ5 (pσ5_0 : (gi σ5 a2 1).toInt ≤ (gi σ3 a2 1).toInt + 5) hσ5 => ?_)
  replace H := f_b hσ5 H
  have fσ5 : FX (fun id => id = a2 + 1) (fun id k => (id = a2 ∧ k = 1)) σ0 σ5 := FX_tr fσ3 cσ5 (fun x (h9 : x = a2 + 1) => (show x = a2 + 1 from h9)) (fun x k (h9 : (x = a2 ∧ k = 1)) => (show (x = a2 + 1) ∨ ((x = a2 ∧ k = 1)) from Or.inr (show (x = a2 ∧ k = 1) from h9)))
  have t_9 := XI_c1 mσ5 (lim_N ha2)
  have t_10 := nl_le ha2
  have w_11 := Int32.toInt_lt r4
  have w_12 := Int32.le_toInt r4
  have w_13 := Int32.toInt_lt r6
  have w_14 := Int32.le_toInt r6
  try have t_15 : (r4 + r6).toInt = r4.toInt + r6.toInt := i_add (x := r4) (y := r6) (by show (_ : Int) ≤ r4.toInt + r6.toInt; omega) (by show r4.toInt + r6.toInt ≤ (_ : Int); omega)
  exact h9ret (r4 + r6) σ5 mσ5 fσ5 (by first | omega | assumption | rfl) (H0.trans H.symm)
noncomputable def F_X7_telling (c0 : Nat) (a1 : Int32) (a2 : Nat) (σ : Sg) : Int32 × Sg := fl (F_X5_comes a2 (60 : Int32) σ) (fun σ1 => fb (F_X4_telling c0 (a1 - (gi σ1 c0 1)) a2 σ1) (fun r4 σ3 => (r4, σ3)))
set_option maxRecDepth 100000 in
set_option maxHeartbeats 4000000 in
theorem kF_X7_telling {l : Launch} {V : Vx} {c0 : Nat} {a1 : Int32} {a2 : Nat} {σ0 : Sg} {Qk : Int32 → Sg → Prop} {ci0 : Nat} (sc0 : ci0 = 7) (hc0 : kd c0 = (10 + ci0, 0)) (lc0 : c0 ∈ ids (V)) (ha2 : isN a2) (m0 : XI V σ0) (pre0 : a2 = 64) (pre1 : (gi σ0 a2 1).toInt ≤ 993) (h9ret : ∀ (r : Int32) (σ' : Sg), XI V σ' → FX (fun id => id = a2 + 1) (fun id k => (id = a2 ∧ k = 1)) σ0 σ' → ((gi σ' a2 1).toInt ≤ (gi σ0 a2 1).toInt + 7) → (F_X7_telling c0 a1 a2 σ0 = (r, σ')) → Qk r σ') : K_X7_telling l V c0 a1 a2 σ0 Qk := by
  refine e_X7_telling (fun M hl hV hN C => ?_)
  subst hl
  subst hV
  obtain ⟨R9, H0⟩ : ∃ R9, F_X7_telling c0 a1 a2 σ0 = R9 := ⟨_, rfl⟩
  have ic0 : isMc ci0 := by rw [sc0]; decide
  have gc0 := kdM_ge ic0 hc0
  have oa2 : hid (a2 = 9 ∨ a2 = 11 ∨ a2 = 13 ∨ a2 = 25 ∨ a2 = 27 ∨ a2 = 29 ∨ a2 = 41 ∨ a2 = 43 ∨ a2 = 45 ∨ a2 = 64) := ha2
  have hcap : capI a2 = 1000 := by rw [pre0]; rfl
  have f0 : FX (fun id => id = a2 + 1) (fun id k => (id = a2 ∧ k = 1)) σ0 σ0 := FX_rf
  have t_1 := XI_c1 m0 (lim_N ha2)
  have t_2 := nl_le ha2
  have t_3 := XI_c1 m0 (id := c0) (k := 1) (lim_M0_1 ic0 hc0)
  have H := H0
  unfold F_X7_telling at H
  refine s_X7_telling_0 C hN sc0 hc0 lc0 ha2 ?_
  have z_4 : (60 : Int32).toInt = 60 := rfl
  refine kF_X5_comes ha2 m0  (by omega) (by rw [pre0]; exact okNum_64) (fun σ1 mσ1 cσ1 (pσ1_0 : (gi σ1 a2 1).toInt = (gi σ0 a2 1).toInt + 1) hσ1 => ?_)
  replace H := f_v hσ1 H
  have fσ1 : FX (fun id => id = a2 + 1) (fun id k => (id = a2 ∧ k = 1)) σ0 σ1 := FX_tr f0 cσ1 (fun x (h9 : x = a2 + 1) => (show x = a2 + 1 from h9)) (fun x k (h9 : (x = a2 ∧ k = 1)) => (show (x = a2 + 1) ∨ ((x = a2 ∧ k = 1)) from Or.inr (show (x = a2 ∧ k = 1) from h9)))
  have t_5 := XI_c1 mσ1 (lim_N ha2)
  have t_6 := nl_le ha2
  have k_7 : (gi σ1 c0 1).toInt = (gi σ0 c0 1).toInt := congrArg Int32.toInt (FX_i cσ1 (show ¬ (c0 = a2 + 1) from by first | omega | (have uoa2 := un oa2; omega)) (show ¬ ((c0 = a2 ∧ 1 = 1)) from by first | omega | (have uoa2 := un oa2; omega)))
  have w_8 := Int32.toInt_lt a1
  have w_9 := Int32.le_toInt a1
  have t_10 := XI_c1 mσ1 (id := c0) (k := 1) (lim_M0_1 ic0 hc0)
  try have t_11 : (a1 - (gi σ1 c0 1)).toInt = a1.toInt - (gi σ1 c0 1).toInt := i_sub (x := a1) (y := (gi σ1 c0 1)) (by show (_ : Int) ≤ a1.toInt - (gi σ1 c0 1).toInt; omega) (by show a1.toInt - (gi σ1 c0 1).toInt ≤ (_ : Int); omega)
  refine kF_X4_telling (show ci0 = 0 ∨ ci0 = 3 ∨ ci0 = 4 ∨ ci0 = 6 ∨ ci0 = 7 ∨ ci0 = 8 ∨ ci0 = 10 from by omega) hc0 lc0 ha2 mσ1  (by first | omega | assumption | rfl) (by first | omega | assumption | rfl) (fun r4 σ3 mσ3 cσ3 (pσ3_0 : (gi σ3 a2 1).toInt ≤ (gi σ1 a2 1).toInt + 6) hσ3 => ?_)
  replace H := f_b hσ3 H
  have fσ3 : FX (fun id => id = a2 + 1) (fun id k => (id = a2 ∧ k = 1)) σ0 σ3 := FX_tr fσ1 cσ3 (fun x (h9 : x = a2 + 1) => (show x = a2 + 1 from h9)) (fun x k (h9 : (x = a2 ∧ k = 1)) => (show (x = a2 + 1) ∨ ((x = a2 ∧ k = 1)) from Or.inr (show (x = a2 ∧ k = 1) from h9)))
  have t_12 := XI_c1 mσ3 (lim_N ha2)
  have t_13 := nl_le ha2
  have k_14 : (gi σ3 c0 1).toInt = (gi σ1 c0 1).toInt := congrArg Int32.toInt (FX_i cσ3 (show ¬ (c0 = a2 + 1) from by first | omega | (have uoa2 := un oa2; omega)) (show ¬ ((c0 = a2 ∧ 1 = 1)) from by first | omega | (have uoa2 := un oa2; omega)))
  have w_15 := Int32.toInt_lt r4
  have w_16 := Int32.le_toInt r4
  exact h9ret r4 σ3 mσ3 fσ3 (by first | omega | assumption | rfl) (H0.trans H.symm)
noncomputable def F_KD_telling (ci : Nat) (c0 : Nat) (a1 : Int32) (a2 : Nat) (σ : Sg) : Int32 × Sg := (if ci = 0 then F_X0_telling c0 a1 a2 σ else (if ci = 3 then F_X4_telling c0 a1 a2 σ else (if ci = 4 then F_X4_telling c0 a1 a2 σ else (if ci = 6 then F_X4_telling c0 a1 a2 σ else (if ci = 7 then F_X7_telling c0 a1 a2 σ else (if ci = 8 then F_X4_telling c0 a1 a2 σ else (if ci = 10 then F_X0_telling c0 a1 a2 σ else (0, σ))))))))
theorem kF_KD_telling {l : Launch} {V : Vx} {ci c0 : Nat} {a1 : Int32} {a2 : Nat} {σ0 : Sg} {Qk : Int32 → Sg → Prop} (s : isMc ci) (h : kd c0 = (10 + ci, 0)) (lc : c0 ∈ ids V) (ha2 : isN a2) (m0 : XI V σ0) (pre0 : a2 = 64) (pre1 : (gi σ0 a2 1).toInt ≤ 988) (h9ret : ∀ (r : Int32) (σ' : Sg), XI V σ' → FX (fun id => id = a2 + 1) (fun id k => (id = a2 ∧ k = 1)) σ0 σ' → ((gi σ' a2 1).toInt ≤ (gi σ0 a2 1).toInt + 12) → (F_KD_telling ci c0 a1 a2 σ0 = (r, σ')) → Qk r σ') : KD_telling l V ci c0 a1 a2 σ0 Qk := by
  refine ⟨fun e => ?_, fun e => ?_, fun e => ?_, fun e => ?_, fun e => ?_, fun e => ?_, fun e => ?_⟩
  · exact kF_X0_telling (by omega) h lc ha2 m0 pre0 (by omega) (fun r σ' m f p hF => h9ret r σ' m f (by omega) (by unfold F_KD_telling; rw [if_pos e]; exact hF))
  · exact kF_X4_telling (by omega) h lc ha2 m0 pre0 (by omega) (fun r σ' m f p hF => h9ret r σ' m f (by omega) (by unfold F_KD_telling; rw [if_neg (show ¬ ci = 0 by omega), if_pos e]; exact hF))
  · exact kF_X4_telling (by omega) h lc ha2 m0 pre0 (by omega) (fun r σ' m f p hF => h9ret r σ' m f (by omega) (by unfold F_KD_telling; rw [if_neg (show ¬ ci = 0 by omega), if_neg (show ¬ ci = 3 by omega), if_pos e]; exact hF))
  · exact kF_X4_telling (by omega) h lc ha2 m0 pre0 (by omega) (fun r σ' m f p hF => h9ret r σ' m f (by omega) (by unfold F_KD_telling; rw [if_neg (show ¬ ci = 0 by omega), if_neg (show ¬ ci = 3 by omega), if_neg (show ¬ ci = 4 by omega), if_pos e]; exact hF))
  · exact kF_X7_telling (by omega) h lc ha2 m0 pre0 (by omega) (fun r σ' m f p hF => h9ret r σ' m f (by omega) (by unfold F_KD_telling; rw [if_neg (show ¬ ci = 0 by omega), if_neg (show ¬ ci = 3 by omega), if_neg (show ¬ ci = 4 by omega), if_neg (show ¬ ci = 6 by omega), if_pos e]; exact hF))
  · exact kF_X4_telling (by omega) h lc ha2 m0 pre0 (by omega) (fun r σ' m f p hF => h9ret r σ' m f (by omega) (by unfold F_KD_telling; rw [if_neg (show ¬ ci = 0 by omega), if_neg (show ¬ ci = 3 by omega), if_neg (show ¬ ci = 4 by omega), if_neg (show ¬ ci = 6 by omega), if_neg (show ¬ ci = 7 by omega), if_pos e]; exact hF))
  · exact kF_X0_telling (by omega) h lc ha2 m0 pre0 (by omega) (fun r σ' m f p hF => h9ret r σ' m f (by omega) (by unfold F_KD_telling; rw [if_neg (show ¬ ci = 0 by omega), if_neg (show ¬ ci = 3 by omega), if_neg (show ¬ ci = 4 by omega), if_neg (show ¬ ci = 6 by omega), if_neg (show ¬ ci = 7 by omega), if_neg (show ¬ ci = 8 by omega), if_pos e]; exact hF))
noncomputable def F_X11_isMower (a1 : Int32) (σ : Sg) : Int32 × Sg := (if a1 < 0 then ((0 : Int32), σ) else (if (gi σ 1 1) ≤ a1 then ((0 : Int32), σ) else ((1 : Int32), σ)))
set_option maxRecDepth 100000 in
set_option maxHeartbeats 4000000 in
theorem kF_X11_isMower {l : Launch} {V : Vx} {a1 : Int32} {σ0 : Sg} {Qk : Int32 → Sg → Prop} (m0 : XI V σ0) (h9ret : ∀ (r : Int32) (σ' : Sg), XI V σ' → FX (fun id => False) (fun _ _ => False) σ0 σ' → (0 ≤ r.toInt) → (r.toInt ≤ 1) → ((r.toInt = 1 ∧ 0 ≤ a1.toInt ∧ a1.toInt < (gi σ0 1 1).toInt) ∨ (r.toInt = 0 ∧ (a1.toInt < 0 ∨ (gi σ0 1 1).toInt ≤ a1.toInt))) → (F_X11_isMower a1 σ0 = (r, σ')) → Qk r σ') : K_X11_isMower l V a1 σ0 Qk := by
  refine e_X11_isMower (fun M hl hV hN C => ?_)
  subst hl
  subst hV
  obtain ⟨R9, H0⟩ : ∃ R9, F_X11_isMower a1 σ0 = R9 := ⟨_, rfl⟩
  have f0 : FX (fun id => False) (fun _ _ => False) σ0 σ0 := FX_rf
  have t_1 := XI_c1 m0 (id := 1) (k := 1) (lim_C0_1 (Or.inl rfl))
  have H := H0
  unfold F_X11_isMower at H
  refine s_X11_isMower_0 C hN  ?_
  refine ⟨?_, ?_⟩
  · intro q_2
    replace H := f_t q_2 H
    have w_3 := Int32.toInt_lt a1
    have w_4 := Int32.le_toInt a1
    have b_5 : a1.toInt < 0 := Int32.lt_iff_toInt_lt.mp q_2
    have z_6 : (0 : Int32).toInt = 0 := rfl
    exact h9ret (0 : Int32) σ0 m0 f0 (by omega) (by omega) (by first | omega | assumption | rfl) (H0.trans H.symm)
  · intro q_2
    replace H := f_f q_2 H
    have w_7 := Int32.toInt_lt a1
    have w_8 := Int32.le_toInt a1
    have b_9 : ¬ a1.toInt < 0 := fun h9 => q_2 (Int32.lt_iff_toInt_lt.mpr h9)
    refine ⟨?_, ?_⟩
    · intro q_10
      replace H := f_t q_10 H
      have b_11 : (gi σ0 1 1).toInt ≤ a1.toInt := Int32.le_iff_toInt_le.mp q_10
      have z_12 : (0 : Int32).toInt = 0 := rfl
      exact h9ret (0 : Int32) σ0 m0 f0 (by omega) (by omega) (by first | omega | assumption | rfl) (H0.trans H.symm)
    · intro q_10
      replace H := f_f q_10 H
      have b_13 : ¬ (gi σ0 1 1).toInt ≤ a1.toInt := fun h9 => q_10 (Int32.le_iff_toInt_le.mpr h9)
      have z_14 : (1 : Int32).toInt = 1 := rfl
      exact h9ret (1 : Int32) σ0 m0 f0 (by omega) (by omega) (by first | omega | assumption | rfl) (H0.trans H.symm)
noncomputable def F_X11_trace (a1 : Int32) (σ : Sg) : Int32 × Sg := fb (F_X5_has 64 a1 σ) (fun r2 σ1 => (if r2 = 0 then ((-1 : Int32), σ1) else (gi σ1 65 a1.toNatClampNeg, σ1)))
set_option maxRecDepth 100000 in
set_option maxHeartbeats 4000000 in
theorem kF_X11_trace {l : Launch} {V : Vx} {a1 : Int32} {σ0 : Sg} {Qk : Int32 → Sg → Prop} (m0 : XI V σ0) (h9ret : ∀ (r : Int32) (σ' : Sg), XI V σ' → FX (fun id => False) (fun _ _ => False) σ0 σ' → (F_X11_trace a1 σ0 = (r, σ')) → Qk r σ') : K_X11_trace l V a1 σ0 Qk := by
  refine e_X11_trace (fun M hl hV hN C => ?_)
  subst hl
  subst hV
  obtain ⟨R9, H0⟩ : ∃ R9, F_X11_trace a1 σ0 = R9 := ⟨_, rfl⟩
  have n9 : (nl 64 : Int) = 20 := by decide +kernel
  have f0 : FX (fun id => False) (fun _ _ => False) σ0 σ0 := FX_rf
  have H := H0
  unfold F_X11_trace at H
  refine s_X11_trace_0 C hN  ?_
  refine kF_X5_has (Or.inr (Or.inr (Or.inr (Or.inr (Or.inr (Or.inr (Or.inr (Or.inr (Or.inr (rfl)))))))))) m0   (fun r2 σ1 mσ1 cσ1 plσ1 phσ1 (pσ1_0 : (r2.toInt = 1 ∧ 0 ≤ a1.toInt ∧ a1.toInt < (gi σ0 64 1).toInt ∧ a1.toInt < (nl 64 : Int)) ∨ r2.toInt = 0) hσ1 => ?_)
  obtain rfl := FX_nil cσ1
  replace H := f_b hσ1 H
  refine ⟨?_, ?_⟩
  · intro q_1
    replace H := f_t q_1 H
    have b_2 : r2.toInt = 0 := congrArg Int32.toInt q_1
    have z_3 : (-1 : Int32).toInt = -1 := rfl
    exact h9ret (-1 : Int32) σ0 m0 f0 (H0.trans H.symm)
  · intro q_1
    replace H := f_f q_1 H
    have b_4 : ¬ r2.toInt = 0 := fun h9 => q_1 (Int32.toInt_inj.mp h9)
    have w_5 := Int32.toInt_lt a1
    have w_6 := Int32.le_toInt a1
    have hv_7 : vp_in a1 20 := vp_in_iff.mpr ⟨by omega, by omega⟩
    refine ⟨hv_7, ?_⟩
    exact h9ret (gi σ0 65 a1.toNatClampNeg) σ0 m0 f0 (H0.trans H.symm)
noncomputable def F_X11_row (a1 : Int32) (a2 : Int32) (a3 : Int32) (σ : Sg) : Int32 × Sg := fb (F_X11_isMower a1 σ) (fun r2 σ1 => (if r2 = 0 then ((-1 : Int32), σ1) else (if a2 < 0 then ((-1 : Int32), σ1) else (if a2 ≤ (3 : Int32) then (if a3 < 0 then ((-2 : Int32), σ1) else (if a3 ≤ (9 : Int32) then fm (gr σ1 2 a1.toNatClampNeg) ((0, σ)) (fun μ9 ci9 => fl (if msub ci9 10 then (1 : Int32) else 0) (fun v10 => (if v10 = 0 then ((-3 : Int32), σ1) else fl (gi σ1 8 (((4 : Int32) * a1) + a2).toNatClampNeg) (fun v13 => fl (si σ1 8 (((4 : Int32) * a1) + a2).toNatClampNeg a3) (fun σ15 => (v13, σ15)))))) else ((-2 : Int32), σ1))) else ((-1 : Int32), σ1)))))
set_option maxRecDepth 100000 in
set_option maxHeartbeats 4000000 in
theorem kF_X11_row {l : Launch} {V : Vx} {a1 : Int32} {a2 : Int32} {a3 : Int32} {σ0 : Sg} {Qk : Int32 → Sg → Prop} (m0 : XI V σ0) (nn_1 : NN σ0 1) (h9ret : ∀ (r : Int32) (σ' : Sg), XI V σ' → FX (fun id => id = 8) (fun _ _ => False) σ0 σ' → (NN σ' 1) → (F_X11_row a1 a2 a3 σ0 = (r, σ')) → Qk r σ') : K_X11_row l V a1 a2 a3 σ0 Qk := by
  refine e_X11_row (fun M hl hV hN C => ?_)
  subst hl
  subst hV
  obtain ⟨R9, H0⟩ : ∃ R9, F_X11_row a1 a2 a3 σ0 = R9 := ⟨_, rfl⟩
  have f0 : FX (fun id => id = 8) (fun _ _ => False) σ0 σ0 := FX_rf
  have t_1 := XI_c1 m0 (id := 1) (k := 1) (lim_C0_1 (Or.inl rfl))
  have H := H0
  unfold F_X11_row at H
  refine s_X11_row_0 C hN  ?_
  refine kF_X11_isMower  m0   (fun r2 σ1 mσ1 cσ1 plσ1 phσ1 (pσ1_0 : (r2.toInt = 1 ∧ 0 ≤ a1.toInt ∧ a1.toInt < (gi σ0 1 1).toInt) ∨ (r2.toInt = 0 ∧ (a1.toInt < 0 ∨ (gi σ0 1 1).toInt ≤ a1.toInt))) hσ1 => ?_)
  obtain rfl := FX_nil cσ1
  replace H := f_b hσ1 H
  refine ⟨?_, ?_⟩
  · intro q_2
    replace H := f_t q_2 H
    have b_3 : r2.toInt = 0 := congrArg Int32.toInt q_2
    have z_4 : (-1 : Int32).toInt = -1 := rfl
    exact h9ret (-1 : Int32) σ0 m0 f0 nn_1 (H0.trans H.symm)
  · intro q_2
    replace H := f_f q_2 H
    have b_5 : ¬ r2.toInt = 0 := fun h9 => q_2 (Int32.toInt_inj.mp h9)
    refine ⟨?_, ?_⟩
    · intro q_6
      replace H := f_t q_6 H
      have w_7 := Int32.toInt_lt a2
      have w_8 := Int32.le_toInt a2
      have b_9 : a2.toInt < 0 := Int32.lt_iff_toInt_lt.mp q_6
      have z_10 : (-1 : Int32).toInt = -1 := rfl
      exact h9ret (-1 : Int32) σ0 m0 f0 nn_1 (H0.trans H.symm)
    · intro q_6
      replace H := f_f q_6 H
      have w_11 := Int32.toInt_lt a2
      have w_12 := Int32.le_toInt a2
      have b_13 : ¬ a2.toInt < 0 := fun h9 => q_6 (Int32.lt_iff_toInt_lt.mpr h9)
      refine ⟨?_, ?_⟩
      · intro q_14
        replace H := f_t q_14 H
        have b_15 : a2.toInt ≤ 3 := Int32.le_iff_toInt_le.mp q_14
        refine ⟨?_, ?_⟩
        · intro q_16
          replace H := f_t q_16 H
          have w_17 := Int32.toInt_lt a3
          have w_18 := Int32.le_toInt a3
          have b_19 : a3.toInt < 0 := Int32.lt_iff_toInt_lt.mp q_16
          have z_20 : (-2 : Int32).toInt = -2 := rfl
          exact h9ret (-2 : Int32) σ0 m0 f0 nn_1 (H0.trans H.symm)
        · intro q_16
          replace H := f_f q_16 H
          have w_21 := Int32.toInt_lt a3
          have w_22 := Int32.le_toInt a3
          have b_23 : ¬ a3.toInt < 0 := fun h9 => q_16 (Int32.lt_iff_toInt_lt.mpr h9)
          refine ⟨?_, ?_⟩
          · intro q_24
            replace H := f_t q_24 H
            have b_25 : a3.toInt ≤ 9 := Int32.le_iff_toInt_le.mp q_24
            have w_26 := Int32.toInt_lt a1
            have w_27 := Int32.le_toInt a1
            have hv_28 : vp_in a1 6 := vp_in_iff.mpr ⟨by omega, by omega⟩
            have ec_29 := cl_eq (x := a1) (by omega)
            obtain ⟨μ9, ci9, eμ9, sμ9, hμ9, lμ9⟩ := XI_mow m0 (Or.inl rfl) (nn_1.2 a1.toNatClampNeg (by omega))
            have gμ9 := kdM_ge sμ9 hμ9
            refine ⟨hv_28, μ9, ci9, eμ9, sμ9, hμ9, lμ9, ?_⟩
            replace H := f_m eμ9 hμ9 H
            intro v10 ev10
            replace H := f_l ev10 H
            have t_30 : v10.toInt = 0 ∨ v10.toInt = 1 := by rw [ev10]; split <;> decide
            refine ⟨?_, ?_⟩
            · intro q_31
              replace H := f_f q_31 H
              have b_32 : ¬ v10.toInt = 0 := fun h9 => q_31 (Int32.toInt_inj.mp h9)
              try have t_33 : ((4 : Int32) * a1).toInt = 4 * a1.toInt := i_mull rfl (by omega) (by omega)
              try have t_34 : (((4 : Int32) * a1) + a2).toInt = ((4 : Int32) * a1).toInt + a2.toInt := i_add (x := ((4 : Int32) * a1)) (y := a2) (by show (_ : Int) ≤ ((4 : Int32) * a1).toInt + a2.toInt; omega) (by show ((4 : Int32) * a1).toInt + a2.toInt ≤ (_ : Int); omega)
              have hv_35 : vp_in (((4 : Int32) * a1) + a2) 24 := vp_in_iff.mpr ⟨by omega, by omega⟩
              refine ⟨hv_35, ?_⟩
              intro v13 ev13
              replace H := f_l ev13 H
              refine ⟨hv_35, ?_⟩
              intro σ15 eσ15
              replace H := f_l eσ15 H
              have mσ15 : XI (mV M) σ15 := by rw [eσ15]; exact XIs_n m0 (lim_C7 (Or.inl rfl) _)
              have fσ15 : FX (fun id => id = 8) (fun _ _ => False) σ0 σ15 := by rw [eσ15]; exact FX_si f0 (Or.inl (show 8 = 8 from rfl))
              have k_36 : (gi σ15 1 1).toInt = (gi σ0 1 1).toInt := by rw [eσ15]; exact congrArg Int32.toInt (gi_si_ne (Or.inl (by omega)))
              have nσ15_1 : NN σ15 1 := by rw [eσ15]; exact NN_si nn_1 (by omega) (fun h9 => absurd h9 (by omega))
              exact h9ret v13 σ15 mσ15 fσ15 nσ15_1 (H0.trans H.symm)
            · intro q_31
              replace H := f_t q_31 H
              have b_37 : v10.toInt = 0 := congrArg Int32.toInt q_31
              have z_38 : (-3 : Int32).toInt = -3 := rfl
              exact h9ret (-3 : Int32) σ0 m0 f0 nn_1 (H0.trans H.symm)
          · intro q_24
            replace H := f_f q_24 H
            have b_39 : ¬ a3.toInt ≤ 9 := fun h9 => q_24 (Int32.le_iff_toInt_le.mpr h9)
            have z_40 : (-2 : Int32).toInt = -2 := rfl
            exact h9ret (-2 : Int32) σ0 m0 f0 nn_1 (H0.trans H.symm)
      · intro q_14
        replace H := f_f q_14 H
        have b_41 : ¬ a2.toInt ≤ 3 := fun h9 => q_14 (Int32.le_iff_toInt_le.mpr h9)
        have z_42 : (-1 : Int32).toInt = -1 := rfl
        exact h9ret (-1 : Int32) σ0 m0 f0 nn_1 (H0.trans H.symm)
noncomputable def F_X11_isOfKind (a1 : Nat) (a2 : Int32) (σ : Sg) : Int32 × Sg := (if a2.toInt = 0 then ((1 : Int32), σ) else (if a2.toInt = 1 then fl (if msub ((kd a1).1 - 10) 8 then (1 : Int32) else 0) (fun v2 => (v2, σ)) else (if a2.toInt = 2 then fl (if msub ((kd a1).1 - 10) 3 then (1 : Int32) else 0) (fun v3 => (v3, σ)) else (if a2.toInt = 3 then fl (if msub ((kd a1).1 - 10) 0 then (1 : Int32) else 0) (fun v4 => (v4, σ)) else (if a2.toInt = 4 then fl (if msub ((kd a1).1 - 10) 6 then (1 : Int32) else 0) (fun v5 => (v5, σ)) else (if a2.toInt = 5 then fl (if msub ((kd a1).1 - 10) 7 then (1 : Int32) else 0) (fun v6 => (v6, σ)) else (if a2.toInt = 6 then fl (if msub ((kd a1).1 - 10) 10 then (1 : Int32) else 0) (fun v7 => (v7, σ)) else ((0 : Int32), σ))))))))
set_option maxRecDepth 100000 in
set_option maxHeartbeats 4000000 in
theorem kF_X11_isOfKind {l : Launch} {V : Vx} {a1 : Nat} {a2 : Int32} {σ0 : Sg} {Qk : Int32 → Sg → Prop} {ci1 : Nat} (sa1 : isMc ci1) (ha1 : kd a1 = (10 + ci1, 0)) (la1 : a1 ∈ ids (V)) (m0 : XI V σ0) (h9ret : ∀ (r : Int32) (σ' : Sg), XI V σ' → FX (fun id => False) (fun _ _ => False) σ0 σ' → (F_X11_isOfKind a1 a2 σ0 = (r, σ')) → Qk r σ') : K_X11_isOfKind l V a1 a2 σ0 Qk := by
  refine e_X11_isOfKind (fun M hl hV hN C => ?_)
  subst hl
  subst hV
  obtain ⟨R9, H0⟩ : ∃ R9, F_X11_isOfKind a1 a2 σ0 = R9 := ⟨_, rfl⟩
  have ga1 := kdM_ge sa1 ha1
  have f0 : FX (fun id => False) (fun _ _ => False) σ0 σ0 := FX_rf
  have H := H0
  unfold F_X11_isOfKind at H
  rw [show (kd a1).1 - 10 = ci1 from by rw [ha1]; exact Nat.add_sub_cancel_left _ _] at H
  refine s_X11_isOfKind_0 C hN sa1 ha1 la1 ?_
  refine ⟨?_, ?_, ?_, ?_, ?_, ?_, ?_, ?_⟩
  · intro q_1
    replace H := f_f (by omega) H
    replace H := f_f (by omega) H
    replace H := f_f (by omega) H
    replace H := f_f (by omega) H
    replace H := f_f (by omega) H
    replace H := f_f (by omega) H
    replace H := f_f (by omega) H
    have z_2 : (0 : Int32).toInt = 0 := rfl
    exact h9ret (0 : Int32) σ0 m0 f0 (H0.trans H.symm)
  · intro q_1
    replace H := f_t q_1 H
    have z_3 : (1 : Int32).toInt = 1 := rfl
    exact h9ret (1 : Int32) σ0 m0 f0 (H0.trans H.symm)
  · intro q_1
    replace H := f_f (by omega) H
    replace H := f_t q_1 H
    intro v2 ev2
    replace H := f_l ev2 H
    have t_4 : v2.toInt = 0 ∨ v2.toInt = 1 := by rw [ev2]; split <;> decide
    refine ⟨i_bool (by omega) (by omega), ?_⟩
    exact h9ret v2 σ0 m0 f0 (H0.trans H.symm)
  · intro q_1
    replace H := f_f (by omega) H
    replace H := f_f (by omega) H
    replace H := f_t q_1 H
    intro v3 ev3
    replace H := f_l ev3 H
    have t_5 : v3.toInt = 0 ∨ v3.toInt = 1 := by rw [ev3]; split <;> decide
    refine ⟨i_bool (by omega) (by omega), ?_⟩
    exact h9ret v3 σ0 m0 f0 (H0.trans H.symm)
  · intro q_1
    replace H := f_f (by omega) H
    replace H := f_f (by omega) H
    replace H := f_f (by omega) H
    replace H := f_t q_1 H
    intro v4 ev4
    replace H := f_l ev4 H
    have t_6 : v4.toInt = 0 ∨ v4.toInt = 1 := by rw [ev4]; split <;> decide
    refine ⟨i_bool (by omega) (by omega), ?_⟩
    exact h9ret v4 σ0 m0 f0 (H0.trans H.symm)
  · intro q_1
    replace H := f_f (by omega) H
    replace H := f_f (by omega) H
    replace H := f_f (by omega) H
    replace H := f_f (by omega) H
    replace H := f_t q_1 H
    intro v5 ev5
    replace H := f_l ev5 H
    have t_7 : v5.toInt = 0 ∨ v5.toInt = 1 := by rw [ev5]; split <;> decide
    refine ⟨i_bool (by omega) (by omega), ?_⟩
    exact h9ret v5 σ0 m0 f0 (H0.trans H.symm)
  · intro q_1
    replace H := f_f (by omega) H
    replace H := f_f (by omega) H
    replace H := f_f (by omega) H
    replace H := f_f (by omega) H
    replace H := f_f (by omega) H
    replace H := f_t q_1 H
    intro v6 ev6
    replace H := f_l ev6 H
    have t_8 : v6.toInt = 0 ∨ v6.toInt = 1 := by rw [ev6]; split <;> decide
    refine ⟨i_bool (by omega) (by omega), ?_⟩
    exact h9ret v6 σ0 m0 f0 (H0.trans H.symm)
  · intro q_1
    replace H := f_f (by omega) H
    replace H := f_f (by omega) H
    replace H := f_f (by omega) H
    replace H := f_f (by omega) H
    replace H := f_f (by omega) H
    replace H := f_f (by omega) H
    replace H := f_t q_1 H
    intro v7 ev7
    replace H := f_l ev7 H
    have t_9 : v7.toInt = 0 ∨ v7.toInt = 1 := by rw [ev7]; split <;> decide
    refine ⟨i_bool (by omega) (by omega), ?_⟩
    exact h9ret v7 σ0 m0 f0 (H0.trans H.symm)
noncomputable def F_X11_taken (a1 : Int32) (a2 : Int32) (σ : Sg) : Int32 × Sg := (if a2 < 0 then ((-2 : Int32), σ) else (if a2 ≤ (6 : Int32) then fb (F_X11_isMower a1 σ) (fun r4 σ3 => (if r4 = 0 then ((-11 : Int32), σ3) else fm (gr σ3 2 a1.toNatClampNeg) ((0, σ)) (fun μ7 ci7 => fb (F_X11_isOfKind μ7 a2 σ3) (fun r9 σ8 => (if r9 = 0 then ((-12 : Int32), σ8) else fm (gr σ8 2 a1.toNatClampNeg) ((0, σ)) (fun μ12 ci12 => (gi σ8 μ12 0, σ8))))))) else ((-2 : Int32), σ)))
set_option maxRecDepth 100000 in
set_option maxHeartbeats 4000000 in
theorem kF_X11_taken {l : Launch} {V : Vx} {a1 : Int32} {a2 : Int32} {σ0 : Sg} {Qk : Int32 → Sg → Prop} (m0 : XI V σ0) (nn_1 : NN σ0 1) (h9ret : ∀ (r : Int32) (σ' : Sg), XI V σ' → FX (fun id => False) (fun _ _ => False) σ0 σ' → (NN σ' 1) → (F_X11_taken a1 a2 σ0 = (r, σ')) → Qk r σ') : K_X11_taken l V a1 a2 σ0 Qk := by
  refine e_X11_taken (fun M hl hV hN C => ?_)
  subst hl
  subst hV
  obtain ⟨R9, H0⟩ : ∃ R9, F_X11_taken a1 a2 σ0 = R9 := ⟨_, rfl⟩
  have f0 : FX (fun id => False) (fun _ _ => False) σ0 σ0 := FX_rf
  have t_1 := XI_c1 m0 (id := 1) (k := 1) (lim_C0_1 (Or.inl rfl))
  have H := H0
  unfold F_X11_taken at H
  refine s_X11_taken_0 C hN  ?_
  refine ⟨?_, ?_⟩
  · intro q_2
    replace H := f_t q_2 H
    have w_3 := Int32.toInt_lt a2
    have w_4 := Int32.le_toInt a2
    have b_5 : a2.toInt < 0 := Int32.lt_iff_toInt_lt.mp q_2
    have z_6 : (-2 : Int32).toInt = -2 := rfl
    exact h9ret (-2 : Int32) σ0 m0 f0 nn_1 (H0.trans H.symm)
  · intro q_2
    replace H := f_f q_2 H
    have w_7 := Int32.toInt_lt a2
    have w_8 := Int32.le_toInt a2
    have b_9 : ¬ a2.toInt < 0 := fun h9 => q_2 (Int32.lt_iff_toInt_lt.mpr h9)
    refine ⟨?_, ?_⟩
    · intro q_10
      replace H := f_t q_10 H
      have b_11 : a2.toInt ≤ 6 := Int32.le_iff_toInt_le.mp q_10
      refine kF_X11_isMower  m0   (fun r4 σ3 mσ3 cσ3 plσ3 phσ3 (pσ3_0 : (r4.toInt = 1 ∧ 0 ≤ a1.toInt ∧ a1.toInt < (gi σ0 1 1).toInt) ∨ (r4.toInt = 0 ∧ (a1.toInt < 0 ∨ (gi σ0 1 1).toInt ≤ a1.toInt))) hσ3 => ?_)
      obtain rfl := FX_nil cσ3
      replace H := f_b hσ3 H
      refine ⟨?_, ?_⟩
      · intro q_12
        replace H := f_f q_12 H
        have b_13 : ¬ r4.toInt = 0 := fun h9 => q_12 (Int32.toInt_inj.mp h9)
        have w_14 := Int32.toInt_lt a1
        have w_15 := Int32.le_toInt a1
        have hv_16 : vp_in a1 6 := vp_in_iff.mpr ⟨by omega, by omega⟩
        have ec_17 := cl_eq (x := a1) (by omega)
        obtain ⟨μ7, ci7, eμ7, sμ7, hμ7, lμ7⟩ := XI_mow m0 (Or.inl rfl) (nn_1.2 a1.toNatClampNeg (by omega))
        have gμ7 := kdM_ge sμ7 hμ7
        refine ⟨hv_16, μ7, ci7, eμ7, sμ7, hμ7, lμ7, ?_⟩
        replace H := f_m eμ7 hμ7 H
        refine kF_X11_isOfKind sμ7 hμ7 lμ7 m0   (fun r9 σ8 mσ8 cσ8 hσ8 => ?_)
        obtain rfl := FX_nil cσ8
        replace H := f_b hσ8 H
        refine ⟨?_, ?_⟩
        · intro q_18
          replace H := f_t q_18 H
          have w_19 := Int32.toInt_lt r9
          have w_20 := Int32.le_toInt r9
          have b_21 : r9.toInt = 0 := congrArg Int32.toInt q_18
          have z_22 : (-12 : Int32).toInt = -12 := rfl
          exact h9ret (-12 : Int32) σ0 m0 f0 nn_1 (H0.trans H.symm)
        · intro q_18
          replace H := f_f q_18 H
          have w_23 := Int32.toInt_lt r9
          have w_24 := Int32.le_toInt r9
          have b_25 : ¬ r9.toInt = 0 := fun h9 => q_18 (Int32.toInt_inj.mp h9)
          have ec_26 := cl_eq (x := a1) (by omega)
          obtain ⟨μ12, ci12, eμ12, sμ12, hμ12, lμ12⟩ := XI_mow m0 (Or.inl rfl) (nn_1.2 a1.toNatClampNeg (by omega))
          have gμ12 := kdM_ge sμ12 hμ12
          refine ⟨hv_16, μ12, ci12, eμ12, sμ12, hμ12, lμ12, ?_⟩
          replace H := f_m eμ12 hμ12 H
          exact h9ret (gi σ0 μ12 0) σ0 m0 f0 nn_1 (H0.trans H.symm)
      · intro q_12
        replace H := f_t q_12 H
        have b_27 : r4.toInt = 0 := congrArg Int32.toInt q_12
        have z_28 : (-11 : Int32).toInt = -11 := rfl
        exact h9ret (-11 : Int32) σ0 m0 f0 nn_1 (H0.trans H.symm)
    · intro q_10
      replace H := f_f q_10 H
      have b_29 : ¬ a2.toInt ≤ 6 := fun h9 => q_10 (Int32.le_iff_toInt_le.mpr h9)
      have z_30 : (-2 : Int32).toInt = -2 := rfl
      exact h9ret (-2 : Int32) σ0 m0 f0 nn_1 (H0.trans H.symm)
noncomputable def F_X11_act (a1 : Int32) (a2 : Int32) (a3 : Int32) (σ : Sg) : Int32 × Sg := fl (si σ 64 1 (0 : Int32)) (fun σ1 => fb (F_X11_isMower a1 σ1) (fun r3 σ2 => (if r3 = 0 then ((0 : Int32), σ2) else fm (gr σ2 2 a1.toNatClampNeg) ((0, σ)) (fun μ6 ci6 => (if a2.toInt = 0 then fb (F_KD_mowing ci6 μ6 a3 64 σ2) (fun r9 σ8 => (r9, σ8)) else (if a2.toInt = 1 then fb (F_KD_whetting ci6 μ6 a3 64 σ2) (fun r11 σ10 => (r11, σ10)) else (if a2.toInt = 2 then fb (F_KD_telling ci6 μ6 a3 64 σ2) (fun r13 σ12 => (r13, σ12)) else ((0 : Int32), σ2))))))))
set_option maxRecDepth 100000 in
set_option maxHeartbeats 4000000 in
theorem kF_X11_act {l : Launch} {V : Vx} {a1 : Int32} {a2 : Int32} {a3 : Int32} {σ0 : Sg} {Qk : Int32 → Sg → Prop} (m0 : XI V σ0) (nn_1 : NN σ0 1) (h9ret : ∀ (r : Int32) (σ' : Sg), XI V σ' → FX (fun id => id = 65) (fun id k => (id = 64 ∧ k = 1)) σ0 σ' → (NN σ' 1) → (F_X11_act a1 a2 a3 σ0 = (r, σ')) → Qk r σ') : K_X11_act l V a1 a2 a3 σ0 Qk := by
  refine e_X11_act (fun M hl hV hN C => ?_)
  subst hl
  subst hV
  obtain ⟨R9, H0⟩ : ∃ R9, F_X11_act a1 a2 a3 σ0 = R9 := ⟨_, rfl⟩
  have f0 : FX (fun id => id = 65) (fun id k => (id = 64 ∧ k = 1)) σ0 σ0 := FX_rf
  have t_1 := XI_c1 m0 (id := 1) (k := 1) (lim_C0_1 (Or.inl rfl))
  have t_2 := XI_c1 m0 (lim_N (Or.inr (Or.inr (Or.inr (Or.inr (Or.inr (Or.inr (Or.inr (Or.inr (Or.inr (rfl)))))))))))
  have t_3 := nl_le (Or.inr (Or.inr (Or.inr (Or.inr (Or.inr (Or.inr (Or.inr (Or.inr (Or.inr (rfl))))))))))
  have H := H0
  unfold F_X11_act at H
  refine s_X11_act_0 C hN  ?_
  intro σ1 eσ1
  replace H := f_l eσ1 H
  have z_4 : (0 : Int32).toInt = 0 := rfl
  have mσ1 : XI (mV M) σ1 := by rw [eσ1]; exact XIs_b m0 (lim_N (Or.inr (Or.inr (Or.inr (Or.inr (Or.inr (Or.inr (Or.inr (Or.inr (Or.inr (rfl))))))))))) (by omega) (by omega)
  have fσ1 : FX (fun id => id = 65) (fun id k => (id = 64 ∧ k = 1)) σ0 σ1 := by rw [eσ1]; exact FX_si f0 (Or.inr (show (64 = 64 ∧ 1 = 1) from ⟨rfl, rfl⟩))
  have k_5 : (gi σ1 1 1).toInt = (gi σ0 1 1).toInt := by rw [eσ1]; exact congrArg Int32.toInt (gi_si_ne (Or.inl (by omega)))
  have k_6 : (gi σ1 64 1).toInt = 0 := by rw [eσ1]; exact congrArg Int32.toInt gi_si_eq
  have nσ1_1 : NN σ1 1 := by rw [eσ1]; exact NN_si nn_1 (by omega) (fun h9 => absurd h9 (by omega))
  refine kF_X11_isMower  mσ1   (fun r3 σ2 mσ2 cσ2 plσ2 phσ2 (pσ2_0 : (r3.toInt = 1 ∧ 0 ≤ a1.toInt ∧ a1.toInt < (gi σ1 1 1).toInt) ∨ (r3.toInt = 0 ∧ (a1.toInt < 0 ∨ (gi σ1 1 1).toInt ≤ a1.toInt))) hσ2 => ?_)
  obtain rfl := FX_nil cσ2
  replace H := f_b hσ2 H
  have t_7 := XI_c1 mσ1 (id := 1) (k := 1) (lim_C0_1 (Or.inl rfl))
  have t_8 := XI_c1 mσ1 (lim_N (Or.inr (Or.inr (Or.inr (Or.inr (Or.inr (Or.inr (Or.inr (Or.inr (Or.inr (rfl)))))))))))
  have t_9 := nl_le (Or.inr (Or.inr (Or.inr (Or.inr (Or.inr (Or.inr (Or.inr (Or.inr (Or.inr (rfl))))))))))
  refine ⟨?_, ?_⟩
  · intro q_10
    replace H := f_f q_10 H
    have b_11 : ¬ r3.toInt = 0 := fun h9 => q_10 (Int32.toInt_inj.mp h9)
    have w_12 := Int32.toInt_lt a1
    have w_13 := Int32.le_toInt a1
    have hv_14 : vp_in a1 6 := vp_in_iff.mpr ⟨by omega, by omega⟩
    have ec_15 := cl_eq (x := a1) (by omega)
    obtain ⟨μ6, ci6, eμ6, sμ6, hμ6, lμ6⟩ := XI_mow mσ1 (Or.inl rfl) (nσ1_1.2 a1.toNatClampNeg (by omega))
    have gμ6 := kdM_ge sμ6 hμ6
    refine ⟨hv_14, μ6, ci6, eμ6, sμ6, hμ6, lμ6, ?_⟩
    replace H := f_m eμ6 hμ6 H
    refine ⟨?_, ?_, ?_, ?_⟩
    · intro q_16
      replace H := f_f (by omega) H
      replace H := f_f (by omega) H
      replace H := f_f (by omega) H
      exact h9ret (0 : Int32) σ1 mσ1 fσ1 nσ1_1 (H0.trans H.symm)
    · intro q_16
      replace H := f_t q_16 H
      have z_17 : (64 : Int32).toInt = 64 := rfl
      refine kF_KD_mowing sμ6 hμ6 lμ6 (Or.inr (Or.inr (Or.inr (Or.inr (Or.inr (Or.inr (Or.inr (Or.inr (Or.inr (rfl)))))))))) mσ1  (by first | omega | assumption | rfl) (by first | omega | assumption | rfl) (fun r9 σ8 mσ8 cσ8 (pσ8_0 : (gi σ8 64 1).toInt ≤ (gi σ1 64 1).toInt + 2) hσ8 => ?_)
      replace H := f_b hσ8 H
      have fσ8 : FX (fun id => id = 65) (fun id k => (id = 64 ∧ k = 1)) σ0 σ8 := FX_tr fσ1 cσ8 (fun x (h9 : x = 65) => (show x = 65 from h9)) (fun x k (h9 : (x = 64 ∧ k = 1)) => (show (x = 65) ∨ ((x = 64 ∧ k = 1)) from Or.inr (show (x = 64 ∧ k = 1) from h9)))
      have k_18 : (gi σ8 1 1).toInt = (gi σ1 1 1).toInt := congrArg Int32.toInt (FX_i cσ8 (show ¬ (1 = 65) from by omega) (show ¬ ((1 = 64 ∧ 1 = 1)) from by omega))
      have t_19 := XI_c1 mσ8 (lim_N (Or.inr (Or.inr (Or.inr (Or.inr (Or.inr (Or.inr (Or.inr (Or.inr (Or.inr (rfl)))))))))))
      have t_20 := nl_le (Or.inr (Or.inr (Or.inr (Or.inr (Or.inr (Or.inr (Or.inr (Or.inr (Or.inr (rfl))))))))))
      have nσ8_1 : NN σ8 1 := NN_fx nσ1_1 cσ8 (show ¬ (1 = 65) from by omega) (show ¬ (2 = 65) from by omega) (show ¬ (3 = 65) from by omega) (show ¬ ((1 = 64 ∧ 1 = 1)) from by omega) (show ¬ ((1 = 64 ∧ 3 = 1)) from by omega) (fun k (h9 : (2 = 64 ∧ k = 1)) => by omega) (fun k (h9 : (3 = 64 ∧ k = 1)) => by omega)
      exact h9ret r9 σ8 mσ8 fσ8 nσ8_1 (H0.trans H.symm)
    · intro q_16
      replace H := f_f (by omega) H
      replace H := f_t q_16 H
      have z_21 : (64 : Int32).toInt = 64 := rfl
      refine kF_KD_whetting sμ6 hμ6 lμ6 (Or.inr (Or.inr (Or.inr (Or.inr (Or.inr (Or.inr (Or.inr (Or.inr (Or.inr (rfl)))))))))) mσ1  (by first | omega | assumption | rfl) (by first | omega | assumption | rfl) (fun r11 σ10 mσ10 cσ10 (pσ10_0 : (gi σ10 64 1).toInt ≤ (gi σ1 64 1).toInt + 5) hσ10 => ?_)
      replace H := f_b hσ10 H
      have fσ10 : FX (fun id => id = 65) (fun id k => (id = 64 ∧ k = 1)) σ0 σ10 := FX_tr fσ1 cσ10 (fun x (h9 : x = 65) => (show x = 65 from h9)) (fun x k (h9 : (x = 64 ∧ k = 1)) => (show (x = 65) ∨ ((x = 64 ∧ k = 1)) from Or.inr (show (x = 64 ∧ k = 1) from h9)))
      have k_22 : (gi σ10 1 1).toInt = (gi σ1 1 1).toInt := congrArg Int32.toInt (FX_i cσ10 (show ¬ (1 = 65) from by omega) (show ¬ ((1 = 64 ∧ 1 = 1)) from by omega))
      have t_23 := XI_c1 mσ10 (lim_N (Or.inr (Or.inr (Or.inr (Or.inr (Or.inr (Or.inr (Or.inr (Or.inr (Or.inr (rfl)))))))))))
      have t_24 := nl_le (Or.inr (Or.inr (Or.inr (Or.inr (Or.inr (Or.inr (Or.inr (Or.inr (Or.inr (rfl))))))))))
      have nσ10_1 : NN σ10 1 := NN_fx nσ1_1 cσ10 (show ¬ (1 = 65) from by omega) (show ¬ (2 = 65) from by omega) (show ¬ (3 = 65) from by omega) (show ¬ ((1 = 64 ∧ 1 = 1)) from by omega) (show ¬ ((1 = 64 ∧ 3 = 1)) from by omega) (fun k (h9 : (2 = 64 ∧ k = 1)) => by omega) (fun k (h9 : (3 = 64 ∧ k = 1)) => by omega)
      exact h9ret r11 σ10 mσ10 fσ10 nσ10_1 (H0.trans H.symm)
    · intro q_16
      replace H := f_f (by omega) H
      replace H := f_f (by omega) H
      replace H := f_t q_16 H
      have z_25 : (64 : Int32).toInt = 64 := rfl
      refine kF_KD_telling sμ6 hμ6 lμ6 (Or.inr (Or.inr (Or.inr (Or.inr (Or.inr (Or.inr (Or.inr (Or.inr (Or.inr (rfl)))))))))) mσ1  (by first | omega | assumption | rfl) (by first | omega | assumption | rfl) (fun r13 σ12 mσ12 cσ12 (pσ12_0 : (gi σ12 64 1).toInt ≤ (gi σ1 64 1).toInt + 12) hσ12 => ?_)
      replace H := f_b hσ12 H
      have fσ12 : FX (fun id => id = 65) (fun id k => (id = 64 ∧ k = 1)) σ0 σ12 := FX_tr fσ1 cσ12 (fun x (h9 : x = 65) => (show x = 65 from h9)) (fun x k (h9 : (x = 64 ∧ k = 1)) => (show (x = 65) ∨ ((x = 64 ∧ k = 1)) from Or.inr (show (x = 64 ∧ k = 1) from h9)))
      have k_26 : (gi σ12 1 1).toInt = (gi σ1 1 1).toInt := congrArg Int32.toInt (FX_i cσ12 (show ¬ (1 = 65) from by omega) (show ¬ ((1 = 64 ∧ 1 = 1)) from by omega))
      have t_27 := XI_c1 mσ12 (lim_N (Or.inr (Or.inr (Or.inr (Or.inr (Or.inr (Or.inr (Or.inr (Or.inr (Or.inr (rfl)))))))))))
      have t_28 := nl_le (Or.inr (Or.inr (Or.inr (Or.inr (Or.inr (Or.inr (Or.inr (Or.inr (Or.inr (rfl))))))))))
      have nσ12_1 : NN σ12 1 := NN_fx nσ1_1 cσ12 (show ¬ (1 = 65) from by omega) (show ¬ (2 = 65) from by omega) (show ¬ (3 = 65) from by omega) (show ¬ ((1 = 64 ∧ 1 = 1)) from by omega) (show ¬ ((1 = 64 ∧ 3 = 1)) from by omega) (fun k (h9 : (2 = 64 ∧ k = 1)) => by omega) (fun k (h9 : (3 = 64 ∧ k = 1)) => by omega)
      exact h9ret r13 σ12 mσ12 fσ12 nσ12_1 (H0.trans H.symm)
  · intro q_10
    replace H := f_t q_10 H
    have b_29 : r3.toInt = 0 := congrArg Int32.toInt q_10
    exact h9ret (0 : Int32) σ1 mσ1 fσ1 nσ1_1 (H0.trans H.symm)
noncomputable def LB_X1_placeOf_2 (c0 : Nat) (rec : Int32 → Int32 → Sg → Int32 × Sg) (x1 : Int32) (x2 : Int32) (σ : Sg) : Int32 × Sg := (if ((gi σ c0 3) - (1 : Int32)) ≤ x2 then (x2, σ) else (if (gi σ (c0 + 2) x2.toNatClampNeg) = x1 then (x2, σ) else fl (x2 + 1) (fun v4 => rec x1 v4 σ)))
noncomputable def LF_X1_placeOf (c0 : Nat) : Nat → Int32 → Int32 → Sg → Int32 × Sg
  | 0, _, _, σ => (0, σ)
  | n + 1, x1, x2, σ => LB_X1_placeOf_2 c0 (LF_X1_placeOf c0 n) x1 x2 σ
noncomputable def F_X1_placeOf (c0 : Nat) (a1 : Int32) (σ : Sg) : Int32 × Sg := LF_X1_placeOf c0 9 a1 (0 : Int32) σ
set_option maxRecDepth 100000 in
set_option maxHeartbeats 4000000 in
theorem kF_X1_placeOf {l : Launch} {V : Vx} {c0 : Nat} {a1 : Int32} {σ0 : Sg} {Qk : Int32 → Sg → Prop} (hc0 : isC c0) (m0 : XI V σ0) (h9ret : ∀ (r : Int32) (σ' : Sg), XI V σ' → FX (fun id => False) (fun _ _ => False) σ0 σ' → (0 ≤ r.toInt) → (r.toInt ≤ 5) → (r.toInt = 0 ∨ r.toInt < (gi σ0 c0 3).toInt) → (F_X1_placeOf c0 a1 σ0 = (r, σ')) → Qk r σ') : K_X1_placeOf l V c0 a1 σ0 Qk := by
  refine e_X1_placeOf (fun M hl hV hN C => ?_)
  subst hl
  subst hV
  obtain ⟨R9, H0⟩ : ∃ R9, F_X1_placeOf c0 a1 σ0 = R9 := ⟨_, rfl⟩
  have oc0 : hid (c0 = 1 ∨ c0 = 17 ∨ c0 = 33) := hc0
  have T : ∀ n : Nat, (∀ (x1 : Int32) (x2 : Int32) (σ : Sg), XI (mV M) σ → FX (fun id => False) (fun _ _ => False) σ0 σ → (0 ≤ x2.toInt) → (x2.toInt ≤ 5) → (x2.toInt = 0 ∨ x2.toInt < (gi σ c0 3).toInt) → (LF_X1_placeOf c0 n x1 x2 σ = R9) → (7 - x2.toInt).toNat < n → PS M 2 [(0, .ref c0), (1, .int x1), (2, .int x2)] [] σ (0, 0)) := by
    intro n
    induction n with
    | zero => exact fun _ _ _ _ _ _ _ _ _ h8 => absurd h8 (Nat.not_lt_zero _)
    | succ n ih =>
      have ih2 := ih
      · intro x1 x2 σ mσ fσ lx2 ux2 i0 H hmu
        replace H : LB_X1_placeOf_2 c0 (LF_X1_placeOf c0 n) x1 x2 σ = R9 := H
        unfold LB_X1_placeOf_2 at H
        have k_1 : (gi σ c0 3).toInt = (gi σ0 c0 3).toInt := congrArg Int32.toInt (FX_i fσ id id)
        have t_2 := XI_c1 mσ (id := c0) (k := 3) (lim_C0_3 hc0)
        refine s_X1_placeOf_2 C hN hc0 ?_
        refine ⟨?_, ?_⟩
        · intro q_3
          replace H := f_t q_3 H
          have t_4 : ((gi σ c0 3) - (1 : Int32)).toInt = (gi σ c0 3).toInt - 1 := i_sub (x := (gi σ c0 3)) (y := (1 : Int32)) (by show (_ : Int) ≤ (gi σ c0 3).toInt - 1; omega) (by show (gi σ c0 3).toInt - 1 ≤ (_ : Int); omega)
          have b_5 : ((gi σ c0 3) - (1 : Int32)).toInt ≤ x2.toInt := Int32.le_iff_toInt_le.mp q_3
          exact h9ret x2 σ mσ fσ (by omega) (by omega) (by first | omega | assumption | rfl) (H0.trans H.symm)
        · intro q_3
          replace H := f_f q_3 H
          have t_6 : ((gi σ c0 3) - (1 : Int32)).toInt = (gi σ c0 3).toInt - 1 := i_sub (x := (gi σ c0 3)) (y := (1 : Int32)) (by show (_ : Int) ≤ (gi σ c0 3).toInt - 1; omega) (by show (gi σ c0 3).toInt - 1 ≤ (_ : Int); omega)
          have b_7 : ¬ ((gi σ c0 3) - (1 : Int32)).toInt ≤ x2.toInt := fun h9 => q_3 (Int32.le_iff_toInt_le.mpr h9)
          have hv_8 : vp_in x2 6 := vp_in_iff.mpr ⟨by omega, by omega⟩
          refine ⟨hv_8, ?_⟩
          refine ⟨?_, ?_⟩
          · intro q_9
            replace H := f_t q_9 H
            have t_10 := XI_c1 mσ (id := (c0 + 2)) (k := x2.toNatClampNeg) (lim_C2 hc0 _)
            have w_11 := Int32.toInt_lt x1
            have w_12 := Int32.le_toInt x1
            have b_13 : (gi σ (c0 + 2) x2.toNatClampNeg).toInt = x1.toInt := congrArg Int32.toInt q_9
            exact h9ret x2 σ mσ fσ (by omega) (by omega) (by first | omega | assumption | rfl) (H0.trans H.symm)
          · intro q_9
            replace H := f_f q_9 H
            have t_14 := XI_c1 mσ (id := (c0 + 2)) (k := x2.toNatClampNeg) (lim_C2 hc0 _)
            have w_15 := Int32.toInt_lt x1
            have w_16 := Int32.le_toInt x1
            have b_17 : ¬ (gi σ (c0 + 2) x2.toNatClampNeg).toInt = x1.toInt := fun h9 => q_9 (Int32.toInt_inj.mp h9)
            intro v4 ev4
            replace H := f_l ev4 H
            have t_18 : (x2 + (1 : Int32)).toInt = x2.toInt + 1 := i_add (x := x2) (y := (1 : Int32)) (by show (_ : Int) ≤ x2.toInt + 1; omega) (by show x2.toInt + 1 ≤ (_ : Int); omega)
            have t_19 : v4.toInt = (x2 + (1 : Int32)).toInt := congrArg Int32.toInt ev4
            exact ih2 x1 v4 σ mσ fσ (by omega) (by omega) (by first | omega | assumption | rfl) H (by omega)
  have U2 := T 9
  have f0 : FX (fun id => False) (fun _ _ => False) σ0 σ0 := FX_rf
  have t_20 := XI_c1 m0 (id := c0) (k := 3) (lim_C0_3 hc0)
  have H := H0
  unfold F_X1_placeOf at H
  refine s_X1_placeOf_0 C hN hc0 ?_
  have w_21 := Int32.toInt_lt a1
  have w_22 := Int32.le_toInt a1
  have z_23 : (0 : Int32).toInt = 0 := rfl
  exact U2 a1 (0 : Int32) σ0 m0 f0 (by omega) (by omega) (by first | omega | assumption | rfl) H (by omega)
noncomputable def LB_X1_moves_9 (c0 : Nat) (rec : Nat → Int32 → Int32 → Int32 → Int32 → Sg → Int32 × Sg) (x1 : Int32) (x2 : Int32) (x3 : Int32) (x4 : Int32) (σ : Sg) : Int32 × Sg := (if x4 ≤ x2 then rec 1 x1 x2 x3 x3 σ else fl (si σ (c0 + 2) x4.toNatClampNeg (gi σ (c0 + 2) (x4 - (1 : Int32)).toNatClampNeg)) (fun σ4 => fl (x4 - 1) (fun v5 => rec 0 x1 x2 x3 v5 σ4)))
noncomputable def LB_X1_moves_40 (c0 : Nat) (rec : Nat → Int32 → Int32 → Int32 → Int32 → Sg → Int32 × Sg) (x1 : Int32) (x2 : Int32) (x3 : Int32) (x4 : Int32) (σ : Sg) : Int32 × Sg := (if x2 ≤ x4 then fl (si σ (c0 + 2) x2.toNatClampNeg x1) (fun σ3 => (x3, σ3)) else fl (si σ (c0 + 2) x4.toNatClampNeg (gi σ (c0 + 2) (x4 + (1 : Int32)).toNatClampNeg)) (fun σ6 => fl (x4 + 1) (fun v7 => rec 1 x1 x2 x3 v7 σ6)))
noncomputable def LF_X1_moves (c0 : Nat) : Nat → Nat → Int32 → Int32 → Int32 → Int32 → Sg → Int32 × Sg
  | 0, _, _, _, _, _, σ => (0, σ)
  | n + 1, 0, x1, x2, x3, x4, σ => LB_X1_moves_9 c0 (LF_X1_moves c0 n) x1 x2 x3 x4 σ
  | n + 1, 1, x1, x2, x3, x4, σ => LB_X1_moves_40 c0 (LF_X1_moves c0 n) x1 x2 x3 x4 σ
  | _ + 1, _ + 2, _, _, _, _, σ => (0, σ)
noncomputable def F_X1_moves (c0 : Nat) (a1 : Int32) (a2 : Int32) (σ : Sg) : Int32 × Sg := fb (F_X1_placeOf c0 a1 σ) (fun r2 σ1 => LF_X1_moves c0 300 0 a1 a2 r2 r2 σ1)
set_option maxRecDepth 100000 in
set_option maxHeartbeats 4000000 in
theorem kF_X1_moves {l : Launch} {V : Vx} {c0 : Nat} {a1 : Int32} {a2 : Int32} {σ0 : Sg} {Qk : Int32 → Sg → Prop} (hc0 : isC c0) (m0 : XI V σ0) (nn_c0 : NN σ0 c0) (l_a1 : 0 ≤ a1.toInt) (u_a1 : a1.toInt ≤ 5) (l_a2 : 0 ≤ a2.toInt) (u_a2 : a2.toInt ≤ 5) (pre0 : (gi σ0 c0 3).toInt = (gi σ0 c0 1).toInt) (pre1 : a1.toInt < (gi σ0 c0 1).toInt) (pre2 : a2.toInt < (gi σ0 c0 1).toInt) (h9ret : ∀ (r : Int32) (σ' : Sg), XI V σ' → FX (fun id => id = c0 + 2) (fun _ _ => False) σ0 σ' → (NN σ' c0) → (0 ≤ r.toInt) → (r.toInt ≤ 5) → (F_X1_moves c0 a1 a2 σ0 = (r, σ')) → Qk r σ') : K_X1_moves l V c0 a1 a2 σ0 Qk := by
  refine e_X1_moves (fun M hl hV hN C => ?_)
  subst hl
  subst hV
  obtain ⟨R9, H0⟩ : ∃ R9, F_X1_moves c0 a1 a2 σ0 = R9 := ⟨_, rfl⟩
  have oc0 : hid (c0 = 1 ∨ c0 = 17 ∨ c0 = 33) := hc0
  have T : ∀ n : Nat, (∀ (x1 : Int32) (x2 : Int32) (x3 : Int32) (x4 : Int32) (σ : Sg), XI (mV M) σ → FX (fun id => id = c0 + 2) (fun _ _ => False) σ0 σ → NN σ c0 → (0 ≤ x1.toInt) → (x1.toInt ≤ 5) → (0 ≤ x2.toInt) → (x2.toInt ≤ 5) → (0 ≤ x3.toInt) → (x3.toInt ≤ 5) → (0 ≤ x4.toInt) → (x4.toInt ≤ 5) → (x1.toInt < (gi σ c0 1).toInt) → (x2.toInt < (gi σ c0 1).toInt) → (x3.toInt < (gi σ c0 1).toInt) → (x4.toInt < (gi σ c0 1).toInt) → (LF_X1_moves c0 n 0 x1 x2 x3 x4 σ = R9) → x4.toInt.toNat + 100 < n → PS M 9 [(0, .ref c0), (1, .int x1), (2, .int x2), (3, .int x3), (4, .int x4)] [] σ (0, 0)) ∧ (∀ (x1 : Int32) (x2 : Int32) (x3 : Int32) (x4 : Int32) (σ : Sg), XI (mV M) σ → FX (fun id => id = c0 + 2) (fun _ _ => False) σ0 σ → NN σ c0 → (0 ≤ x1.toInt) → (x1.toInt ≤ 5) → (0 ≤ x2.toInt) → (x2.toInt ≤ 5) → (0 ≤ x3.toInt) → (x3.toInt ≤ 5) → (0 ≤ x4.toInt) → (x4.toInt ≤ 5) → (x1.toInt < (gi σ c0 1).toInt) → (x2.toInt < (gi σ c0 1).toInt) → (x3.toInt < (gi σ c0 1).toInt) → (x4.toInt < (gi σ c0 1).toInt) → (LF_X1_moves c0 n 1 x1 x2 x3 x4 σ = R9) → (7 - x4.toInt).toNat < n → PS M 40 [(0, .ref c0), (1, .int x1), (2, .int x2), (3, .int x3), (4, .int x4)] [] σ (0, 0)) := by
    intro n
    induction n with
    | zero => exact ⟨fun _ _ _ _ _ _ _ _ _ _ _ _ _ _ _ _ _ _ _ _ _ h8 => absurd h8 (Nat.not_lt_zero _), fun _ _ _ _ _ _ _ _ _ _ _ _ _ _ _ _ _ _ _ _ _ h8 => absurd h8 (Nat.not_lt_zero _)⟩
    | succ n ih =>
      obtain ⟨ih9, ih40⟩ := ih
      refine ⟨?_, ?_⟩
      · intro x1 x2 x3 x4 σ mσ fσ nσ_c0 lx1 ux1 lx2 ux2 lx3 ux3 lx4 ux4 i0 i1 i2 i3 H hmu
        replace H : LB_X1_moves_9 c0 (LF_X1_moves c0 n) x1 x2 x3 x4 σ = R9 := H
        unfold LB_X1_moves_9 at H
        have k_1 : (gi σ c0 1).toInt = (gi σ0 c0 1).toInt := congrArg Int32.toInt (FX_i fσ (show ¬ (c0 = c0 + 2) from by first | omega | (have uoc0 := un oc0; omega)) id)
        have t_2 := XI_c1 mσ (id := c0) (k := 1) (lim_C0_1 hc0)
        have k_3 : (gi σ c0 3).toInt = (gi σ0 c0 3).toInt := congrArg Int32.toInt (FX_i fσ (show ¬ (c0 = c0 + 2) from by first | omega | (have uoc0 := un oc0; omega)) id)
        have t_4 := XI_c1 mσ (id := c0) (k := 3) (lim_C0_3 hc0)
        refine s_X1_moves_9 C hN hc0 ?_
        refine ⟨?_, ?_⟩
        · intro q_5
          replace H := f_t q_5 H
          have b_6 : x4.toInt ≤ x2.toInt := Int32.le_iff_toInt_le.mp q_5
          exact ih40 x1 x2 x3 x3 σ mσ fσ nσ_c0 (by omega) (by omega) (by omega) (by omega) (by omega) (by omega) (by omega) (by omega) (by first | omega | assumption | rfl) (by first | omega | assumption | rfl) (by first | omega | assumption | rfl) (by first | omega | assumption | rfl) H (by omega)
        · intro q_5
          replace H := f_f q_5 H
          have b_7 : ¬ x4.toInt ≤ x2.toInt := fun h9 => q_5 (Int32.le_iff_toInt_le.mpr h9)
          have t_8 : (x4 - (1 : Int32)).toInt = x4.toInt - 1 := i_sub (x := x4) (y := (1 : Int32)) (by show (_ : Int) ≤ x4.toInt - 1; omega) (by show x4.toInt - 1 ≤ (_ : Int); omega)
          have hv_9 : vp_in (x4 - (1 : Int32)) 6 := vp_in_iff.mpr ⟨by omega, by omega⟩
          refine ⟨hv_9, ?_⟩
          have hv_10 : vp_in x4 6 := vp_in_iff.mpr ⟨by omega, by omega⟩
          refine ⟨hv_10, ?_⟩
          intro σ4 eσ4
          replace H := f_l eσ4 H
          have t_11 := XI_c1 mσ (id := (c0 + 2)) (k := (x4 - (1 : Int32)).toNatClampNeg) (lim_C2 hc0 _)
          have mσ4 : XI (mV M) σ4 := by rw [eσ4]; exact XIs_b mσ (lim_C2 hc0 _) (by omega) (by omega)
          have fσ4 : FX (fun id => id = c0 + 2) (fun _ _ => False) σ0 σ4 := by rw [eσ4]; exact FX_si fσ (Or.inl (show c0 + 2 = c0 + 2 from rfl))
          have k_12 : (gi σ4 c0 1).toInt = (gi σ c0 1).toInt := by rw [eσ4]; exact congrArg Int32.toInt (gi_si_ne (Or.inl (by first | omega | (have uoc0 := un oc0; omega))))
          have k_13 : (gi σ4 c0 3).toInt = (gi σ c0 3).toInt := by rw [eσ4]; exact congrArg Int32.toInt (gi_si_ne (Or.inl (by first | omega | (have uoc0 := un oc0; omega))))
          have ec_14 := cl_eq (x := (x4 - (1 : Int32))) (by omega)
          have el_15 := nσ_c0.1 (x4 - (1 : Int32)).toNatClampNeg (by omega)
          have nσ4_c0 : NN σ4 c0 := by rw [eσ4]; exact NN_line nσ_c0 (by omega)
          intro v5 ev5
          replace H := f_l ev5 H
          have t_16 : v5.toInt = (x4 - (1 : Int32)).toInt := congrArg Int32.toInt ev5
          exact ih9 x1 x2 x3 v5 σ4 mσ4 fσ4 nσ4_c0 (by omega) (by omega) (by omega) (by omega) (by omega) (by omega) (by omega) (by omega) (by first | omega | assumption | rfl) (by first | omega | assumption | rfl) (by first | omega | assumption | rfl) (by first | omega | assumption | rfl) H (by omega)
      · intro x1 x2 x3 x4 σ mσ fσ nσ_c0 lx1 ux1 lx2 ux2 lx3 ux3 lx4 ux4 i0 i1 i2 i3 H hmu
        replace H : LB_X1_moves_40 c0 (LF_X1_moves c0 n) x1 x2 x3 x4 σ = R9 := H
        unfold LB_X1_moves_40 at H
        have k_17 : (gi σ c0 1).toInt = (gi σ0 c0 1).toInt := congrArg Int32.toInt (FX_i fσ (show ¬ (c0 = c0 + 2) from by first | omega | (have uoc0 := un oc0; omega)) id)
        have t_18 := XI_c1 mσ (id := c0) (k := 1) (lim_C0_1 hc0)
        have k_19 : (gi σ c0 3).toInt = (gi σ0 c0 3).toInt := congrArg Int32.toInt (FX_i fσ (show ¬ (c0 = c0 + 2) from by first | omega | (have uoc0 := un oc0; omega)) id)
        have t_20 := XI_c1 mσ (id := c0) (k := 3) (lim_C0_3 hc0)
        refine s_X1_moves_40 C hN hc0 ?_
        refine ⟨?_, ?_⟩
        · intro q_21
          replace H := f_t q_21 H
          have b_22 : x2.toInt ≤ x4.toInt := Int32.le_iff_toInt_le.mp q_21
          have hv_23 : vp_in x2 6 := vp_in_iff.mpr ⟨by omega, by omega⟩
          refine ⟨hv_23, ?_⟩
          intro σ3 eσ3
          replace H := f_l eσ3 H
          have mσ3 : XI (mV M) σ3 := by rw [eσ3]; exact XIs_b mσ (lim_C2 hc0 _) (by omega) (by omega)
          have fσ3 : FX (fun id => id = c0 + 2) (fun _ _ => False) σ0 σ3 := by rw [eσ3]; exact FX_si fσ (Or.inl (show c0 + 2 = c0 + 2 from rfl))
          have k_24 : (gi σ3 c0 1).toInt = (gi σ c0 1).toInt := by rw [eσ3]; exact congrArg Int32.toInt (gi_si_ne (Or.inl (by first | omega | (have uoc0 := un oc0; omega))))
          have k_25 : (gi σ3 c0 3).toInt = (gi σ c0 3).toInt := by rw [eσ3]; exact congrArg Int32.toInt (gi_si_ne (Or.inl (by first | omega | (have uoc0 := un oc0; omega))))
          have nσ3_c0 : NN σ3 c0 := by rw [eσ3]; exact NN_line nσ_c0 (by omega)
          exact h9ret x3 σ3 mσ3 fσ3 nσ3_c0 (by omega) (by omega) (H0.trans H.symm)
        · intro q_21
          replace H := f_f q_21 H
          have b_26 : ¬ x2.toInt ≤ x4.toInt := fun h9 => q_21 (Int32.le_iff_toInt_le.mpr h9)
          have t_27 : (x4 + (1 : Int32)).toInt = x4.toInt + 1 := i_add (x := x4) (y := (1 : Int32)) (by show (_ : Int) ≤ x4.toInt + 1; omega) (by show x4.toInt + 1 ≤ (_ : Int); omega)
          have hv_28 : vp_in (x4 + (1 : Int32)) 6 := vp_in_iff.mpr ⟨by omega, by omega⟩
          refine ⟨hv_28, ?_⟩
          have hv_29 : vp_in x4 6 := vp_in_iff.mpr ⟨by omega, by omega⟩
          refine ⟨hv_29, ?_⟩
          intro σ6 eσ6
          replace H := f_l eσ6 H
          have t_30 := XI_c1 mσ (id := (c0 + 2)) (k := (x4 + (1 : Int32)).toNatClampNeg) (lim_C2 hc0 _)
          have mσ6 : XI (mV M) σ6 := by rw [eσ6]; exact XIs_b mσ (lim_C2 hc0 _) (by omega) (by omega)
          have fσ6 : FX (fun id => id = c0 + 2) (fun _ _ => False) σ0 σ6 := by rw [eσ6]; exact FX_si fσ (Or.inl (show c0 + 2 = c0 + 2 from rfl))
          have k_31 : (gi σ6 c0 1).toInt = (gi σ c0 1).toInt := by rw [eσ6]; exact congrArg Int32.toInt (gi_si_ne (Or.inl (by first | omega | (have uoc0 := un oc0; omega))))
          have k_32 : (gi σ6 c0 3).toInt = (gi σ c0 3).toInt := by rw [eσ6]; exact congrArg Int32.toInt (gi_si_ne (Or.inl (by first | omega | (have uoc0 := un oc0; omega))))
          have ec_33 := cl_eq (x := (x4 + (1 : Int32))) (by omega)
          have el_34 := nσ_c0.1 (x4 + (1 : Int32)).toNatClampNeg (by omega)
          have nσ6_c0 : NN σ6 c0 := by rw [eσ6]; exact NN_line nσ_c0 (by omega)
          intro v7 ev7
          replace H := f_l ev7 H
          have t_35 : v7.toInt = (x4 + (1 : Int32)).toInt := congrArg Int32.toInt ev7
          exact ih40 x1 x2 x3 v7 σ6 mσ6 fσ6 nσ6_c0 (by omega) (by omega) (by omega) (by omega) (by omega) (by omega) (by omega) (by omega) (by first | omega | assumption | rfl) (by first | omega | assumption | rfl) (by first | omega | assumption | rfl) (by first | omega | assumption | rfl) H (by omega)
  obtain ⟨U9, U40⟩ := T 300
  have f0 : FX (fun id => id = c0 + 2) (fun _ _ => False) σ0 σ0 := FX_rf
  have t_36 := XI_c1 m0 (id := c0) (k := 1) (lim_C0_1 hc0)
  have t_37 := XI_c1 m0 (id := c0) (k := 3) (lim_C0_3 hc0)
  have H := H0
  unfold F_X1_moves at H
  refine s_X1_moves_0 C hN hc0 ?_
  refine kF_X1_placeOf hc0 m0   (fun r2 σ1 mσ1 cσ1 plσ1 phσ1 (pσ1_0 : r2.toInt = 0 ∨ r2.toInt < (gi σ0 c0 3).toInt) hσ1 => ?_)
  obtain rfl := FX_nil cσ1
  replace H := f_b hσ1 H
  exact U9 a1 a2 r2 r2 σ0 m0 f0 nn_c0 (by omega) (by omega) (by omega) (by omega) (by omega) (by omega) (by omega) (by omega) (by first | omega | assumption | rfl) (by first | omega | assumption | rfl) (by first | omega | assumption | rfl) (by first | omega | assumption | rfl) H (by omega)
noncomputable def F_X11_place (a1 : Int32) (a2 : Int32) (σ : Sg) : Int32 × Sg := fb (F_X11_isMower a1 σ) (fun r2 σ1 => (if r2 = 0 then ((-1 : Int32), σ1) else (if a2 < 0 then ((-1 : Int32), σ1) else (if a2 < (gi σ1 1 1) then fb (F_X1_moves 1 a1 a2 σ1) (fun r7 σ6 => (r7, σ6)) else ((-1 : Int32), σ1)))))
set_option maxRecDepth 100000 in
set_option maxHeartbeats 4000000 in
theorem kF_X11_place {l : Launch} {V : Vx} {a1 : Int32} {a2 : Int32} {σ0 : Sg} {Qk : Int32 → Sg → Prop} (m0 : XI V σ0) (nn_1 : NN σ0 1) (pre0 : (gi σ0 1 3).toInt = (gi σ0 1 1).toInt) (h9ret : ∀ (r : Int32) (σ' : Sg), XI V σ' → FX (fun id => id = 3) (fun _ _ => False) σ0 σ' → (NN σ' 1) → (F_X11_place a1 a2 σ0 = (r, σ')) → Qk r σ') : K_X11_place l V a1 a2 σ0 Qk := by
  refine e_X11_place (fun M hl hV hN C => ?_)
  subst hl
  subst hV
  obtain ⟨R9, H0⟩ : ∃ R9, F_X11_place a1 a2 σ0 = R9 := ⟨_, rfl⟩
  have f0 : FX (fun id => id = 3) (fun _ _ => False) σ0 σ0 := FX_rf
  have t_1 := XI_c1 m0 (id := 1) (k := 1) (lim_C0_1 (Or.inl rfl))
  have t_2 := XI_c1 m0 (id := 1) (k := 3) (lim_C0_3 (Or.inl rfl))
  have H := H0
  unfold F_X11_place at H
  refine s_X11_place_0 C hN  ?_
  refine kF_X11_isMower  m0   (fun r2 σ1 mσ1 cσ1 plσ1 phσ1 (pσ1_0 : (r2.toInt = 1 ∧ 0 ≤ a1.toInt ∧ a1.toInt < (gi σ0 1 1).toInt) ∨ (r2.toInt = 0 ∧ (a1.toInt < 0 ∨ (gi σ0 1 1).toInt ≤ a1.toInt))) hσ1 => ?_)
  obtain rfl := FX_nil cσ1
  replace H := f_b hσ1 H
  refine ⟨?_, ?_⟩
  · intro q_3
    replace H := f_t q_3 H
    have b_4 : r2.toInt = 0 := congrArg Int32.toInt q_3
    have z_5 : (-1 : Int32).toInt = -1 := rfl
    exact h9ret (-1 : Int32) σ0 m0 f0 nn_1 (H0.trans H.symm)
  · intro q_3
    replace H := f_f q_3 H
    have b_6 : ¬ r2.toInt = 0 := fun h9 => q_3 (Int32.toInt_inj.mp h9)
    refine ⟨?_, ?_⟩
    · intro q_7
      replace H := f_t q_7 H
      have w_8 := Int32.toInt_lt a2
      have w_9 := Int32.le_toInt a2
      have b_10 : a2.toInt < 0 := Int32.lt_iff_toInt_lt.mp q_7
      have z_11 : (-1 : Int32).toInt = -1 := rfl
      exact h9ret (-1 : Int32) σ0 m0 f0 nn_1 (H0.trans H.symm)
    · intro q_7
      replace H := f_f q_7 H
      have w_12 := Int32.toInt_lt a2
      have w_13 := Int32.le_toInt a2
      have b_14 : ¬ a2.toInt < 0 := fun h9 => q_7 (Int32.lt_iff_toInt_lt.mpr h9)
      refine ⟨?_, ?_⟩
      · intro q_15
        replace H := f_t q_15 H
        have b_16 : a2.toInt < (gi σ0 1 1).toInt := Int32.lt_iff_toInt_lt.mp q_15
        refine kF_X1_moves (Or.inl rfl) m0 nn_1 (by omega) (by omega) (by omega) (by omega) (by first | omega | assumption | rfl) (by first | omega | assumption | rfl) (by first | omega | assumption | rfl) (fun r7 σ6 mσ6 cσ6 nσ6_1 plσ6 phσ6 hσ6 => ?_)
        replace H := f_b hσ6 H
        have fσ6 : FX (fun id => id = 3) (fun _ _ => False) σ0 σ6 := FX_tr f0 cσ6 (fun x (h9 : x = 3) => (show x = 3 from h9)) (fun _ _ h9 => h9.elim)
        have k_17 : (gi σ6 1 1).toInt = (gi σ0 1 1).toInt := congrArg Int32.toInt (FX_i cσ6 (show ¬ (1 = 3) from by omega) id)
        have k_18 : (gi σ6 1 3).toInt = (gi σ0 1 3).toInt := congrArg Int32.toInt (FX_i cσ6 (show ¬ (1 = 3) from by omega) id)
        exact h9ret r7 σ6 mσ6 fσ6 nσ6_1 (H0.trans H.symm)
      · intro q_15
        replace H := f_f q_15 H
        have b_19 : ¬ a2.toInt < (gi σ0 1 1).toInt := fun h9 => q_15 (Int32.lt_iff_toInt_lt.mpr h9)
        have z_20 : (-1 : Int32).toInt = -1 := rfl
        exact h9ret (-1 : Int32) σ0 m0 f0 nn_1 (H0.trans H.symm)
noncomputable def F_X12_isMower (a1 : Int32) (σ : Sg) : Int32 × Sg := fb (F_X12_in a1 (0 : Int32) ((gi σ 74 0) - (1 : Int32)) σ) (fun r2 σ1 => (r2, σ1))
set_option maxRecDepth 100000 in
set_option maxHeartbeats 4000000 in
theorem kF_X12_isMower {l : Launch} {V : Vx} {a1 : Int32} {σ0 : Sg} {Qk : Int32 → Sg → Prop} (m0 : MI σ0) (h9ret : ∀ (r : Int32) (σ' : Sg), MI σ' → Fr [] [] σ0 σ' → (0 ≤ r.toInt) → (r.toInt ≤ 1) → ((r.toInt = 1 ∧ 0 ≤ a1.toInt ∧ a1.toInt < (gi σ0 74 0).toInt) ∨ (r.toInt = 0 ∧ (a1.toInt < 0 ∨ (gi σ0 74 0).toInt ≤ a1.toInt))) → (F_X12_isMower a1 σ0 = (r, σ')) → Qk r σ') : K_X12_isMower l V a1 σ0 Qk := by
  refine e_X12_isMower (fun M hl hV hN C => ?_)
  subst hl
  subst hV
  obtain ⟨R9, H0⟩ : ∃ R9, F_X12_isMower a1 σ0 = R9 := ⟨_, rfl⟩
  have f0 : Fr [] [] σ0 σ0 := Fr_rf
  have H := H0
  unfold F_X12_isMower at H
  refine s_X12_isMower_0 C hN ?_
  have t_1 := MI_f0 m0
  have t_2 : ((gi σ0 74 0) - (1 : Int32)).toInt = (gi σ0 74 0).toInt - 1 := i_sub (x := (gi σ0 74 0)) (y := (1 : Int32)) (by show (_ : Int) ≤ (gi σ0 74 0).toInt - 1; omega) (by show (gi σ0 74 0).toInt - 1 ≤ (_ : Int); omega)
  refine kF_X12_in m0  (fun r2 σ1 mσ1 cσ1 plσ1 phσ1 (pσ1_0 : (r2.toInt = 1 ∧ (0 : Int) ≤ a1.toInt ∧ a1.toInt ≤ ((gi σ0 74 0) - (1 : Int32)).toInt) ∨ (r2.toInt = 0 ∧ (a1.toInt < (0 : Int) ∨ ((gi σ0 74 0) - (1 : Int32)).toInt < a1.toInt))) hσ1 => ?_)
  obtain rfl := Fr_nil cσ1
  replace H := f_b hσ1 H
  refine ⟨i_bool (by omega) (by omega), ?_⟩
  have t_3 := MI_f0 m0
  exact h9ret r2 σ0 m0 f0 (by omega) (by omega) (by first | omega | assumption | rfl) (H0.trans H.symm)
noncomputable def F_X12_row (a1 : Int32) (a2 : Int32) (a3 : Int32) (σ : Sg) : Int32 × Sg := fb (F_X12_isMower a1 σ) (fun r2 σ1 => (if r2 = 0 then ((-1 : Int32), σ1) else fb (F_X12_in a2 (0 : Int32) (3 : Int32) σ1) (fun r5 σ4 => (if r5 = 0 then ((-1 : Int32), σ4) else fb (F_X12_in a3 (0 : Int32) (9 : Int32) σ4) (fun r8 σ7 => (if r8 = 0 then ((-2 : Int32), σ7) else (if (gi σ7 103 a1.toNatClampNeg) = (6 : Int32) then fl (gi σ7 109 (((4 : Int32) * a1) + a2).toNatClampNeg) (fun v13 => fl (si σ7 109 (((4 : Int32) * a1) + a2).toNatClampNeg a3) (fun σ15 => (v13, σ15))) else ((-3 : Int32), σ7))))))))
set_option maxRecDepth 100000 in
set_option maxHeartbeats 4000000 in
theorem kF_X12_row {l : Launch} {V : Vx} {a1 : Int32} {a2 : Int32} {a3 : Int32} {σ0 : Sg} {Qk : Int32 → Sg → Prop} (m0 : MI σ0) (h9ret : ∀ (r : Int32) (σ' : Sg), MI σ' → Fr [109] [] σ0 σ' → (F_X12_row a1 a2 a3 σ0 = (r, σ')) → Qk r σ') : K_X12_row l V a1 a2 a3 σ0 Qk := by
  refine e_X12_row (fun M hl hV hN C => ?_)
  subst hl
  subst hV
  obtain ⟨R9, H0⟩ : ∃ R9, F_X12_row a1 a2 a3 σ0 = R9 := ⟨_, rfl⟩
  have f0 : Fr [109] [] σ0 σ0 := Fr_rf
  have H := H0
  unfold F_X12_row at H
  refine s_X12_row_0 C hN ?_
  refine kF_X12_isMower m0  (fun r2 σ1 mσ1 cσ1 plσ1 phσ1 (pσ1_0 : (r2.toInt = 1 ∧ 0 ≤ a1.toInt ∧ a1.toInt < (gi σ0 74 0).toInt) ∨ (r2.toInt = 0 ∧ (a1.toInt < 0 ∨ (gi σ0 74 0).toInt ≤ a1.toInt))) hσ1 => ?_)
  obtain rfl := Fr_nil cσ1
  replace H := f_b hσ1 H
  have t_1 := MI_f0 m0
  refine ⟨?_, ?_⟩
  · intro q_2
    replace H := f_t q_2 H
    have b_3 : r2.toInt = 0 := congrArg Int32.toInt q_2
    have z_4 : (-1 : Int32).toInt = -1 := rfl
    exact h9ret (-1 : Int32) σ0 m0 f0 (H0.trans H.symm)
  · intro q_2
    replace H := f_f q_2 H
    have b_5 : ¬ r2.toInt = 0 := fun h9 => q_2 (Int32.toInt_inj.mp h9)
    refine kF_X12_in m0  (fun r5 σ4 mσ4 cσ4 plσ4 phσ4 (pσ4_0 : (r5.toInt = 1 ∧ (0 : Int) ≤ a2.toInt ∧ a2.toInt ≤ (3 : Int)) ∨ (r5.toInt = 0 ∧ (a2.toInt < (0 : Int) ∨ (3 : Int) < a2.toInt))) hσ4 => ?_)
    obtain rfl := Fr_nil cσ4
    replace H := f_b hσ4 H
    refine ⟨?_, ?_⟩
    · intro q_6
      replace H := f_f q_6 H
      have b_7 : ¬ r5.toInt = 0 := fun h9 => q_6 (Int32.toInt_inj.mp h9)
      refine kF_X12_in m0  (fun r8 σ7 mσ7 cσ7 plσ7 phσ7 (pσ7_0 : (r8.toInt = 1 ∧ (0 : Int) ≤ a3.toInt ∧ a3.toInt ≤ (9 : Int)) ∨ (r8.toInt = 0 ∧ (a3.toInt < (0 : Int) ∨ (9 : Int) < a3.toInt))) hσ7 => ?_)
      obtain rfl := Fr_nil cσ7
      replace H := f_b hσ7 H
      refine ⟨?_, ?_⟩
      · intro q_8
        replace H := f_f q_8 H
        have b_9 : ¬ r8.toInt = 0 := fun h9 => q_8 (Int32.toInt_inj.mp h9)
        have w_10 := Int32.toInt_lt a1
        have w_11 := Int32.le_toInt a1
        have hv_12 : vp_in a1 6 := vp_in_iff.mpr ⟨by omega, by omega⟩
        refine ⟨hv_12, ?_⟩
        refine ⟨?_, ?_⟩
        · intro q_13
          replace H := f_t q_13 H
          have b_14 : (gi σ0 103 a1.toNatClampNeg).toInt = 6 := congrArg Int32.toInt q_13
          try have t_15 : ((4 : Int32) * a1).toInt = 4 * a1.toInt := i_mull rfl (by omega) (by omega)
          have w_16 := Int32.toInt_lt a2
          have w_17 := Int32.le_toInt a2
          try have t_18 : (((4 : Int32) * a1) + a2).toInt = ((4 : Int32) * a1).toInt + a2.toInt := i_add (x := ((4 : Int32) * a1)) (y := a2) (by show (_ : Int) ≤ ((4 : Int32) * a1).toInt + a2.toInt; omega) (by show ((4 : Int32) * a1).toInt + a2.toInt ≤ (_ : Int); omega)
          have hv_19 : vp_in (((4 : Int32) * a1) + a2) 24 := vp_in_iff.mpr ⟨by omega, by omega⟩
          refine ⟨hv_19, ?_⟩
          intro v13 ev13
          replace H := f_l ev13 H
          refine ⟨hv_19, ?_⟩
          intro σ15 eσ15
          replace H := f_l eσ15 H
          have mσ15 : MI σ15 := by rw [eσ15]; exact MIs_au (a := 109) m0 rfl rfl
          have fσ15 : Fr [109] [] σ0 σ15 := by rw [eσ15]; exact Fr_si f0 (by decide) (fun h9 => absurd h9 (by decide))
          have k_20 : (gi σ15 74 0).toInt = (gi σ0 74 0).toInt := by rw [eσ15]; exact congrArg Int32.toInt (gi_si_ne (Or.inl (by decide)))
          exact h9ret v13 σ15 mσ15 fσ15 (H0.trans H.symm)
        · intro q_13
          replace H := f_f q_13 H
          have b_21 : ¬ (gi σ0 103 a1.toNatClampNeg).toInt = 6 := fun h9 => q_13 (Int32.toInt_inj.mp h9)
          have z_22 : (-3 : Int32).toInt = -3 := rfl
          exact h9ret (-3 : Int32) σ0 m0 f0 (H0.trans H.symm)
      · intro q_8
        replace H := f_t q_8 H
        have b_23 : r8.toInt = 0 := congrArg Int32.toInt q_8
        have z_24 : (-2 : Int32).toInt = -2 := rfl
        exact h9ret (-2 : Int32) σ0 m0 f0 (H0.trans H.symm)
    · intro q_6
      replace H := f_t q_6 H
      have b_25 : r5.toInt = 0 := congrArg Int32.toInt q_6
      have z_26 : (-1 : Int32).toInt = -1 := rfl
      exact h9ret (-1 : Int32) σ0 m0 f0 (H0.trans H.symm)
noncomputable def F_X12_trace (a1 : Int32) (σ : Sg) : Int32 × Sg := fb (F_X12_in a1 (0 : Int32) (19 : Int32) σ) (fun r2 σ1 => (if r2 = 0 then ((-1 : Int32), σ1) else (if (gi σ1 74 69) ≤ a1 then ((-1 : Int32), σ1) else (gi σ1 170 a1.toNatClampNeg, σ1))))
set_option maxRecDepth 100000 in
set_option maxHeartbeats 4000000 in
theorem kF_X12_trace {l : Launch} {V : Vx} {a1 : Int32} {σ0 : Sg} {Qk : Int32 → Sg → Prop} (m0 : MI σ0) (h9ret : ∀ (r : Int32) (σ' : Sg), MI σ' → Fr [] [] σ0 σ' → (F_X12_trace a1 σ0 = (r, σ')) → Qk r σ') : K_X12_trace l V a1 σ0 Qk := by
  refine e_X12_trace (fun M hl hV hN C => ?_)
  subst hl
  subst hV
  obtain ⟨R9, H0⟩ : ∃ R9, F_X12_trace a1 σ0 = R9 := ⟨_, rfl⟩
  have f0 : Fr [] [] σ0 σ0 := Fr_rf
  have H := H0
  unfold F_X12_trace at H
  refine s_X12_trace_0 C hN ?_
  refine kF_X12_in m0  (fun r2 σ1 mσ1 cσ1 plσ1 phσ1 (pσ1_0 : (r2.toInt = 1 ∧ (0 : Int) ≤ a1.toInt ∧ a1.toInt ≤ (19 : Int)) ∨ (r2.toInt = 0 ∧ (a1.toInt < (0 : Int) ∨ (19 : Int) < a1.toInt))) hσ1 => ?_)
  obtain rfl := Fr_nil cσ1
  replace H := f_b hσ1 H
  refine ⟨?_, ?_⟩
  · intro q_1
    replace H := f_t q_1 H
    have b_2 : r2.toInt = 0 := congrArg Int32.toInt q_1
    have z_3 : (-1 : Int32).toInt = -1 := rfl
    exact h9ret (-1 : Int32) σ0 m0 f0 (H0.trans H.symm)
  · intro q_1
    replace H := f_f q_1 H
    have b_4 : ¬ r2.toInt = 0 := fun h9 => q_1 (Int32.toInt_inj.mp h9)
    refine ⟨?_, ?_⟩
    · intro q_5
      replace H := f_t q_5 H
      have t_6 := MI_f69 m0
      have w_7 := Int32.toInt_lt a1
      have w_8 := Int32.le_toInt a1
      have b_9 : (gi σ0 74 69).toInt ≤ a1.toInt := Int32.le_iff_toInt_le.mp q_5
      have z_10 : (-1 : Int32).toInt = -1 := rfl
      exact h9ret (-1 : Int32) σ0 m0 f0 (H0.trans H.symm)
    · intro q_5
      replace H := f_f q_5 H
      have t_11 := MI_f69 m0
      have w_12 := Int32.toInt_lt a1
      have w_13 := Int32.le_toInt a1
      have b_14 : ¬ (gi σ0 74 69).toInt ≤ a1.toInt := fun h9 => q_5 (Int32.le_iff_toInt_le.mpr h9)
      have hv_15 : vp_in a1 20 := vp_in_iff.mpr ⟨by omega, by omega⟩
      refine ⟨hv_15, ?_⟩
      exact h9ret (gi σ0 170 a1.toNatClampNeg) σ0 m0 f0 (H0.trans H.symm)
noncomputable def F_X12_body (a1 : Int32) (σ : Sg) : Sg := (if (20 : Int32) ≤ (gi σ 74 69) then fl (si σ 74 69 ((gi σ 74 69) + (1 : Int32))) (fun σ2 => σ2) else fl (si σ 170 (gi σ 74 69).toNatClampNeg a1) (fun σ4 => fl (si σ4 74 69 ((gi σ4 74 69) + (1 : Int32))) (fun σ5 => σ5)))
set_option maxRecDepth 100000 in
set_option maxHeartbeats 4000000 in
theorem kF_X12_body {l : Launch} {V : Vx} {a1 : Int32} {σ0 : Sg} {Qk : Sg → Prop} (m0 : MI σ0) (pre0 : (gi σ0 74 69).toInt ≤ 900) (h9ret : ∀ (σ' : Sg), MI σ' → Fr [74, 170] [69] σ0 σ' → ((gi σ' 74 69).toInt = (gi σ0 74 69).toInt + 1) → (F_X12_body a1 σ0 = σ') → Qk σ') : K_X12_body l V a1 σ0 Qk := by
  refine e_X12_body (fun M hl hV hN C => ?_)
  subst hl
  subst hV
  obtain ⟨R9, H0⟩ : ∃ R9, F_X12_body a1 σ0 = R9 := ⟨_, rfl⟩
  have f0 : Fr [74, 170] [69] σ0 σ0 := Fr_rf
  have H := H0
  unfold F_X12_body at H
  refine s_X12_body_0 C hN ?_
  refine ⟨?_, ?_⟩
  · intro q_1
    replace H := f_t q_1 H
    have t_2 := MI_f69 m0
    have b_3 : (20 : Int) ≤ (gi σ0 74 69).toInt := Int32.le_iff_toInt_le.mp q_1
    intro σ2 eσ2
    replace H := f_l eσ2 H
    have t_4 : ((gi σ0 74 69) + (1 : Int32)).toInt = (gi σ0 74 69).toInt + 1 := i_add (x := (gi σ0 74 69)) (y := (1 : Int32)) (by show (_ : Int) ≤ (gi σ0 74 69).toInt + 1; omega) (by show (gi σ0 74 69).toInt + 1 ≤ (_ : Int); omega)
    have mσ2 : MI σ2 := by rw [eσ2]; exact MIs_f69 m0 (by omega) (by omega)
    have fσ2 : Fr [74, 170] [69] σ0 σ2 := by rw [eσ2]; exact Fr_si f0 (by decide) (fun _ => by decide)
    have k_5 : (gi σ2 74 69).toInt = ((gi σ0 74 69) + (1 : Int32)).toInt := by rw [eσ2]; exact congrArg Int32.toInt gi_si_eq
    exact h9ret σ2 mσ2 fσ2 (by first | omega | assumption | rfl) (H0.trans H.symm)
  · intro q_1
    replace H := f_f q_1 H
    have t_6 := MI_f69 m0
    have b_7 : ¬ (20 : Int) ≤ (gi σ0 74 69).toInt := fun h9 => q_1 (Int32.le_iff_toInt_le.mpr h9)
    have hv_8 : vp_in (gi σ0 74 69) 20 := vp_in_iff.mpr ⟨by omega, by omega⟩
    refine ⟨hv_8, ?_⟩
    intro σ4 eσ4
    replace H := f_l eσ4 H
    have mσ4 : MI σ4 := by rw [eσ4]; exact MIs_au (a := 170) m0 rfl rfl
    have fσ4 : Fr [74, 170] [69] σ0 σ4 := by rw [eσ4]; exact Fr_si f0 (by decide) (fun h9 => absurd h9 (by decide))
    have k_9 : (gi σ4 74 69).toInt = (gi σ0 74 69).toInt := by rw [eσ4]; exact congrArg Int32.toInt (gi_si_ne (Or.inl (by decide)))
    intro σ5 eσ5
    replace H := f_l eσ5 H
    have t_10 := MI_f69 mσ4
    have t_11 : ((gi σ4 74 69) + (1 : Int32)).toInt = (gi σ4 74 69).toInt + 1 := i_add (x := (gi σ4 74 69)) (y := (1 : Int32)) (by show (_ : Int) ≤ (gi σ4 74 69).toInt + 1; omega) (by show (gi σ4 74 69).toInt + 1 ≤ (_ : Int); omega)
    have mσ5 : MI σ5 := by rw [eσ5]; exact MIs_f69 mσ4 (by omega) (by omega)
    have fσ5 : Fr [74, 170] [69] σ0 σ5 := by rw [eσ5]; exact Fr_si fσ4 (by decide) (fun _ => by decide)
    have k_12 : (gi σ5 74 69).toInt = ((gi σ4 74 69) + (1 : Int32)).toInt := by rw [eσ5]; exact congrArg Int32.toInt gi_si_eq
    exact h9ret σ5 mσ5 fσ5 (by first | omega | assumption | rfl) (H0.trans H.symm)
noncomputable def F_X12_mowerMows (a1 : Int32) (a2 : Int32) (σ : Sg) : Int32 × Sg := fl (F_X12_body (10 : Int32) σ) (fun σ1 => (a2 + a1, σ1))
set_option maxRecDepth 100000 in
set_option maxHeartbeats 4000000 in
theorem kF_X12_mowerMows {l : Launch} {V : Vx} {a1 : Int32} {a2 : Int32} {σ0 : Sg} {Qk : Int32 → Sg → Prop} (m0 : MI σ0) (pre0 : (gi σ0 74 69).toInt ≤ 800) (h9ret : ∀ (r : Int32) (σ' : Sg), MI σ' → Fr [74, 170] [69] σ0 σ' → ((gi σ' 74 69).toInt ≤ (gi σ0 74 69).toInt + 1) → (F_X12_mowerMows a1 a2 σ0 = (r, σ')) → Qk r σ') : K_X12_mowerMows l V a1 a2 σ0 Qk := by
  refine e_X12_mowerMows (fun M hl hV hN C => ?_)
  subst hl
  subst hV
  obtain ⟨R9, H0⟩ : ∃ R9, F_X12_mowerMows a1 a2 σ0 = R9 := ⟨_, rfl⟩
  have f0 : Fr [74, 170] [69] σ0 σ0 := Fr_rf
  have H := H0
  unfold F_X12_mowerMows at H
  refine s_X12_mowerMows_0 C hN ?_
  refine kF_X12_body m0 (by first | omega | assumption | rfl) (fun σ1 mσ1 cσ1 (pσ1_0 : (gi σ1 74 69).toInt = (gi σ0 74 69).toInt + 1) hσ1 => ?_)
  replace H := f_v hσ1 H
  have fσ1 : Fr [74, 170] [69] σ0 σ1 := Fr_tr f0 cσ1 (by decide) (by decide)
  exact h9ret (a2 + a1) σ1 mσ1 fσ1 (by first | omega | assumption | rfl) (H0.trans H.symm)
noncomputable def LB_X12_mowsAct_40 (rec : Int32 → Int32 → Sg → Int32 × Sg) (x1 : Int32) (x2 : Int32) (σ : Sg) : Int32 × Sg := fl (F_X12_body (30 : Int32) σ) (fun σ1 => fb (F_X12_mowerMows x1 (x2 * (3 : Int32)) σ1) (fun r3 σ2 => (r3, σ2)))
noncomputable def LF_X12_mowsAct : Nat → Int32 → Int32 → Sg → Int32 × Sg
  | 0, _, _, σ => (0, σ)
  | n + 1, x1, x2, σ => LB_X12_mowsAct_40 (LF_X12_mowsAct n) x1 x2 σ
noncomputable def F_X12_mowsAct (a1 : Int32) (a2 : Int32) (σ : Sg) : Int32 × Sg := (if (gi σ 103 a1.toNatClampNeg).toInt = 2 then LF_X12_mowsAct 9 a1 a2 σ else (if (gi σ 103 a1.toNatClampNeg).toInt = 3 then fb (F_X12_mowerMows a1 a2 σ) (fun r6 σ5 => (r6, σ5)) else (if (gi σ 103 a1.toNatClampNeg).toInt = 4 then fl (F_X12_body (50 : Int32) σ) (fun σ7 => fb (F_X12_mowerMows a1 a2 σ7) (fun r9 σ8 => (-r9, σ8))) else (if (gi σ 103 a1.toNatClampNeg).toInt = 5 then LF_X12_mowsAct 9 a1 a2 σ else (if (gi σ 103 a1.toNatClampNeg).toInt = 6 then fl (F_X12_body (71 : Int32) σ) (fun σ10 => fb (F_X12_mowerMows a1 a2 σ10) (fun r12 σ11 => (r12 ^^^ (gi σ11 104 a1.toNatClampNeg), σ11))) else fb (F_X12_mowerMows a1 a2 σ) (fun r3 σ2 => (r3, σ2)))))))
set_option maxRecDepth 100000 in
set_option maxHeartbeats 4000000 in
theorem kF_X12_mowsAct {l : Launch} {V : Vx} {a1 : Int32} {a2 : Int32} {σ0 : Sg} {Qk : Int32 → Sg → Prop} (m0 : MI σ0) (l_a1 : 0 ≤ a1.toInt) (u_a1 : a1.toInt ≤ 5) (pre0 : (gi σ0 74 69).toInt ≤ 700) (h9ret : ∀ (r : Int32) (σ' : Sg), MI σ' → Fr [74, 170] [69] σ0 σ' → ((gi σ' 74 69).toInt ≤ (gi σ0 74 69).toInt + 2) → (F_X12_mowsAct a1 a2 σ0 = (r, σ')) → Qk r σ') : K_X12_mowsAct l V a1 a2 σ0 Qk := by
  refine e_X12_mowsAct (fun M hl hV hN C => ?_)
  subst hl
  subst hV
  obtain ⟨R9, H0⟩ : ∃ R9, F_X12_mowsAct a1 a2 σ0 = R9 := ⟨_, rfl⟩
  have T : ∀ n : Nat, (∀ (x1 : Int32) (x2 : Int32) (σ : Sg), MI σ → Fr [74, 170] [69] σ0 σ → (0 ≤ x1.toInt) → (x1.toInt ≤ 5) → ((gi σ 74 69).toInt ≤ (gi σ0 74 69).toInt) → (LF_X12_mowsAct n x1 x2 σ = R9) → 1 < n → PS M 40 [(0, .ref 74), (1, .int x1), (2, .int x2)] [] σ (0, 0)) := by
    intro n
    induction n with
    | zero => exact fun _ _ _ _ _ _ _ _ _ h8 => absurd h8 (Nat.not_lt_zero _)
    | succ n ih =>
      have ih40 := ih
      · intro x1 x2 σ mσ fσ lx1 ux1 i0 H hmu
        replace H : LB_X12_mowsAct_40 (LF_X12_mowsAct n) x1 x2 σ = R9 := H
        unfold LB_X12_mowsAct_40 at H
        refine s_X12_mowsAct_40 C hN ?_
        refine kF_X12_body mσ (by first | omega | assumption | rfl) (fun σ1 mσ1 cσ1 (pσ1_0 : (gi σ1 74 69).toInt = (gi σ 74 69).toInt + 1) hσ1 => ?_)
        replace H := f_v hσ1 H
        have fσ1 : Fr [74, 170] [69] σ0 σ1 := Fr_tr fσ cσ1 (by decide) (by decide)
        refine kF_X12_mowerMows mσ1 (by first | omega | assumption | rfl) (fun r3 σ2 mσ2 cσ2 (pσ2_0 : (gi σ2 74 69).toInt ≤ (gi σ1 74 69).toInt + 1) hσ2 => ?_)
        replace H := f_b hσ2 H
        have fσ2 : Fr [74, 170] [69] σ0 σ2 := Fr_tr fσ1 cσ2 (by decide) (by decide)
        exact h9ret r3 σ2 mσ2 fσ2 (by first | omega | assumption | rfl) (H0.trans H.symm)
  have U40 := T 9
  have f0 : Fr [74, 170] [69] σ0 σ0 := Fr_rf
  have H := H0
  unfold F_X12_mowsAct at H
  refine s_X12_mowsAct_0 C hN ?_
  have hv_1 : vp_in a1 6 := vp_in_iff.mpr ⟨by omega, by omega⟩
  refine ⟨hv_1, ?_⟩
  refine ⟨?_, ?_, ?_, ?_, ?_, ?_⟩
  · intro q_2
    replace H := f_f (by omega) H
    replace H := f_f (by omega) H
    replace H := f_f (by omega) H
    replace H := f_f (by omega) H
    replace H := f_f (by omega) H
    refine kF_X12_mowerMows m0 (by first | omega | assumption | rfl) (fun r3 σ2 mσ2 cσ2 (pσ2_0 : (gi σ2 74 69).toInt ≤ (gi σ0 74 69).toInt + 1) hσ2 => ?_)
    replace H := f_b hσ2 H
    have fσ2 : Fr [74, 170] [69] σ0 σ2 := Fr_tr f0 cσ2 (by decide) (by decide)
    exact h9ret r3 σ2 mσ2 fσ2 (by first | omega | assumption | rfl) (H0.trans H.symm)
  · intro q_2
    replace H := f_t q_2 H
    exact U40 a1 a2 σ0 m0 f0 (by omega) (by omega) (by first | omega | assumption | rfl) H (by omega)
  · intro q_2
    replace H := f_f (by omega) H
    replace H := f_t q_2 H
    refine kF_X12_mowerMows m0 (by first | omega | assumption | rfl) (fun r6 σ5 mσ5 cσ5 (pσ5_0 : (gi σ5 74 69).toInt ≤ (gi σ0 74 69).toInt + 1) hσ5 => ?_)
    replace H := f_b hσ5 H
    have fσ5 : Fr [74, 170] [69] σ0 σ5 := Fr_tr f0 cσ5 (by decide) (by decide)
    exact h9ret r6 σ5 mσ5 fσ5 (by first | omega | assumption | rfl) (H0.trans H.symm)
  · intro q_2
    replace H := f_f (by omega) H
    replace H := f_f (by omega) H
    replace H := f_t q_2 H
    refine kF_X12_body m0 (by first | omega | assumption | rfl) (fun σ7 mσ7 cσ7 (pσ7_0 : (gi σ7 74 69).toInt = (gi σ0 74 69).toInt + 1) hσ7 => ?_)
    replace H := f_v hσ7 H
    have fσ7 : Fr [74, 170] [69] σ0 σ7 := Fr_tr f0 cσ7 (by decide) (by decide)
    refine kF_X12_mowerMows mσ7 (by first | omega | assumption | rfl) (fun r9 σ8 mσ8 cσ8 (pσ8_0 : (gi σ8 74 69).toInt ≤ (gi σ7 74 69).toInt + 1) hσ8 => ?_)
    replace H := f_b hσ8 H
    have fσ8 : Fr [74, 170] [69] σ0 σ8 := Fr_tr fσ7 cσ8 (by decide) (by decide)
    exact h9ret (-r9) σ8 mσ8 fσ8 (by first | omega | assumption | rfl) (H0.trans H.symm)
  · intro q_2
    replace H := f_f (by omega) H
    replace H := f_f (by omega) H
    replace H := f_f (by omega) H
    replace H := f_t q_2 H
    exact U40 a1 a2 σ0 m0 f0 (by omega) (by omega) (by first | omega | assumption | rfl) H (by omega)
  · intro q_2
    replace H := f_f (by omega) H
    replace H := f_f (by omega) H
    replace H := f_f (by omega) H
    replace H := f_f (by omega) H
    replace H := f_t q_2 H
    refine kF_X12_body m0 (by first | omega | assumption | rfl) (fun σ10 mσ10 cσ10 (pσ10_0 : (gi σ10 74 69).toInt = (gi σ0 74 69).toInt + 1) hσ10 => ?_)
    replace H := f_v hσ10 H
    have fσ10 : Fr [74, 170] [69] σ0 σ10 := Fr_tr f0 cσ10 (by decide) (by decide)
    refine kF_X12_mowerMows mσ10 (by first | omega | assumption | rfl) (fun r12 σ11 mσ11 cσ11 (pσ11_0 : (gi σ11 74 69).toInt ≤ (gi σ10 74 69).toInt + 1) hσ11 => ?_)
    replace H := f_b hσ11 H
    have fσ11 : Fr [74, 170] [69] σ0 σ11 := Fr_tr fσ10 cσ11 (by decide) (by decide)
    refine ⟨hv_1, ?_⟩
    exact h9ret (r12 ^^^ (gi σ11 104 a1.toNatClampNeg)) σ11 mσ11 fσ11 (by first | omega | assumption | rfl) (H0.trans H.symm)
noncomputable def F_X12_mowerWhets (a1 : Int32) (a2 : Int32) (σ : Sg) : Int32 × Sg := fl (F_X12_body (11 : Int32) σ) (fun σ1 => fb (F_X12_mowsAct a1 a2 σ1) (fun r3 σ2 => (r3 - (gi σ2 104 a1.toNatClampNeg), σ2)))
set_option maxRecDepth 100000 in
set_option maxHeartbeats 4000000 in
theorem kF_X12_mowerWhets {l : Launch} {V : Vx} {a1 : Int32} {a2 : Int32} {σ0 : Sg} {Qk : Int32 → Sg → Prop} (m0 : MI σ0) (l_a1 : 0 ≤ a1.toInt) (u_a1 : a1.toInt ≤ 5) (pre0 : (gi σ0 74 69).toInt ≤ 600) (h9ret : ∀ (r : Int32) (σ' : Sg), MI σ' → Fr [74, 170] [69] σ0 σ' → ((gi σ' 74 69).toInt ≤ (gi σ0 74 69).toInt + 3) → (F_X12_mowerWhets a1 a2 σ0 = (r, σ')) → Qk r σ') : K_X12_mowerWhets l V a1 a2 σ0 Qk := by
  refine e_X12_mowerWhets (fun M hl hV hN C => ?_)
  subst hl
  subst hV
  obtain ⟨R9, H0⟩ : ∃ R9, F_X12_mowerWhets a1 a2 σ0 = R9 := ⟨_, rfl⟩
  have f0 : Fr [74, 170] [69] σ0 σ0 := Fr_rf
  have H := H0
  unfold F_X12_mowerWhets at H
  refine s_X12_mowerWhets_0 C hN ?_
  refine kF_X12_body m0 (by first | omega | assumption | rfl) (fun σ1 mσ1 cσ1 (pσ1_0 : (gi σ1 74 69).toInt = (gi σ0 74 69).toInt + 1) hσ1 => ?_)
  replace H := f_v hσ1 H
  have fσ1 : Fr [74, 170] [69] σ0 σ1 := Fr_tr f0 cσ1 (by decide) (by decide)
  refine kF_X12_mowsAct mσ1 (by omega) (by omega) (by first | omega | assumption | rfl) (fun r3 σ2 mσ2 cσ2 (pσ2_0 : (gi σ2 74 69).toInt ≤ (gi σ1 74 69).toInt + 2) hσ2 => ?_)
  replace H := f_b hσ2 H
  have fσ2 : Fr [74, 170] [69] σ0 σ2 := Fr_tr fσ1 cσ2 (by decide) (by decide)
  have hv_1 : vp_in a1 6 := vp_in_iff.mpr ⟨by omega, by omega⟩
  refine ⟨hv_1, ?_⟩
  exact h9ret (r3 - (gi σ2 104 a1.toNatClampNeg)) σ2 mσ2 fσ2 (by first | omega | assumption | rfl) (H0.trans H.symm)
noncomputable def F_X12_steadyWhets (a1 : Int32) (a2 : Int32) (σ : Sg) : Int32 × Sg := fl (F_X12_body (20 : Int32) σ) (fun σ1 => fb (F_X12_mowerWhets a1 a2 σ1) (fun r3 σ2 => (r3 ^^^ (6 : Int32), σ2)))
set_option maxRecDepth 100000 in
set_option maxHeartbeats 4000000 in
theorem kF_X12_steadyWhets {l : Launch} {V : Vx} {a1 : Int32} {a2 : Int32} {σ0 : Sg} {Qk : Int32 → Sg → Prop} (m0 : MI σ0) (l_a1 : 0 ≤ a1.toInt) (u_a1 : a1.toInt ≤ 5) (pre0 : (gi σ0 74 69).toInt ≤ 550) (h9ret : ∀ (r : Int32) (σ' : Sg), MI σ' → Fr [74, 170] [69] σ0 σ' → ((gi σ' 74 69).toInt ≤ (gi σ0 74 69).toInt + 4) → (F_X12_steadyWhets a1 a2 σ0 = (r, σ')) → Qk r σ') : K_X12_steadyWhets l V a1 a2 σ0 Qk := by
  refine e_X12_steadyWhets (fun M hl hV hN C => ?_)
  subst hl
  subst hV
  obtain ⟨R9, H0⟩ : ∃ R9, F_X12_steadyWhets a1 a2 σ0 = R9 := ⟨_, rfl⟩
  have f0 : Fr [74, 170] [69] σ0 σ0 := Fr_rf
  have H := H0
  unfold F_X12_steadyWhets at H
  refine s_X12_steadyWhets_0 C hN ?_
  refine kF_X12_body m0 (by first | omega | assumption | rfl) (fun σ1 mσ1 cσ1 (pσ1_0 : (gi σ1 74 69).toInt = (gi σ0 74 69).toInt + 1) hσ1 => ?_)
  replace H := f_v hσ1 H
  have fσ1 : Fr [74, 170] [69] σ0 σ1 := Fr_tr f0 cσ1 (by decide) (by decide)
  refine kF_X12_mowerWhets mσ1 (by omega) (by omega) (by first | omega | assumption | rfl) (fun r3 σ2 mσ2 cσ2 (pσ2_0 : (gi σ2 74 69).toInt ≤ (gi σ1 74 69).toInt + 3) hσ2 => ?_)
  replace H := f_b hσ2 H
  have fσ2 : Fr [74, 170] [69] σ0 σ2 := Fr_tr fσ1 cσ2 (by decide) (by decide)
  exact h9ret (r3 ^^^ (6 : Int32)) σ2 mσ2 fσ2 (by first | omega | assumption | rfl) (H0.trans H.symm)
noncomputable def F_X12_whetsAct (a1 : Int32) (a2 : Int32) (σ : Sg) : Int32 × Sg := (if (gi σ 103 a1.toNatClampNeg).toInt = 1 then fb (F_X12_steadyWhets a1 a2 σ) (fun r6 σ5 => (r6, σ5)) else (if (gi σ 103 a1.toNatClampNeg).toInt = 4 then fl (F_X12_body (51 : Int32) σ) (fun σ7 => fb (F_X12_steadyWhets a1 (a2 + (1 : Int32)) σ7) (fun r9 σ8 => (r9, σ8))) else (if (gi σ 103 a1.toNatClampNeg).toInt = 6 then fl (F_X12_body (70 : Int32) σ) (fun σ10 => fb (F_X12_mowerWhets a1 a2 σ10) (fun r12 σ11 => fb (F_X12_mowerMows a1 (2 : Int32) σ11) (fun r14 σ13 => (r12 + r14, σ13)))) else fb (F_X12_mowerWhets a1 a2 σ) (fun r4 σ3 => (r4, σ3)))))
set_option maxRecDepth 100000 in
set_option maxHeartbeats 4000000 in
theorem kF_X12_whetsAct {l : Launch} {V : Vx} {a1 : Int32} {a2 : Int32} {σ0 : Sg} {Qk : Int32 → Sg → Prop} (m0 : MI σ0) (l_a1 : 0 ≤ a1.toInt) (u_a1 : a1.toInt ≤ 5) (pre0 : (gi σ0 74 69).toInt ≤ 500) (h9ret : ∀ (r : Int32) (σ' : Sg), MI σ' → Fr [74, 170] [69] σ0 σ' → ((gi σ' 74 69).toInt ≤ (gi σ0 74 69).toInt + 6) → (F_X12_whetsAct a1 a2 σ0 = (r, σ')) → Qk r σ') : K_X12_whetsAct l V a1 a2 σ0 Qk := by
  refine e_X12_whetsAct (fun M hl hV hN C => ?_)
  subst hl
  subst hV
  obtain ⟨R9, H0⟩ : ∃ R9, F_X12_whetsAct a1 a2 σ0 = R9 := ⟨_, rfl⟩
  have f0 : Fr [74, 170] [69] σ0 σ0 := Fr_rf
  have H := H0
  unfold F_X12_whetsAct at H
  refine s_X12_whetsAct_0 C hN ?_
  have hv_1 : vp_in a1 6 := vp_in_iff.mpr ⟨by omega, by omega⟩
  refine ⟨hv_1, ?_⟩
  refine ⟨?_, ?_, ?_, ?_⟩
  · intro q_2
    replace H := f_f (by omega) H
    replace H := f_f (by omega) H
    replace H := f_f (by omega) H
    refine kF_X12_mowerWhets m0 (by omega) (by omega) (by first | omega | assumption | rfl) (fun r4 σ3 mσ3 cσ3 (pσ3_0 : (gi σ3 74 69).toInt ≤ (gi σ0 74 69).toInt + 3) hσ3 => ?_)
    replace H := f_b hσ3 H
    have fσ3 : Fr [74, 170] [69] σ0 σ3 := Fr_tr f0 cσ3 (by decide) (by decide)
    exact h9ret r4 σ3 mσ3 fσ3 (by first | omega | assumption | rfl) (H0.trans H.symm)
  · intro q_2
    replace H := f_t q_2 H
    refine kF_X12_steadyWhets m0 (by omega) (by omega) (by first | omega | assumption | rfl) (fun r6 σ5 mσ5 cσ5 (pσ5_0 : (gi σ5 74 69).toInt ≤ (gi σ0 74 69).toInt + 4) hσ5 => ?_)
    replace H := f_b hσ5 H
    have fσ5 : Fr [74, 170] [69] σ0 σ5 := Fr_tr f0 cσ5 (by decide) (by decide)
    exact h9ret r6 σ5 mσ5 fσ5 (by first | omega | assumption | rfl) (H0.trans H.symm)
  · intro q_2
    replace H := f_f (by omega) H
    replace H := f_t q_2 H
    refine kF_X12_body m0 (by first | omega | assumption | rfl) (fun σ7 mσ7 cσ7 (pσ7_0 : (gi σ7 74 69).toInt = (gi σ0 74 69).toInt + 1) hσ7 => ?_)
    replace H := f_v hσ7 H
    have fσ7 : Fr [74, 170] [69] σ0 σ7 := Fr_tr f0 cσ7 (by decide) (by decide)
    refine kF_X12_steadyWhets mσ7 (by omega) (by omega) (by first | omega | assumption | rfl) (fun r9 σ8 mσ8 cσ8 (pσ8_0 : (gi σ8 74 69).toInt ≤ (gi σ7 74 69).toInt + 4) hσ8 => ?_)
    replace H := f_b hσ8 H
    have fσ8 : Fr [74, 170] [69] σ0 σ8 := Fr_tr fσ7 cσ8 (by decide) (by decide)
    exact h9ret r9 σ8 mσ8 fσ8 (by first | omega | assumption | rfl) (H0.trans H.symm)
  · intro q_2
    replace H := f_f (by omega) H
    replace H := f_f (by omega) H
    replace H := f_t q_2 H
    refine kF_X12_body m0 (by first | omega | assumption | rfl) (fun σ10 mσ10 cσ10 (pσ10_0 : (gi σ10 74 69).toInt = (gi σ0 74 69).toInt + 1) hσ10 => ?_)
    replace H := f_v hσ10 H
    have fσ10 : Fr [74, 170] [69] σ0 σ10 := Fr_tr f0 cσ10 (by decide) (by decide)
    refine kF_X12_mowerWhets mσ10 (by omega) (by omega) (by first | omega | assumption | rfl) (fun r12 σ11 mσ11 cσ11 (pσ11_0 : (gi σ11 74 69).toInt ≤ (gi σ10 74 69).toInt + 3) hσ11 => ?_)
    replace H := f_b hσ11 H
    have fσ11 : Fr [74, 170] [69] σ0 σ11 := Fr_tr fσ10 cσ11 (by decide) (by decide)
    refine kF_X12_mowerMows mσ11 (by first | omega | assumption | rfl) (fun r14 σ13 mσ13 cσ13 (pσ13_0 : (gi σ13 74 69).toInt ≤ (gi σ11 74 69).toInt + 1) hσ13 => ?_)
    replace H := f_b hσ13 H
    have fσ13 : Fr [74, 170] [69] σ0 σ13 := Fr_tr fσ11 cσ13 (by decide) (by decide)
    exact h9ret (r12 + r14) σ13 mσ13 fσ13 (by first | omega | assumption | rfl) (H0.trans H.symm)
noncomputable def F_X12_mowerTells (a1 : Int32) (a2 : Int32) (σ : Sg) : Int32 × Sg := fl (F_X12_body (12 : Int32) σ) (fun σ1 => fb (F_X12_whetsAct a1 a2 σ1) (fun r3 σ2 => (r3 * (2 : Int32), σ2)))
set_option maxRecDepth 100000 in
set_option maxHeartbeats 4000000 in
theorem kF_X12_mowerTells {l : Launch} {V : Vx} {a1 : Int32} {a2 : Int32} {σ0 : Sg} {Qk : Int32 → Sg → Prop} (m0 : MI σ0) (l_a1 : 0 ≤ a1.toInt) (u_a1 : a1.toInt ≤ 5) (pre0 : (gi σ0 74 69).toInt ≤ 450) (h9ret : ∀ (r : Int32) (σ' : Sg), MI σ' → Fr [74, 170] [69] σ0 σ' → ((gi σ' 74 69).toInt ≤ (gi σ0 74 69).toInt + 7) → (F_X12_mowerTells a1 a2 σ0 = (r, σ')) → Qk r σ') : K_X12_mowerTells l V a1 a2 σ0 Qk := by
  refine e_X12_mowerTells (fun M hl hV hN C => ?_)
  subst hl
  subst hV
  obtain ⟨R9, H0⟩ : ∃ R9, F_X12_mowerTells a1 a2 σ0 = R9 := ⟨_, rfl⟩
  have f0 : Fr [74, 170] [69] σ0 σ0 := Fr_rf
  have H := H0
  unfold F_X12_mowerTells at H
  refine s_X12_mowerTells_0 C hN ?_
  refine kF_X12_body m0 (by first | omega | assumption | rfl) (fun σ1 mσ1 cσ1 (pσ1_0 : (gi σ1 74 69).toInt = (gi σ0 74 69).toInt + 1) hσ1 => ?_)
  replace H := f_v hσ1 H
  have fσ1 : Fr [74, 170] [69] σ0 σ1 := Fr_tr f0 cσ1 (by decide) (by decide)
  refine kF_X12_whetsAct mσ1 (by omega) (by omega) (by first | omega | assumption | rfl) (fun r3 σ2 mσ2 cσ2 (pσ2_0 : (gi σ2 74 69).toInt ≤ (gi σ1 74 69).toInt + 6) hσ2 => ?_)
  replace H := f_b hσ2 H
  have fσ2 : Fr [74, 170] [69] σ0 σ2 := Fr_tr fσ1 cσ2 (by decide) (by decide)
  exact h9ret (r3 * (2 : Int32)) σ2 mσ2 fσ2 (by first | omega | assumption | rfl) (H0.trans H.symm)
noncomputable def LB_X12_tellsAct_36 (rec : Int32 → Int32 → Sg → Int32 × Sg) (x1 : Int32) (x2 : Int32) (σ : Sg) : Int32 × Sg := fl (F_X12_body (40 : Int32) σ) (fun σ1 => fb (F_X12_mowerTells x1 x2 σ1) (fun r3 σ2 => fb (F_X12_whetsAct x1 (1 : Int32) σ2) (fun r5 σ4 => (r3 + r5, σ4))))
noncomputable def LF_X12_tellsAct : Nat → Int32 → Int32 → Sg → Int32 × Sg
  | 0, _, _, σ => (0, σ)
  | n + 1, x1, x2, σ => LB_X12_tellsAct_36 (LF_X12_tellsAct n) x1 x2 σ
noncomputable def F_X12_tellsAct (a1 : Int32) (a2 : Int32) (σ : Sg) : Int32 × Sg := (if (gi σ 103 a1.toNatClampNeg).toInt = 3 then LF_X12_tellsAct 9 a1 a2 σ else (if (gi σ 103 a1.toNatClampNeg).toInt = 4 then fb (F_X12_mowerTells a1 a2 σ) (fun r6 σ5 => (r6, σ5)) else (if (gi σ 103 a1.toNatClampNeg).toInt = 5 then fl (F_X12_body (60 : Int32) σ) (fun σ7 => fb (F_X12_mowerTells a1 (a2 - a1) σ7) (fun r9 σ8 => (r9, σ8))) else (if (gi σ 103 a1.toNatClampNeg).toInt = 6 then LF_X12_tellsAct 9 a1 a2 σ else fb (F_X12_mowerTells a1 a2 σ) (fun r3 σ2 => (r3, σ2))))))
set_option maxRecDepth 100000 in
set_option maxHeartbeats 4000000 in
theorem kF_X12_tellsAct {l : Launch} {V : Vx} {a1 : Int32} {a2 : Int32} {σ0 : Sg} {Qk : Int32 → Sg → Prop} (m0 : MI σ0) (l_a1 : 0 ≤ a1.toInt) (u_a1 : a1.toInt ≤ 5) (pre0 : (gi σ0 74 69).toInt ≤ 400) (h9ret : ∀ (r : Int32) (σ' : Sg), MI σ' → Fr [74, 170] [69] σ0 σ' → ((gi σ' 74 69).toInt ≤ (gi σ0 74 69).toInt + 20) → (F_X12_tellsAct a1 a2 σ0 = (r, σ')) → Qk r σ') : K_X12_tellsAct l V a1 a2 σ0 Qk := by
  refine e_X12_tellsAct (fun M hl hV hN C => ?_)
  subst hl
  subst hV
  obtain ⟨R9, H0⟩ : ∃ R9, F_X12_tellsAct a1 a2 σ0 = R9 := ⟨_, rfl⟩
  have T : ∀ n : Nat, (∀ (x1 : Int32) (x2 : Int32) (σ : Sg), MI σ → Fr [74, 170] [69] σ0 σ → (0 ≤ x1.toInt) → (x1.toInt ≤ 5) → ((gi σ 74 69).toInt ≤ (gi σ0 74 69).toInt) → (LF_X12_tellsAct n x1 x2 σ = R9) → 1 < n → PS M 36 [(0, .ref 74), (1, .int x1), (2, .int x2)] [] σ (0, 0)) := by
    intro n
    induction n with
    | zero => exact fun _ _ _ _ _ _ _ _ _ h8 => absurd h8 (Nat.not_lt_zero _)
    | succ n ih =>
      have ih36 := ih
      · intro x1 x2 σ mσ fσ lx1 ux1 i0 H hmu
        replace H : LB_X12_tellsAct_36 (LF_X12_tellsAct n) x1 x2 σ = R9 := H
        unfold LB_X12_tellsAct_36 at H
        refine s_X12_tellsAct_36 C hN ?_
        refine kF_X12_body mσ (by first | omega | assumption | rfl) (fun σ1 mσ1 cσ1 (pσ1_0 : (gi σ1 74 69).toInt = (gi σ 74 69).toInt + 1) hσ1 => ?_)
        replace H := f_v hσ1 H
        have fσ1 : Fr [74, 170] [69] σ0 σ1 := Fr_tr fσ cσ1 (by decide) (by decide)
        refine kF_X12_mowerTells mσ1 (by omega) (by omega) (by first | omega | assumption | rfl) (fun r3 σ2 mσ2 cσ2 (pσ2_0 : (gi σ2 74 69).toInt ≤ (gi σ1 74 69).toInt + 7) hσ2 => ?_)
        replace H := f_b hσ2 H
        have fσ2 : Fr [74, 170] [69] σ0 σ2 := Fr_tr fσ1 cσ2 (by decide) (by decide)
        refine kF_X12_whetsAct mσ2 (by omega) (by omega) (by first | omega | assumption | rfl) (fun r5 σ4 mσ4 cσ4 (pσ4_0 : (gi σ4 74 69).toInt ≤ (gi σ2 74 69).toInt + 6) hσ4 => ?_)
        replace H := f_b hσ4 H
        have fσ4 : Fr [74, 170] [69] σ0 σ4 := Fr_tr fσ2 cσ4 (by decide) (by decide)
        exact h9ret (r3 + r5) σ4 mσ4 fσ4 (by first | omega | assumption | rfl) (H0.trans H.symm)
  have U36 := T 9
  have f0 : Fr [74, 170] [69] σ0 σ0 := Fr_rf
  have H := H0
  unfold F_X12_tellsAct at H
  refine s_X12_tellsAct_0 C hN ?_
  have hv_1 : vp_in a1 6 := vp_in_iff.mpr ⟨by omega, by omega⟩
  refine ⟨hv_1, ?_⟩
  refine ⟨?_, ?_, ?_, ?_, ?_⟩
  · intro q_2
    replace H := f_f (by omega) H
    replace H := f_f (by omega) H
    replace H := f_f (by omega) H
    replace H := f_f (by omega) H
    refine kF_X12_mowerTells m0 (by omega) (by omega) (by first | omega | assumption | rfl) (fun r3 σ2 mσ2 cσ2 (pσ2_0 : (gi σ2 74 69).toInt ≤ (gi σ0 74 69).toInt + 7) hσ2 => ?_)
    replace H := f_b hσ2 H
    have fσ2 : Fr [74, 170] [69] σ0 σ2 := Fr_tr f0 cσ2 (by decide) (by decide)
    exact h9ret r3 σ2 mσ2 fσ2 (by first | omega | assumption | rfl) (H0.trans H.symm)
  · intro q_2
    replace H := f_t q_2 H
    exact U36 a1 a2 σ0 m0 f0 (by omega) (by omega) (by first | omega | assumption | rfl) H (by omega)
  · intro q_2
    replace H := f_f (by omega) H
    replace H := f_t q_2 H
    refine kF_X12_mowerTells m0 (by omega) (by omega) (by first | omega | assumption | rfl) (fun r6 σ5 mσ5 cσ5 (pσ5_0 : (gi σ5 74 69).toInt ≤ (gi σ0 74 69).toInt + 7) hσ5 => ?_)
    replace H := f_b hσ5 H
    have fσ5 : Fr [74, 170] [69] σ0 σ5 := Fr_tr f0 cσ5 (by decide) (by decide)
    exact h9ret r6 σ5 mσ5 fσ5 (by first | omega | assumption | rfl) (H0.trans H.symm)
  · intro q_2
    replace H := f_f (by omega) H
    replace H := f_f (by omega) H
    replace H := f_t q_2 H
    refine kF_X12_body m0 (by first | omega | assumption | rfl) (fun σ7 mσ7 cσ7 (pσ7_0 : (gi σ7 74 69).toInt = (gi σ0 74 69).toInt + 1) hσ7 => ?_)
    replace H := f_v hσ7 H
    have fσ7 : Fr [74, 170] [69] σ0 σ7 := Fr_tr f0 cσ7 (by decide) (by decide)
    refine kF_X12_mowerTells mσ7 (by omega) (by omega) (by first | omega | assumption | rfl) (fun r9 σ8 mσ8 cσ8 (pσ8_0 : (gi σ8 74 69).toInt ≤ (gi σ7 74 69).toInt + 7) hσ8 => ?_)
    replace H := f_b hσ8 H
    have fσ8 : Fr [74, 170] [69] σ0 σ8 := Fr_tr fσ7 cσ8 (by decide) (by decide)
    exact h9ret r9 σ8 mσ8 fσ8 (by first | omega | assumption | rfl) (H0.trans H.symm)
  · intro q_2
    replace H := f_f (by omega) H
    replace H := f_f (by omega) H
    replace H := f_f (by omega) H
    replace H := f_t q_2 H
    exact U36 a1 a2 σ0 m0 f0 (by omega) (by omega) (by first | omega | assumption | rfl) H (by omega)
noncomputable def F_X12_act (a1 : Int32) (a2 : Int32) (a3 : Int32) (σ : Sg) : Int32 × Sg := fl (si σ 74 69 (0 : Int32)) (fun σ1 => fb (F_X12_isMower a1 σ1) (fun r3 σ2 => (if r3 = 0 then ((0 : Int32), σ2) else fb (F_X12_in a2 (0 : Int32) (2 : Int32) σ2) (fun r6 σ5 => (if r6 = 0 then ((0 : Int32), σ5) else (if a2 = 0 then fb (F_X12_mowsAct a1 a3 σ5) (fun r15 σ14 => (r15, σ14)) else (if a2 = (1 : Int32) then fb (F_X12_whetsAct a1 a3 σ5) (fun r13 σ12 => (r13, σ12)) else fb (F_X12_tellsAct a1 a3 σ5) (fun r11 σ10 => (r11, σ10)))))))))
set_option maxRecDepth 100000 in
set_option maxHeartbeats 4000000 in
theorem kF_X12_act {l : Launch} {V : Vx} {a1 : Int32} {a2 : Int32} {a3 : Int32} {σ0 : Sg} {Qk : Int32 → Sg → Prop} (m0 : MI σ0) (h9ret : ∀ (r : Int32) (σ' : Sg), MI σ' → Fr [74, 170] [69] σ0 σ' → (F_X12_act a1 a2 a3 σ0 = (r, σ')) → Qk r σ') : K_X12_act l V a1 a2 a3 σ0 Qk := by
  refine e_X12_act (fun M hl hV hN C => ?_)
  subst hl
  subst hV
  obtain ⟨R9, H0⟩ : ∃ R9, F_X12_act a1 a2 a3 σ0 = R9 := ⟨_, rfl⟩
  have f0 : Fr [74, 170] [69] σ0 σ0 := Fr_rf
  have H := H0
  unfold F_X12_act at H
  refine s_X12_act_0 C hN ?_
  intro σ1 eσ1
  replace H := f_l eσ1 H
  have z_1 : (0 : Int32).toInt = 0 := rfl
  have mσ1 : MI σ1 := by rw [eσ1]; exact MIs_f69 m0 (by omega) (by omega)
  have fσ1 : Fr [74, 170] [69] σ0 σ1 := by rw [eσ1]; exact Fr_si f0 (by decide) (fun _ => by decide)
  have k_2 : (gi σ1 74 69).toInt = 0 := by rw [eσ1]; exact congrArg Int32.toInt gi_si_eq
  refine kF_X12_isMower mσ1  (fun r3 σ2 mσ2 cσ2 plσ2 phσ2 (pσ2_0 : (r3.toInt = 1 ∧ 0 ≤ a1.toInt ∧ a1.toInt < (gi σ1 74 0).toInt) ∨ (r3.toInt = 0 ∧ (a1.toInt < 0 ∨ (gi σ1 74 0).toInt ≤ a1.toInt))) hσ2 => ?_)
  obtain rfl := Fr_nil cσ2
  replace H := f_b hσ2 H
  have t_3 := MI_f0 mσ1
  refine ⟨?_, ?_⟩
  · intro q_4
    replace H := f_t q_4 H
    have b_5 : r3.toInt = 0 := congrArg Int32.toInt q_4
    exact h9ret (0 : Int32) σ1 mσ1 fσ1 (H0.trans H.symm)
  · intro q_4
    replace H := f_f q_4 H
    have b_6 : ¬ r3.toInt = 0 := fun h9 => q_4 (Int32.toInt_inj.mp h9)
    refine kF_X12_in mσ1  (fun r6 σ5 mσ5 cσ5 plσ5 phσ5 (pσ5_0 : (r6.toInt = 1 ∧ (0 : Int) ≤ a2.toInt ∧ a2.toInt ≤ (2 : Int)) ∨ (r6.toInt = 0 ∧ (a2.toInt < (0 : Int) ∨ (2 : Int) < a2.toInt))) hσ5 => ?_)
    obtain rfl := Fr_nil cσ5
    replace H := f_b hσ5 H
    refine ⟨?_, ?_⟩
    · intro q_7
      replace H := f_f q_7 H
      have b_8 : ¬ r6.toInt = 0 := fun h9 => q_7 (Int32.toInt_inj.mp h9)
      refine ⟨?_, ?_⟩
      · intro q_9
        replace H := f_f q_9 H
        have w_10 := Int32.toInt_lt a2
        have w_11 := Int32.le_toInt a2
        have b_12 : ¬ a2.toInt = 0 := fun h9 => q_9 (Int32.toInt_inj.mp h9)
        refine ⟨?_, ?_⟩
        · intro q_13
          replace H := f_f q_13 H
          have b_14 : ¬ a2.toInt = 1 := fun h9 => q_13 (Int32.toInt_inj.mp h9)
          refine kF_X12_tellsAct mσ1 (by omega) (by omega) (by first | omega | assumption | rfl) (fun r11 σ10 mσ10 cσ10 (pσ10_0 : (gi σ10 74 69).toInt ≤ (gi σ1 74 69).toInt + 20) hσ10 => ?_)
          replace H := f_b hσ10 H
          have fσ10 : Fr [74, 170] [69] σ0 σ10 := Fr_tr fσ1 cσ10 (by decide) (by decide)
          have k_15 : (gi σ10 74 0).toInt = (gi σ1 74 0).toInt := congrArg Int32.toInt (cσ10.2.1 0 (by decide))
          exact h9ret r11 σ10 mσ10 fσ10 (H0.trans H.symm)
        · intro q_13
          replace H := f_t q_13 H
          have b_16 : a2.toInt = 1 := congrArg Int32.toInt q_13
          refine kF_X12_whetsAct mσ1 (by omega) (by omega) (by first | omega | assumption | rfl) (fun r13 σ12 mσ12 cσ12 (pσ12_0 : (gi σ12 74 69).toInt ≤ (gi σ1 74 69).toInt + 6) hσ12 => ?_)
          replace H := f_b hσ12 H
          have fσ12 : Fr [74, 170] [69] σ0 σ12 := Fr_tr fσ1 cσ12 (by decide) (by decide)
          have k_17 : (gi σ12 74 0).toInt = (gi σ1 74 0).toInt := congrArg Int32.toInt (cσ12.2.1 0 (by decide))
          exact h9ret r13 σ12 mσ12 fσ12 (H0.trans H.symm)
      · intro q_9
        replace H := f_t q_9 H
        have w_18 := Int32.toInt_lt a2
        have w_19 := Int32.le_toInt a2
        have b_20 : a2.toInt = 0 := congrArg Int32.toInt q_9
        refine kF_X12_mowsAct mσ1 (by omega) (by omega) (by first | omega | assumption | rfl) (fun r15 σ14 mσ14 cσ14 (pσ14_0 : (gi σ14 74 69).toInt ≤ (gi σ1 74 69).toInt + 2) hσ14 => ?_)
        replace H := f_b hσ14 H
        have fσ14 : Fr [74, 170] [69] σ0 σ14 := Fr_tr fσ1 cσ14 (by decide) (by decide)
        have k_21 : (gi σ14 74 0).toInt = (gi σ1 74 0).toInt := congrArg Int32.toInt (cσ14.2.1 0 (by decide))
        exact h9ret r15 σ14 mσ14 fσ14 (H0.trans H.symm)
    · intro q_7
      replace H := f_t q_7 H
      have b_22 : r6.toInt = 0 := congrArg Int32.toInt q_7
      exact h9ret (0 : Int32) σ1 mσ1 fσ1 (H0.trans H.symm)
noncomputable def LB_X12_taken_51 (rec : Nat → Int32 → Int32 → Sg → Int32 × Sg) (x2 : Int32) (x3 : Int32) (σ : Sg) : Int32 × Sg := (if x2 = (2 : Int32) then (if x3 = (5 : Int32) then (x3, σ) else rec 1 x2 x3 σ) else rec 1 x2 x3 σ)
noncomputable def LB_X12_taken_61 (rec : Nat → Int32 → Int32 → Sg → Int32 × Sg) (x2 : Int32) (x3 : Int32) (σ : Sg) : Int32 × Sg := (if x2 = (3 : Int32) then (if x3 = (6 : Int32) then (x3, σ) else ((-12 : Int32), σ)) else ((-12 : Int32), σ))
noncomputable def LF_X12_taken : Nat → Nat → Int32 → Int32 → Sg → Int32 × Sg
  | 0, _, _, _, σ => (0, σ)
  | n + 1, 0, x2, x3, σ => LB_X12_taken_51 (LF_X12_taken n) x2 x3 σ
  | n + 1, 1, x2, x3, σ => LB_X12_taken_61 (LF_X12_taken n) x2 x3 σ
  | _ + 1, _ + 2, _, _, σ => (0, σ)
noncomputable def F_X12_taken (a1 : Int32) (a2 : Int32) (σ : Sg) : Int32 × Sg := fb (F_X12_in a2 (0 : Int32) (6 : Int32) σ) (fun r2 σ1 => (if r2 = 0 then ((-2 : Int32), σ1) else fb (F_X12_isMower a1 σ1) (fun r5 σ4 => (if r5 = 0 then ((-11 : Int32), σ4) else fl (gi σ4 103 a1.toNatClampNeg) (fun v8 => (if a2 = 0 then (v8, σ4) else (if v8 = a2 then (v8, σ4) else (if a2 = (1 : Int32) then (if v8 = (4 : Int32) then (v8, σ4) else LF_X12_taken 9 0 a2 v8 σ4) else LF_X12_taken 9 0 a2 v8 σ4))))))))
set_option maxRecDepth 100000 in
set_option maxHeartbeats 4000000 in
theorem kF_X12_taken {l : Launch} {V : Vx} {a1 : Int32} {a2 : Int32} {σ0 : Sg} {Qk : Int32 → Sg → Prop} (m0 : MI σ0) (h9ret : ∀ (r : Int32) (σ' : Sg), MI σ' → Fr [] [] σ0 σ' → (F_X12_taken a1 a2 σ0 = (r, σ')) → Qk r σ') : K_X12_taken l V a1 a2 σ0 Qk := by
  refine e_X12_taken (fun M hl hV hN C => ?_)
  subst hl
  subst hV
  obtain ⟨R9, H0⟩ : ∃ R9, F_X12_taken a1 a2 σ0 = R9 := ⟨_, rfl⟩
  have T : ∀ n : Nat, (∀ (x2 : Int32) (x3 : Int32) (σ : Sg), MI σ → Fr [] [] σ0 σ → (LF_X12_taken n 0 x2 x3 σ = R9) → 2 < n → PS M 51 [(2, .int x2), (3, .int x3)] [] σ (0, 0)) ∧ (∀ (x2 : Int32) (x3 : Int32) (σ : Sg), MI σ → Fr [] [] σ0 σ → (LF_X12_taken n 1 x2 x3 σ = R9) → 1 < n → PS M 61 [(2, .int x2), (3, .int x3)] [] σ (0, 0)) := by
    intro n
    induction n with
    | zero => exact ⟨fun _ _ _ _ _ _ h8 => absurd h8 (Nat.not_lt_zero _), fun _ _ _ _ _ _ h8 => absurd h8 (Nat.not_lt_zero _)⟩
    | succ n ih =>
      obtain ⟨ih51, ih61⟩ := ih
      refine ⟨?_, ?_⟩
      · intro x2 x3 σ mσ fσ H hmu
        replace H : LB_X12_taken_51 (LF_X12_taken n) x2 x3 σ = R9 := H
        unfold LB_X12_taken_51 at H
        refine s_X12_taken_51 C hN ?_
        refine ⟨?_, ?_⟩
        · intro q_1
          replace H := f_f q_1 H
          have w_2 := Int32.toInt_lt x2
          have w_3 := Int32.le_toInt x2
          have b_4 : ¬ x2.toInt = 2 := fun h9 => q_1 (Int32.toInt_inj.mp h9)
          exact ih61 x2 x3 σ mσ fσ H (by omega)
        · intro q_1
          replace H := f_t q_1 H
          have w_5 := Int32.toInt_lt x2
          have w_6 := Int32.le_toInt x2
          have b_7 : x2.toInt = 2 := congrArg Int32.toInt q_1
          refine ⟨?_, ?_⟩
          · intro q_8
            replace H := f_t q_8 H
            have w_9 := Int32.toInt_lt x3
            have w_10 := Int32.le_toInt x3
            have b_11 : x3.toInt = 5 := congrArg Int32.toInt q_8
            exact h9ret x3 σ mσ fσ (H0.trans H.symm)
          · intro q_8
            replace H := f_f q_8 H
            have w_12 := Int32.toInt_lt x3
            have w_13 := Int32.le_toInt x3
            have b_14 : ¬ x3.toInt = 5 := fun h9 => q_8 (Int32.toInt_inj.mp h9)
            exact ih61 x2 x3 σ mσ fσ H (by omega)
      · intro x2 x3 σ mσ fσ H hmu
        replace H : LB_X12_taken_61 (LF_X12_taken n) x2 x3 σ = R9 := H
        unfold LB_X12_taken_61 at H
        refine s_X12_taken_61 C hN ?_
        refine ⟨?_, ?_⟩
        · intro q_15
          replace H := f_f q_15 H
          have w_16 := Int32.toInt_lt x2
          have w_17 := Int32.le_toInt x2
          have b_18 : ¬ x2.toInt = 3 := fun h9 => q_15 (Int32.toInt_inj.mp h9)
          have z_19 : (-12 : Int32).toInt = -12 := rfl
          exact h9ret (-12 : Int32) σ mσ fσ (H0.trans H.symm)
        · intro q_15
          replace H := f_t q_15 H
          have w_20 := Int32.toInt_lt x2
          have w_21 := Int32.le_toInt x2
          have b_22 : x2.toInt = 3 := congrArg Int32.toInt q_15
          refine ⟨?_, ?_⟩
          · intro q_23
            replace H := f_f q_23 H
            have w_24 := Int32.toInt_lt x3
            have w_25 := Int32.le_toInt x3
            have b_26 : ¬ x3.toInt = 6 := fun h9 => q_23 (Int32.toInt_inj.mp h9)
            have z_27 : (-12 : Int32).toInt = -12 := rfl
            exact h9ret (-12 : Int32) σ mσ fσ (H0.trans H.symm)
          · intro q_23
            replace H := f_t q_23 H
            have w_28 := Int32.toInt_lt x3
            have w_29 := Int32.le_toInt x3
            have b_30 : x3.toInt = 6 := congrArg Int32.toInt q_23
            exact h9ret x3 σ mσ fσ (H0.trans H.symm)
  obtain ⟨U51, U61⟩ := T 9
  have f0 : Fr [] [] σ0 σ0 := Fr_rf
  have H := H0
  unfold F_X12_taken at H
  refine s_X12_taken_0 C hN ?_
  refine kF_X12_in m0  (fun r2 σ1 mσ1 cσ1 plσ1 phσ1 (pσ1_0 : (r2.toInt = 1 ∧ (0 : Int) ≤ a2.toInt ∧ a2.toInt ≤ (6 : Int)) ∨ (r2.toInt = 0 ∧ (a2.toInt < (0 : Int) ∨ (6 : Int) < a2.toInt))) hσ1 => ?_)
  obtain rfl := Fr_nil cσ1
  replace H := f_b hσ1 H
  refine ⟨?_, ?_⟩
  · intro q_31
    replace H := f_f q_31 H
    have b_32 : ¬ r2.toInt = 0 := fun h9 => q_31 (Int32.toInt_inj.mp h9)
    refine kF_X12_isMower m0  (fun r5 σ4 mσ4 cσ4 plσ4 phσ4 (pσ4_0 : (r5.toInt = 1 ∧ 0 ≤ a1.toInt ∧ a1.toInt < (gi σ0 74 0).toInt) ∨ (r5.toInt = 0 ∧ (a1.toInt < 0 ∨ (gi σ0 74 0).toInt ≤ a1.toInt))) hσ4 => ?_)
    obtain rfl := Fr_nil cσ4
    replace H := f_b hσ4 H
    have t_33 := MI_f0 m0
    refine ⟨?_, ?_⟩
    · intro q_34
      replace H := f_f q_34 H
      have b_35 : ¬ r5.toInt = 0 := fun h9 => q_34 (Int32.toInt_inj.mp h9)
      have w_36 := Int32.toInt_lt a1
      have w_37 := Int32.le_toInt a1
      have hv_38 : vp_in a1 6 := vp_in_iff.mpr ⟨by omega, by omega⟩
      refine ⟨hv_38, ?_⟩
      intro v8 ev8
      replace H := f_l ev8 H
      refine ⟨?_, ?_⟩
      · intro q_39
        replace H := f_t q_39 H
        have w_40 := Int32.toInt_lt a2
        have w_41 := Int32.le_toInt a2
        have b_42 : a2.toInt = 0 := congrArg Int32.toInt q_39
        exact h9ret v8 σ0 m0 f0 (H0.trans H.symm)
      · intro q_39
        replace H := f_f q_39 H
        have w_43 := Int32.toInt_lt a2
        have w_44 := Int32.le_toInt a2
        have b_45 : ¬ a2.toInt = 0 := fun h9 => q_39 (Int32.toInt_inj.mp h9)
        refine ⟨?_, ?_⟩
        · intro q_46
          replace H := f_t q_46 H
          have w_47 := Int32.toInt_lt v8
          have w_48 := Int32.le_toInt v8
          have b_49 : v8.toInt = a2.toInt := congrArg Int32.toInt q_46
          exact h9ret v8 σ0 m0 f0 (H0.trans H.symm)
        · intro q_46
          replace H := f_f q_46 H
          have w_50 := Int32.toInt_lt v8
          have w_51 := Int32.le_toInt v8
          have b_52 : ¬ v8.toInt = a2.toInt := fun h9 => q_46 (Int32.toInt_inj.mp h9)
          refine ⟨?_, ?_⟩
          · intro q_53
            replace H := f_f q_53 H
            have b_54 : ¬ a2.toInt = 1 := fun h9 => q_53 (Int32.toInt_inj.mp h9)
            exact U51 a2 v8 σ0 m0 f0 H (by omega)
          · intro q_53
            replace H := f_t q_53 H
            have b_55 : a2.toInt = 1 := congrArg Int32.toInt q_53
            refine ⟨?_, ?_⟩
            · intro q_56
              replace H := f_t q_56 H
              have b_57 : v8.toInt = 4 := congrArg Int32.toInt q_56
              exact h9ret v8 σ0 m0 f0 (H0.trans H.symm)
            · intro q_56
              replace H := f_f q_56 H
              have b_58 : ¬ v8.toInt = 4 := fun h9 => q_56 (Int32.toInt_inj.mp h9)
              exact U51 a2 v8 σ0 m0 f0 H (by omega)
    · intro q_34
      replace H := f_t q_34 H
      have b_59 : r5.toInt = 0 := congrArg Int32.toInt q_34
      have z_60 : (-11 : Int32).toInt = -11 := rfl
      exact h9ret (-11 : Int32) σ0 m0 f0 (H0.trans H.symm)
  · intro q_31
    replace H := f_t q_31 H
    have b_61 : r2.toInt = 0 := congrArg Int32.toInt q_31
    have z_62 : (-2 : Int32).toInt = -2 := rfl
    exact h9ret (-2 : Int32) σ0 m0 f0 (H0.trans H.symm)
noncomputable def LB_X12_placeOf_2 (rec : Int32 → Int32 → Sg → Int32 × Sg) (x1 : Int32) (x2 : Int32) (σ : Sg) : Int32 × Sg := (if (gi σ 110 x2.toNatClampNeg) = x1 then (x2, σ) else fl (x2 + 1) (fun v3 => rec x1 v3 σ))
noncomputable def LF_X12_placeOf : Nat → Int32 → Int32 → Sg → Int32 × Sg
  | 0, _, _, σ => (0, σ)
  | n + 1, x1, x2, σ => LB_X12_placeOf_2 (LF_X12_placeOf n) x1 x2 σ
noncomputable def F_X12_placeOf (a1 : Int32) (σ : Sg) : Int32 × Sg := LF_X12_placeOf 9 a1 (0 : Int32) σ
set_option maxRecDepth 100000 in
set_option maxHeartbeats 4000000 in
theorem kF_X12_placeOf {l : Launch} {V : Vx} {a1 : Int32} {σ0 : Sg} {Qk : Int32 → Sg → Prop} (m0 : MI σ0) (l_a1 : 0 ≤ a1.toInt) (u_a1 : a1.toInt ≤ 5) (pre0 : PL σ0) (pre1 : a1.toInt < (gi σ0 74 0).toInt) (h9ret : ∀ (r : Int32) (σ' : Sg), MI σ' → Fr [] [] σ0 σ' → (0 ≤ r.toInt) → (r.toInt ≤ 5) → (r.toInt < (gi σ0 74 0).toInt) → (gi σ0 110 r.toNatClampNeg = a1) → (F_X12_placeOf a1 σ0 = (r, σ')) → Qk r σ') : K_X12_placeOf l V a1 σ0 Qk := by
  refine e_X12_placeOf (fun M hl hV hN C => ?_)
  subst hl
  subst hV
  obtain ⟨R9, H0⟩ : ∃ R9, F_X12_placeOf a1 σ0 = R9 := ⟨_, rfl⟩
  obtain ⟨k0, hk0, ek0⟩ := PL_i pre0 l_a1 pre1
  have T : ∀ n : Nat, (∀ (x1 : Int32) (x2 : Int32) (σ : Sg), MI σ → Fr [] [] σ0 σ → (0 ≤ x1.toInt) → (x1.toInt ≤ 5) → (0 ≤ x2.toInt) → (x2.toInt ≤ 5) → (x1 = a1) → (x2.toInt ≤ k0) → (LF_X12_placeOf n x1 x2 σ = R9) → (7 - x2.toInt).toNat < n → PS M 2 [(0, .ref 74), (1, .int x1), (2, .int x2)] [] σ (0, 0)) := by
    intro n
    induction n with
    | zero => exact fun _ _ _ _ _ _ _ _ _ _ _ _ h8 => absurd h8 (Nat.not_lt_zero _)
    | succ n ih =>
      have ih2 := ih
      · intro x1 x2 σ mσ fσ lx1 ux1 lx2 ux2 i0 i1 H hmu
        replace H : LB_X12_placeOf_2 (LF_X12_placeOf n) x1 x2 σ = R9 := H
        unfold LB_X12_placeOf_2 at H
        have mw := MI_f0 mσ
        have kw : (gi σ 74 0).toInt = (gi σ0 74 0).toInt := congrArg Int32.toInt (fσ.2.1 0 (by decide))
        have g1 : gi σ 110 k0 = a1 := by rw [show gi σ 110 k0 = gi σ0 110 k0 from congrFun (fσ.1 110 (by decide)).1 _]; exact ek0
        have e110 : ∀ j, gi σ 110 j = gi σ0 110 j := fun j => congrFun (fσ.1 110 (by decide)).1 j
        refine s_X12_placeOf_2 C hN ?_
        have hv_1 : vp_in x2 6 := vp_in_iff.mpr ⟨by omega, by omega⟩
        refine ⟨hv_1, ?_⟩
        refine ⟨?_, ?_⟩
        · intro q_2
          replace H := f_t q_2 H
          have t_3 := MI_a110 mσ hv_1
          have b_4 : (gi σ 110 x2.toNatClampNeg).toInt = x1.toInt := congrArg Int32.toInt q_2
          have q9 : gi σ0 110 x2.toNatClampNeg = a1 := by rw [← e110, ← i0]; exact q_2
          exact h9ret x2 σ mσ fσ (by omega) (by omega) (by first | omega | assumption | rfl) (by first | assumption | (rw [← i0]; assumption)) (H0.trans H.symm)
        · intro q_2
          replace H := f_f q_2 H
          have t_5 := MI_a110 mσ hv_1
          have b_6 : ¬ (gi σ 110 x2.toNatClampNeg).toInt = x1.toInt := fun h9 => q_2 (Int32.toInt_inj.mp h9)
          have nk : ¬ x2.toInt = k0 := fun h9 => q_2 (by rw [show x2.toNatClampNeg = k0 from by have := cl_eq (x := x2) (by omega); omega, g1, i0])
          intro v3 ev3
          replace H := f_l ev3 H
          have t_7 : (x2 + (1 : Int32)).toInt = x2.toInt + 1 := i_add (x := x2) (y := (1 : Int32)) (by show (_ : Int) ≤ x2.toInt + 1; omega) (by show x2.toInt + 1 ≤ (_ : Int); omega)
          have t_8 : v3.toInt = (x2 + (1 : Int32)).toInt := congrArg Int32.toInt ev3
          exact ih2 x1 v3 σ mσ fσ (by omega) (by omega) (by omega) (by omega) (by first | omega | assumption | rfl) (by first | omega | assumption | rfl) H (by omega)
  have U2 := T 9
  have f0 : Fr [] [] σ0 σ0 := Fr_rf
  have H := H0
  unfold F_X12_placeOf at H
  refine s_X12_placeOf_0 C hN ?_
  have z_9 : (0 : Int32).toInt = 0 := rfl
  exact U2 a1 (0 : Int32) σ0 m0 f0 (by omega) (by omega) (by omega) (by omega) (by first | omega | assumption | rfl) (by first | omega | assumption | rfl) H (by omega)
noncomputable def LB_X12_place_34 (rec : Nat → Int32 → Int32 → Int32 → Int32 → Sg → Int32 × Sg) (x1 : Int32) (x2 : Int32) (x3 : Int32) (x4 : Int32) (σ : Sg) : Int32 × Sg := (if x2 ≤ x4 then rec 1 x1 x2 x3 x3 σ else fl (si σ 110 x4.toNatClampNeg (gi σ 110 (x4 + (1 : Int32)).toNatClampNeg)) (fun σ4 => fl (x4 + 1) (fun v5 => rec 0 x1 x2 x3 v5 σ4)))
noncomputable def LB_X12_place_65 (rec : Nat → Int32 → Int32 → Int32 → Int32 → Sg → Int32 × Sg) (x1 : Int32) (x2 : Int32) (x3 : Int32) (x4 : Int32) (σ : Sg) : Int32 × Sg := (if x4 ≤ x2 then fl (si σ 110 x2.toNatClampNeg x1) (fun σ3 => (x3, σ3)) else fl (si σ 110 x4.toNatClampNeg (gi σ 110 (x4 - (1 : Int32)).toNatClampNeg)) (fun σ6 => fl (x4 - 1) (fun v7 => rec 1 x1 x2 x3 v7 σ6)))
noncomputable def LF_X12_place : Nat → Nat → Int32 → Int32 → Int32 → Int32 → Sg → Int32 × Sg
  | 0, _, _, _, _, _, σ => (0, σ)
  | n + 1, 0, x1, x2, x3, x4, σ => LB_X12_place_34 (LF_X12_place n) x1 x2 x3 x4 σ
  | n + 1, 1, x1, x2, x3, x4, σ => LB_X12_place_65 (LF_X12_place n) x1 x2 x3 x4 σ
  | _ + 1, _ + 2, _, _, _, _, σ => (0, σ)
noncomputable def F_X12_place (a1 : Int32) (a2 : Int32) (σ : Sg) : Int32 × Sg := fb (F_X12_isMower a1 σ) (fun r2 σ1 => (if r2 = 0 then ((-1 : Int32), σ1) else fb (F_X12_in a2 (0 : Int32) ((gi σ1 74 0) - (1 : Int32)) σ1) (fun r5 σ4 => (if r5 = 0 then ((-1 : Int32), σ4) else fb (F_X12_placeOf a1 σ4) (fun r8 σ7 => LF_X12_place 60 0 a1 a2 r8 r8 σ7)))))
set_option maxRecDepth 100000 in
set_option maxHeartbeats 4000000 in
theorem kF_X12_place {l : Launch} {V : Vx} {a1 : Int32} {a2 : Int32} {σ0 : Sg} {Qk : Int32 → Sg → Prop} (m0 : MI σ0) (pre0 : PL σ0) (h9ret : ∀ (r : Int32) (σ' : Sg), MI σ' → Fr [110] [] σ0 σ' → (PL σ') → (F_X12_place a1 a2 σ0 = (r, σ')) → Qk r σ') : K_X12_place l V a1 a2 σ0 Qk := by
  refine e_X12_place (fun M hl hV hN C => ?_)
  subst hl
  subst hV
  obtain ⟨R9, H0⟩ : ∃ R9, F_X12_place a1 a2 σ0 = R9 := ⟨_, rfl⟩
  have T : ∀ n : Nat, (∀ (x1 : Int32) (x2 : Int32) (x3 : Int32) (x4 : Int32) (σ : Sg), MI σ → Fr [110] [] σ0 σ → (0 ≤ x1.toInt) → (x1.toInt ≤ 5) → (0 ≤ x2.toInt) → (x2.toInt ≤ 5) → (0 ≤ x3.toInt) → (x3.toInt ≤ 5) → (0 ≤ x4.toInt) → (x4.toInt ≤ 5) → (x1.toInt < (gi σ 74 0).toInt) → (x2.toInt < (gi σ 74 0).toInt) → (x3.toInt ≤ x4.toInt) → (x4.toInt < (gi σ 74 0).toInt) → (x4.toInt ≤ x2.toInt ∨ x4.toInt = x3.toInt) → (HL σ x1 x4.toNatClampNeg) → (LF_X12_place n 0 x1 x2 x3 x4 σ = R9) → (7 - x4.toInt).toNat + 20 < n → PS M 34 [(0, .ref 74), (1, .int x1), (2, .int x2), (3, .int x3), (4, .int x4)] [] σ (0, 0)) ∧ (∀ (x1 : Int32) (x2 : Int32) (x3 : Int32) (x4 : Int32) (σ : Sg), MI σ → Fr [110] [] σ0 σ → (0 ≤ x1.toInt) → (x1.toInt ≤ 5) → (0 ≤ x2.toInt) → (x2.toInt ≤ 5) → (0 ≤ x4.toInt) → (x4.toInt ≤ 5) → (x1.toInt < (gi σ 74 0).toInt) → (x2.toInt < (gi σ 74 0).toInt) → (x4.toInt < (gi σ 74 0).toInt) → (HZ σ x1 x2 x4) → (LF_X12_place n 1 x1 x2 x3 x4 σ = R9) → x4.toInt.toNat < n → PS M 65 [(0, .ref 74), (1, .int x1), (2, .int x2), (3, .int x3), (4, .int x4)] [] σ (0, 0)) := by
    intro n
    induction n with
    | zero => exact ⟨fun _ _ _ _ _ _ _ _ _ _ _ _ _ _ _ _ _ _ _ _ _ _ h8 => absurd h8 (Nat.not_lt_zero _), fun _ _ _ _ _ _ _ _ _ _ _ _ _ _ _ _ _ _ h8 => absurd h8 (Nat.not_lt_zero _)⟩
    | succ n ih =>
      obtain ⟨ih34, ih65⟩ := ih
      refine ⟨?_, ?_⟩
      · intro x1 x2 x3 x4 σ mσ fσ lx1 ux1 lx2 ux2 lx3 ux3 lx4 ux4 i0 i1 i2 i3 i4 i5 H hmu
        replace H : LB_X12_place_34 (LF_X12_place n) x1 x2 x3 x4 σ = R9 := H
        unfold LB_X12_place_34 at H
        refine s_X12_place_34 C hN ?_
        refine ⟨?_, ?_⟩
        · intro q_1
          replace H := f_t q_1 H
          have b_2 : x2.toInt ≤ x4.toInt := Int32.le_iff_toInt_le.mp q_1
          exact ih65 x1 x2 x3 x3 σ mσ fσ (by omega) (by omega) (by omega) (by omega) (by omega) (by omega) (by first | omega | assumption | rfl) (by first | omega | assumption | rfl) (by first | omega | assumption | rfl) (by first | exact ⟨fun z => HL_tn (by omega) i5, fun z => HL_tn (by omega) i5⟩ | (rw [eσ6]; exact (fun h9 => ⟨fun z => HL_tn (by omega) h9, fun _ => h9⟩) (HL_step (h' := v7.toNatClampNeg) (i3.2 (by omega)) (by rw [ev7]) (by have := cl_eq (x := x4) (by omega); have := cl_eq (x := v7) (by omega); omega) (by have := cl_eq (x := x4) (by omega); omega)))) H (by omega)
        · intro q_1
          replace H := f_f q_1 H
          have b_3 : ¬ x2.toInt ≤ x4.toInt := fun h9 => q_1 (Int32.le_iff_toInt_le.mpr h9)
          have t_4 : (x4 + (1 : Int32)).toInt = x4.toInt + 1 := i_add (x := x4) (y := (1 : Int32)) (by show (_ : Int) ≤ x4.toInt + 1; omega) (by show x4.toInt + 1 ≤ (_ : Int); omega)
          have hv_5 : vp_in (x4 + (1 : Int32)) 6 := vp_in_iff.mpr ⟨by omega, by omega⟩
          refine ⟨hv_5, ?_⟩
          have hv_6 : vp_in x4 6 := vp_in_iff.mpr ⟨by omega, by omega⟩
          refine ⟨hv_6, ?_⟩
          intro σ4 eσ4
          replace H := f_l eσ4 H
          have t_7 := MI_a110 mσ hv_5
          have mσ4 : MI σ4 := by rw [eσ4]; exact MIs_a110 mσ (by omega) (by omega)
          have fσ4 : Fr [110] [] σ0 σ4 := by rw [eσ4]; exact Fr_si fσ (by decide) (fun h9 => absurd h9 (by decide))
          have k_8 : (gi σ4 74 0).toInt = (gi σ 74 0).toInt := by rw [eσ4]; exact congrArg Int32.toInt (gi_si_ne (Or.inl (by decide)))
          intro v5 ev5
          replace H := f_l ev5 H
          have t_9 : v5.toInt = (x4 + (1 : Int32)).toInt := congrArg Int32.toInt ev5
          exact ih34 x1 x2 x3 v5 σ4 mσ4 fσ4 (by omega) (by omega) (by omega) (by omega) (by omega) (by omega) (by omega) (by omega) (by first | omega | assumption | rfl) (by first | omega | assumption | rfl) (by first | omega | assumption | rfl) (by first | omega | assumption | rfl) (by first | omega | assumption | rfl) (by first | exact HL_start pre0 pσ7_1 | (rw [eσ4]; exact HL_step i5 (by rw [ev5]) (by have := cl_eq (x := x4) (by omega); have := cl_eq (x := v5) (by omega); omega) (by have := cl_eq (x := x4) (by omega); omega))) H (by omega)
      · intro x1 x2 x3 x4 σ mσ fσ lx1 ux1 lx2 ux2 lx4 ux4 i0 i1 i2 i3 H hmu
        replace H : LB_X12_place_65 (LF_X12_place n) x1 x2 x3 x4 σ = R9 := H
        unfold LB_X12_place_65 at H
        refine s_X12_place_65 C hN ?_
        refine ⟨?_, ?_⟩
        · intro q_10
          replace H := f_t q_10 H
          have b_11 : x4.toInt ≤ x2.toInt := Int32.le_iff_toInt_le.mp q_10
          have hv_12 : vp_in x2 6 := vp_in_iff.mpr ⟨by omega, by omega⟩
          refine ⟨hv_12, ?_⟩
          intro σ3 eσ3
          replace H := f_l eσ3 H
          have mσ3 : MI σ3 := by rw [eσ3]; exact MIs_a110 mσ (by omega) (by omega)
          have fσ3 : Fr [110] [] σ0 σ3 := by rw [eσ3]; exact Fr_si fσ (by decide) (fun h9 => absurd h9 (by decide))
          have k_13 : (gi σ3 74 0).toInt = (gi σ 74 0).toInt := by rw [eσ3]; exact congrArg Int32.toInt (gi_si_ne (Or.inl (by decide)))
          exact h9ret x3 σ3 mσ3 fσ3 (by first | assumption | (rw [eσ3]; exact PL_end (i3.1 (by omega)) (by have := cl_eq (x := x2) (by omega); omega))) (H0.trans H.symm)
        · intro q_10
          replace H := f_f q_10 H
          have b_14 : ¬ x4.toInt ≤ x2.toInt := fun h9 => q_10 (Int32.le_iff_toInt_le.mpr h9)
          have t_15 : (x4 - (1 : Int32)).toInt = x4.toInt - 1 := i_sub (x := x4) (y := (1 : Int32)) (by show (_ : Int) ≤ x4.toInt - 1; omega) (by show x4.toInt - 1 ≤ (_ : Int); omega)
          have hv_16 : vp_in (x4 - (1 : Int32)) 6 := vp_in_iff.mpr ⟨by omega, by omega⟩
          refine ⟨hv_16, ?_⟩
          have hv_17 : vp_in x4 6 := vp_in_iff.mpr ⟨by omega, by omega⟩
          refine ⟨hv_17, ?_⟩
          intro σ6 eσ6
          replace H := f_l eσ6 H
          have t_18 := MI_a110 mσ hv_16
          have mσ6 : MI σ6 := by rw [eσ6]; exact MIs_a110 mσ (by omega) (by omega)
          have fσ6 : Fr [110] [] σ0 σ6 := by rw [eσ6]; exact Fr_si fσ (by decide) (fun h9 => absurd h9 (by decide))
          have k_19 : (gi σ6 74 0).toInt = (gi σ 74 0).toInt := by rw [eσ6]; exact congrArg Int32.toInt (gi_si_ne (Or.inl (by decide)))
          intro v7 ev7
          replace H := f_l ev7 H
          have t_20 : v7.toInt = (x4 - (1 : Int32)).toInt := congrArg Int32.toInt ev7
          exact ih65 x1 x2 x3 v7 σ6 mσ6 fσ6 (by omega) (by omega) (by omega) (by omega) (by omega) (by omega) (by first | omega | assumption | rfl) (by first | omega | assumption | rfl) (by first | omega | assumption | rfl) (by first | exact ⟨fun z => HL_tn (by omega) i5, fun z => HL_tn (by omega) i5⟩ | (rw [eσ6]; exact (fun h9 => ⟨fun z => HL_tn (by omega) h9, fun _ => h9⟩) (HL_step (h' := v7.toNatClampNeg) (i3.2 (by omega)) (by rw [ev7]) (by have := cl_eq (x := x4) (by omega); have := cl_eq (x := v7) (by omega); omega) (by have := cl_eq (x := x4) (by omega); omega)))) H (by omega)
  obtain ⟨U34, U65⟩ := T 60
  have f0 : Fr [110] [] σ0 σ0 := Fr_rf
  have mw := MI_f0 m0
  have H := H0
  unfold F_X12_place at H
  refine s_X12_place_0 C hN ?_
  refine kF_X12_isMower m0  (fun r2 σ1 mσ1 cσ1 plσ1 phσ1 (pσ1_0 : (r2.toInt = 1 ∧ 0 ≤ a1.toInt ∧ a1.toInt < (gi σ0 74 0).toInt) ∨ (r2.toInt = 0 ∧ (a1.toInt < 0 ∨ (gi σ0 74 0).toInt ≤ a1.toInt))) hσ1 => ?_)
  obtain rfl := Fr_nil cσ1
  replace H := f_b hσ1 H
  have t_21 := MI_f0 m0
  refine ⟨?_, ?_⟩
  · intro q_22
    replace H := f_t q_22 H
    have b_23 : r2.toInt = 0 := congrArg Int32.toInt q_22
    have z_24 : (-1 : Int32).toInt = -1 := rfl
    exact h9ret (-1 : Int32) σ0 m0 f0 (by first | assumption | (rw [eσ3]; exact PL_end (i3.1 (by omega)) (by have := cl_eq (x := x2) (by omega); omega))) (H0.trans H.symm)
  · intro q_22
    replace H := f_f q_22 H
    have b_25 : ¬ r2.toInt = 0 := fun h9 => q_22 (Int32.toInt_inj.mp h9)
    have t_26 : ((gi σ0 74 0) - (1 : Int32)).toInt = (gi σ0 74 0).toInt - 1 := i_sub (x := (gi σ0 74 0)) (y := (1 : Int32)) (by show (_ : Int) ≤ (gi σ0 74 0).toInt - 1; omega) (by show (gi σ0 74 0).toInt - 1 ≤ (_ : Int); omega)
    refine kF_X12_in m0  (fun r5 σ4 mσ4 cσ4 plσ4 phσ4 (pσ4_0 : (r5.toInt = 1 ∧ (0 : Int) ≤ a2.toInt ∧ a2.toInt ≤ ((gi σ0 74 0) - (1 : Int32)).toInt) ∨ (r5.toInt = 0 ∧ (a2.toInt < (0 : Int) ∨ ((gi σ0 74 0) - (1 : Int32)).toInt < a2.toInt))) hσ4 => ?_)
    obtain rfl := Fr_nil cσ4
    replace H := f_b hσ4 H
    refine ⟨?_, ?_⟩
    · intro q_27
      replace H := f_f q_27 H
      have b_28 : ¬ r5.toInt = 0 := fun h9 => q_27 (Int32.toInt_inj.mp h9)
      refine kF_X12_placeOf m0 (by omega) (by omega) (by first | omega | assumption | rfl) (by first | omega | assumption | rfl) (fun r8 σ7 mσ7 cσ7 plσ7 phσ7 (pσ7_0 : r8.toInt < (gi σ0 74 0).toInt) (pσ7_1 : gi σ0 110 r8.toNatClampNeg = a1) hσ7 => ?_)
      obtain rfl := Fr_nil cσ7
      replace H := f_b hσ7 H
      exact U34 a1 a2 r8 r8 σ0 m0 f0 (by omega) (by omega) (by omega) (by omega) (by omega) (by omega) (by omega) (by omega) (by first | omega | assumption | rfl) (by first | omega | assumption | rfl) (by first | omega | assumption | rfl) (by first | omega | assumption | rfl) (by first | omega | assumption | rfl) (by first | exact HL_start pre0 pσ7_1 | (rw [eσ4]; exact HL_step i5 (by rw [ev5]) (by have := cl_eq (x := x4) (by omega); have := cl_eq (x := v5) (by omega); omega) (by have := cl_eq (x := x4) (by omega); omega))) H (by omega)
    · intro q_27
      replace H := f_t q_27 H
      have b_29 : r5.toInt = 0 := congrArg Int32.toInt q_27
      have z_30 : (-1 : Int32).toInt = -1 := rfl
      exact h9ret (-1 : Int32) σ0 m0 f0 (by first | assumption | (rw [eσ3]; exact PL_end (i3.1 (by omega)) (by have := cl_eq (x := x2) (by omega); omega))) (H0.trans H.symm)
