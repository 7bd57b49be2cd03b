noncomputable def F_X5_isFull (c0 : Nat) (σ : Sg) : Int32 × Sg := (if (gi σ c0 1) < (Int32.ofNat (nl c0)) then ((0 : Int32), σ) else ((1 : Int32), σ))
set_option maxRecDepth 100000 in
set_option maxHeartbeats 4000000 in
theorem kF_X5_isFull {l : Launch} {V : Vx} {c0 : Nat} {σ0 : Sg} {Qk : Int32 → Sg → Prop} (hc0 : isN c0) (m0 : XI V σ0) (h9ret : ∀ (r : Int32) (σ' : Sg), XI V σ' → FX (fun id => False) (fun _ _ => False) σ0 σ' → (0 ≤ r.toInt) → (r.toInt ≤ 1) → ((r.toInt = 1 ∧ (nl c0 : Int) ≤ (gi σ0 c0 1).toInt) ∨ (r.toInt = 0 ∧ (gi σ0 c0 1).toInt < (nl c0 : Int))) → (F_X5_isFull c0 σ0 = (r, σ')) → Qk r σ') : K_X5_isFull l V c0 σ0 Qk := by
  refine e_X5_isFull (fun M hl hV hN C => ?_)
  subst hl
  subst hV
  obtain ⟨R9, H0⟩ : ∃ R9, F_X5_isFull c0 σ0 = R9 := ⟨_, rfl⟩
  have oc0 : hid (c0 = 9 ∨ c0 = 11 ∨ c0 = 13 ∨ c0 = 25 ∨ c0 = 27 ∨ c0 = 29 ∨ c0 = 41 ∨ c0 = 43 ∨ c0 = 45 ∨ c0 = 64) := hc0
  have f0 : FX (fun id => False) (fun _ _ => False) σ0 σ0 := FX_rf
  have t_1 := XI_c1 m0 (lim_N hc0)
  have t_2 := nl_le hc0
  have H := H0
  unfold F_X5_isFull at H
  refine s_X5_isFull_0 C hN hc0 ?_
  refine ⟨?_, ?_⟩
  · intro q_3
    replace H := f_t q_3 H
    have t_4 := ofNat_nl hc0
    have t_5 := nl_le hc0
    have b_6 : (gi σ0 c0 1).toInt < (Int32.ofNat (nl c0)).toInt := Int32.lt_iff_toInt_lt.mp q_3
    have z_7 : (0 : Int32).toInt = 0 := rfl
    exact h9ret (0 : Int32) σ0 m0 f0 (by omega) (by omega) (by first | with_reducible assumption | with_reducible rfl | omega | assumption | rfl) (H0.trans H.symm)
  · intro q_3
    replace H := f_f q_3 H
    have t_8 := ofNat_nl hc0
    have t_9 := nl_le hc0
    have b_10 : ¬ (gi σ0 c0 1).toInt < (Int32.ofNat (nl c0)).toInt := fun h9 => q_3 (Int32.lt_iff_toInt_lt.mpr h9)
    have z_11 : (1 : Int32).toInt = 1 := rfl
    exact h9ret (1 : Int32) σ0 m0 f0 (by omega) (by omega) (by first | with_reducible assumption | with_reducible rfl | omega | assumption | rfl) (H0.trans H.symm)
noncomputable def F_X5_has (c0 : Nat) (a1 : Int32) (σ : Sg) : Int32 × Sg := (if a1 < 0 then ((0 : Int32), σ) else (if (gi σ c0 1) ≤ a1 then ((0 : Int32), σ) else (if (Int32.ofNat (nl c0)) ≤ a1 then ((0 : Int32), σ) else ((1 : Int32), σ))))
set_option maxRecDepth 100000 in
set_option maxHeartbeats 4000000 in
theorem kF_X5_has {l : Launch} {V : Vx} {c0 : Nat} {a1 : Int32} {σ0 : Sg} {Qk : Int32 → Sg → Prop} (hc0 : isN c0) (m0 : XI V σ0) (h9ret : ∀ (r : Int32) (σ' : Sg), XI V σ' → FX (fun id => False) (fun _ _ => False) σ0 σ' → (0 ≤ r.toInt) → (r.toInt ≤ 1) → ((r.toInt = 1 ∧ 0 ≤ a1.toInt ∧ a1.toInt < (gi σ0 c0 1).toInt ∧ a1.toInt < (nl c0 : Int)) ∨ r.toInt = 0) → (F_X5_has c0 a1 σ0 = (r, σ')) → Qk r σ') : K_X5_has l V c0 a1 σ0 Qk := by
  refine e_X5_has (fun M hl hV hN C => ?_)
  subst hl
  subst hV
  obtain ⟨R9, H0⟩ : ∃ R9, F_X5_has c0 a1 σ0 = R9 := ⟨_, rfl⟩
  have oc0 : hid (c0 = 9 ∨ c0 = 11 ∨ c0 = 13 ∨ c0 = 25 ∨ c0 = 27 ∨ c0 = 29 ∨ c0 = 41 ∨ c0 = 43 ∨ c0 = 45 ∨ c0 = 64) := hc0
  have f0 : FX (fun id => False) (fun _ _ => False) σ0 σ0 := FX_rf
  have t_1 := XI_c1 m0 (lim_N hc0)
  have t_2 := nl_le hc0
  have H := H0
  unfold F_X5_has at H
  refine s_X5_has_0 C hN hc0 ?_
  refine ⟨?_, ?_⟩
  · intro q_3
    replace H := f_t q_3 H
    have w_4 := Int32.toInt_lt a1
    have w_5 := Int32.le_toInt a1
    have b_6 : a1.toInt < 0 := Int32.lt_iff_toInt_lt.mp q_3
    have z_7 : (0 : Int32).toInt = 0 := rfl
    exact h9ret (0 : Int32) σ0 m0 f0 (by omega) (by omega) (by first | with_reducible assumption | with_reducible rfl | omega | assumption | rfl) (H0.trans H.symm)
  · intro q_3
    replace H := f_f q_3 H
    have w_8 := Int32.toInt_lt a1
    have w_9 := Int32.le_toInt a1
    have b_10 : ¬ a1.toInt < 0 := fun h9 => q_3 (Int32.lt_iff_toInt_lt.mpr h9)
    refine ⟨?_, ?_⟩
    · intro q_11
      replace H := f_t q_11 H
      have b_12 : (gi σ0 c0 1).toInt ≤ a1.toInt := Int32.le_iff_toInt_le.mp q_11
      have z_13 : (0 : Int32).toInt = 0 := rfl
      exact h9ret (0 : Int32) σ0 m0 f0 (by omega) (by omega) (by first | with_reducible assumption | with_reducible rfl | omega | assumption | rfl) (H0.trans H.symm)
    · intro q_11
      replace H := f_f q_11 H
      have b_14 : ¬ (gi σ0 c0 1).toInt ≤ a1.toInt := fun h9 => q_11 (Int32.le_iff_toInt_le.mpr h9)
      refine ⟨?_, ?_⟩
      · intro q_15
        replace H := f_t q_15 H
        have t_16 := ofNat_nl hc0
        have t_17 := nl_le hc0
        have b_18 : (Int32.ofNat (nl c0)).toInt ≤ a1.toInt := Int32.le_iff_toInt_le.mp q_15
        have z_19 : (0 : Int32).toInt = 0 := rfl
        exact h9ret (0 : Int32) σ0 m0 f0 (by omega) (by omega) (by first | with_reducible assumption | with_reducible rfl | omega | assumption | rfl) (H0.trans H.symm)
      · intro q_15
        replace H := f_f q_15 H
        have t_20 := ofNat_nl hc0
        have t_21 := nl_le hc0
        have b_22 : ¬ (Int32.ofNat (nl c0)).toInt ≤ a1.toInt := fun h9 => q_15 (Int32.le_iff_toInt_le.mpr h9)
        have z_23 : (1 : Int32).toInt = 1 := rfl
        exact h9ret (1 : Int32) σ0 m0 f0 (by omega) (by omega) (by first | with_reducible assumption | with_reducible rfl | omega | assumption | rfl) (H0.trans H.symm)
noncomputable def F_X5_comes (c0 : Nat) (a1 : Int32) (σ : Sg) : Sg := (if (Int32.ofNat (nl c0)) ≤ (gi σ c0 1) then fl (si σ c0 1 ((gi σ c0 1) + (1 : Int32))) (fun σ2 => σ2) else fl (si σ (c0 + 1) (gi σ c0 1).toNatClampNeg a1) (fun σ4 => fl (si σ4 c0 1 ((gi σ4 c0 1) + (1 : Int32))) (fun σ5 => σ5)))
set_option maxRecDepth 100000 in
set_option maxHeartbeats 4000000 in
theorem kF_X5_comes {l : Launch} {V : Vx} {c0 : Nat} {a1 : Int32} {σ0 : Sg} {Qk : Sg → Prop} (hc0 : isN c0) (m0 : XI V σ0) (pre0 : (gi σ0 c0 1).toInt + 1 ≤ capI c0) (pre1 : okNum c0 (gi σ0 c0 1) a1) (h9ret : ∀ (σ' : Sg), XI V σ' → FX (fun id => id = c0 + 1) (fun id k => (id = c0 ∧ k = 1)) σ0 σ' → ((gi σ' c0 1).toInt = (gi σ0 c0 1).toInt + 1) → (F_X5_comes c0 a1 σ0 = σ') → Qk σ') : K_X5_comes l V c0 a1 σ0 Qk := by
  refine e_X5_comes (fun M hl hV hN C => ?_)
  subst hl
  subst hV
  obtain ⟨R9, H0⟩ : ∃ R9, F_X5_comes c0 a1 σ0 = R9 := ⟨_, rfl⟩
  have oc0 : hid (c0 = 9 ∨ c0 = 11 ∨ c0 = 13 ∨ c0 = 25 ∨ c0 = 27 ∨ c0 = 29 ∨ c0 = 41 ∨ c0 = 43 ∨ c0 = 45 ∨ c0 = 64) := hc0
  have f0 : FX (fun id => id = c0 + 1) (fun id k => (id = c0 ∧ k = 1)) σ0 σ0 := FX_rf
  have t_1 := XI_c1 m0 (lim_N hc0)
  have t_2 := nl_le hc0
  have hs := cl_eq (x := gi σ0 c0 1) (by omega)
  have H := H0
  unfold F_X5_comes at H
  refine s_X5_comes_0 C hN hc0 ?_
  refine ⟨?_, ?_⟩
  · intro q_3
    replace H := f_t q_3 H
    have t_4 := ofNat_nl hc0
    have t_5 := nl_le hc0
    have b_6 : (Int32.ofNat (nl c0)).toInt ≤ (gi σ0 c0 1).toInt := Int32.le_iff_toInt_le.mp q_3
    intro σ2 eσ2
    replace H := f_l eσ2 H
    have t_7 : ((gi σ0 c0 1) + (1 : Int32)).toInt = (gi σ0 c0 1).toInt + 1 := i_add (x := (gi σ0 c0 1)) (y := (1 : Int32)) (by show (_ : Int) ≤ (gi σ0 c0 1).toInt + 1; omega) (by show (gi σ0 c0 1).toInt + 1 ≤ (_ : Int); omega)
    have mσ2 : XI (mV M) σ2 := by rw [eσ2]; exact XIs_b m0 (lim_N hc0) (by omega) (by omega)
    have fσ2 : FX (fun id => id = c0 + 1) (fun id k => (id = c0 ∧ k = 1)) σ0 σ2 := by rw [eσ2]; exact FX_si f0 (Or.inr (show (c0 = c0 ∧ 1 = 1) from ⟨rfl, rfl⟩))
    have k_8 : (gi σ2 c0 1).toInt = ((gi σ0 c0 1) + (1 : Int32)).toInt := by rw [eσ2]; exact congrArg Int32.toInt gi_si_eq
    exact h9ret σ2 mσ2 fσ2 (by first | with_reducible assumption | with_reducible rfl | omega | assumption | rfl) (H0.trans H.symm)
  · intro q_3
    replace H := f_f q_3 H
    have t_9 := ofNat_nl hc0
    have t_10 := nl_le hc0
    have b_11 : ¬ (Int32.ofNat (nl c0)).toInt ≤ (gi σ0 c0 1).toInt := fun h9 => q_3 (Int32.le_iff_toInt_le.mpr h9)
    have hv_12 : vp_in (gi σ0 c0 1) (nl c0) := vp_in_iff.mpr ⟨by omega, by omega⟩
    refine ⟨hv_12, ?_⟩
    intro σ4 eσ4
    replace H := f_l eσ4 H
    have mσ4 : XI (mV M) σ4 := by rw [eσ4]; exact XIs_Nr m0 hc0 (okNum_in pre1 hs)
    have fσ4 : FX (fun id => id = c0 + 1) (fun id k => (id = c0 ∧ k = 1)) σ0 σ4 := by rw [eσ4]; exact FX_si f0 (Or.inl (show c0 + 1 = c0 + 1 from rfl))
    have k_13 : (gi σ4 c0 1).toInt = (gi σ0 c0 1).toInt := by rw [eσ4]; exact congrArg Int32.toInt (gi_si_ne (Or.inl (by first | omega | (have uoc0 := un oc0; omega))))
    intro σ5 eσ5
    replace H := f_l eσ5 H
    have t_14 := XI_c1 mσ4 (lim_N hc0)
    have t_15 := nl_le hc0
    have t_16 : ((gi σ4 c0 1) + (1 : Int32)).toInt = (gi σ4 c0 1).toInt + 1 := i_add (x := (gi σ4 c0 1)) (y := (1 : Int32)) (by show (_ : Int) ≤ (gi σ4 c0 1).toInt + 1; omega) (by show (gi σ4 c0 1).toInt + 1 ≤ (_ : Int); omega)
    have mσ5 : XI (mV M) σ5 := by rw [eσ5]; exact XIs_b mσ4 (lim_N hc0) (by omega) (by omega)
    have fσ5 : FX (fun id => id = c0 + 1) (fun id k => (id = c0 ∧ k = 1)) σ0 σ5 := by rw [eσ5]; exact FX_si fσ4 (Or.inr (show (c0 = c0 ∧ 1 = 1) from ⟨rfl, rfl⟩))
    have k_17 : (gi σ5 c0 1).toInt = ((gi σ4 c0 1) + (1 : Int32)).toInt := by rw [eσ5]; exact congrArg Int32.toInt gi_si_eq
    exact h9ret σ5 mσ5 fσ5 (by first | with_reducible assumption | with_reducible rfl | omega | assumption | rfl) (H0.trans H.symm)
noncomputable def F_X4_mowing (c0 : Nat) (a1 : Int32) (a2 : Nat) (σ : Sg) : Int32 × Sg := fl (F_X5_comes a2 (10 : Int32) σ) (fun σ1 => (a1 + (gi σ1 c0 1), σ1))
set_option maxRecDepth 100000 in
set_option maxHeartbeats 4000000 in
theorem kF_X4_mowing {l : Launch} {V : Vx} {c0 : Nat} {a1 : Int32} {a2 : Nat} {σ0 : Sg} {Qk : Int32 → Sg → Prop} {ci0 : Nat} (sc0 : ci0 = 0 ∨ ci0 = 3 ∨ ci0 = 4 ∨ ci0 = 6 ∨ ci0 = 7 ∨ ci0 = 8 ∨ ci0 = 10) (hc0 : kd c0 = (10 + ci0, 0)) (lc0 : c0 ∈ ids (V)) (ha2 : isN a2) (m0 : XI V σ0) (pre0 : a2 = 64) (pre1 : (gi σ0 a2 1).toInt ≤ 999) (h9ret : ∀ (r : Int32) (σ' : Sg), XI V σ' → FX (fun id => id = a2 + 1) (fun id k => (id = a2 ∧ k = 1)) σ0 σ' → ((gi σ' a2 1).toInt ≤ (gi σ0 a2 1).toInt + 1) → (F_X4_mowing c0 a1 a2 σ0 = (r, σ')) → Qk r σ') : K_X4_mowing l V c0 a1 a2 σ0 Qk := by
  refine e_X4_mowing (fun M hl hV hN C => ?_)
  subst hl
  subst hV
  obtain ⟨R9, H0⟩ : ∃ R9, F_X4_mowing c0 a1 a2 σ0 = R9 := ⟨_, rfl⟩
  have ic0 : isMc ci0 := by rcases sc0 with rfl | rfl | rfl | rfl | rfl | rfl | rfl <;> decide
  have gc0 := kdM_ge ic0 hc0
  have oa2 : hid (a2 = 9 ∨ a2 = 11 ∨ a2 = 13 ∨ a2 = 25 ∨ a2 = 27 ∨ a2 = 29 ∨ a2 = 41 ∨ a2 = 43 ∨ a2 = 45 ∨ a2 = 64) := ha2
  have hcap : capI a2 = 1000 := by rw [pre0]; rfl
  have f0 : FX (fun id => id = a2 + 1) (fun id k => (id = a2 ∧ k = 1)) σ0 σ0 := FX_rf
  have t_1 := XI_c1 m0 (lim_N ha2)
  have t_2 := nl_le ha2
  have t_3 := XI_c1 m0 (id := c0) (k := 1) (lim_M0_1 ic0 hc0)
  have H := H0
  unfold F_X4_mowing at H
  refine s_X4_mowing_0 C hN sc0 hc0 lc0 ha2 ?_
  have z_4 : (10 : Int32).toInt = 10 := rfl
  refine kF_X5_comes ha2 m0  (by omega) (by rw [pre0]; exact okNum_64) (fun σ1 mσ1 cσ1 (pσ1_0 : (gi σ1 a2 1).toInt = (gi σ0 a2 1).toInt + 1) hσ1 => ?_)
  replace H := f_v hσ1 H
  have fσ1 : FX (fun id => id = a2 + 1) (fun id k => (id = a2 ∧ k = 1)) σ0 σ1 := FX_tr f0 cσ1 (fun x (h9 : x = a2 + 1) => (show x = a2 + 1 from h9)) (fun x k (h9 : (x = a2 ∧ k = 1)) => (show (x = a2 + 1) ∨ ((x = a2 ∧ k = 1)) from Or.inr (show (x = a2 ∧ k = 1) from h9)))
  have t_5 := XI_c1 mσ1 (lim_N ha2)
  have t_6 := nl_le ha2
  have k_7 : (gi σ1 c0 1).toInt = (gi σ0 c0 1).toInt := congrArg Int32.toInt (FX_i cσ1 (show ¬ (c0 = a2 + 1) from by first | omega | (have uoa2 := un oa2; omega)) (show ¬ ((c0 = a2 ∧ 1 = 1)) from by first | omega | (have uoa2 := un oa2; omega)))
  have w_8 := Int32.toInt_lt a1
  have w_9 := Int32.le_toInt a1
  have t_10 := XI_c1 mσ1 (id := c0) (k := 1) (lim_M0_1 ic0 hc0)
  try have t_11 : (a1 + (gi σ1 c0 1)).toInt = a1.toInt + (gi σ1 c0 1).toInt := i_add (x := a1) (y := (gi σ1 c0 1)) (by show (_ : Int) ≤ a1.toInt + (gi σ1 c0 1).toInt; omega) (by show a1.toInt + (gi σ1 c0 1).toInt ≤ (_ : Int); omega)
  exact h9ret (a1 + (gi σ1 c0 1)) σ1 mσ1 fσ1 (by first | with_reducible assumption | with_reducible rfl | omega | assumption | rfl) (H0.trans H.symm)
noncomputable def F_X3_mowing (c0 : Nat) (a1 : Int32) (a2 : Nat) (σ : Sg) : Int32 × Sg := fl (F_X5_comes a2 (30 : Int32) σ) (fun σ1 => fb (F_X4_mowing c0 (a1 * (3 : Int32)) a2 σ1) (fun r4 σ3 => (r4, σ3)))
set_option maxRecDepth 100000 in
set_option maxHeartbeats 4000000 in
theorem kF_X3_mowing {l : Launch} {V : Vx} {c0 : Nat} {a1 : Int32} {a2 : Nat} {σ0 : Sg} {Qk : Int32 → Sg → Prop} {ci0 : Nat} (sc0 : ci0 = 3 ∨ ci0 = 7) (hc0 : kd c0 = (10 + ci0, 0)) (lc0 : c0 ∈ ids (V)) (ha2 : isN a2) (m0 : XI V σ0) (pre0 : a2 = 64) (pre1 : (gi σ0 a2 1).toInt ≤ 998) (h9ret : ∀ (r : Int32) (σ' : Sg), XI V σ' → FX (fun id => id = a2 + 1) (fun id k => (id = a2 ∧ k = 1)) σ0 σ' → ((gi σ' a2 1).toInt ≤ (gi σ0 a2 1).toInt + 2) → (F_X3_mowing c0 a1 a2 σ0 = (r, σ')) → Qk r σ') : K_X3_mowing l V c0 a1 a2 σ0 Qk := by
  refine e_X3_mowing (fun M hl hV hN C => ?_)
  subst hl
  subst hV
  obtain ⟨R9, H0⟩ : ∃ R9, F_X3_mowing c0 a1 a2 σ0 = R9 := ⟨_, rfl⟩
  have ic0 : isMc ci0 := by rcases sc0 with rfl | rfl <;> decide
  have gc0 := kdM_ge ic0 hc0
  have oa2 : hid (a2 = 9 ∨ a2 = 11 ∨ a2 = 13 ∨ a2 = 25 ∨ a2 = 27 ∨ a2 = 29 ∨ a2 = 41 ∨ a2 = 43 ∨ a2 = 45 ∨ a2 = 64) := ha2
  have hcap : capI a2 = 1000 := by rw [pre0]; rfl
  have f0 : FX (fun id => id = a2 + 1) (fun id k => (id = a2 ∧ k = 1)) σ0 σ0 := FX_rf
  have t_1 := XI_c1 m0 (lim_N ha2)
  have t_2 := nl_le ha2
  have H := H0
  unfold F_X3_mowing at H
  refine s_X3_mowing_0 C hN sc0 hc0 lc0 ha2 ?_
  have z_3 : (30 : Int32).toInt = 30 := rfl
  refine kF_X5_comes ha2 m0  (by omega) (by rw [pre0]; exact okNum_64) (fun σ1 mσ1 cσ1 (pσ1_0 : (gi σ1 a2 1).toInt = (gi σ0 a2 1).toInt + 1) hσ1 => ?_)
  replace H := f_v hσ1 H
  have fσ1 : FX (fun id => id = a2 + 1) (fun id k => (id = a2 ∧ k = 1)) σ0 σ1 := FX_tr f0 cσ1 (fun x (h9 : x = a2 + 1) => (show x = a2 + 1 from h9)) (fun x k (h9 : (x = a2 ∧ k = 1)) => (show (x = a2 + 1) ∨ ((x = a2 ∧ k = 1)) from Or.inr (show (x = a2 ∧ k = 1) from h9)))
  have t_4 := XI_c1 mσ1 (lim_N ha2)
  have t_5 := nl_le ha2
  refine kF_X4_mowing (show ci0 = 0 ∨ ci0 = 3 ∨ ci0 = 4 ∨ ci0 = 6 ∨ ci0 = 7 ∨ ci0 = 8 ∨ ci0 = 10 from by omega) hc0 lc0 ha2 mσ1  (by first | with_reducible assumption | with_reducible rfl | omega | assumption | rfl) (by first | with_reducible assumption | with_reducible rfl | omega | assumption | rfl) (fun r4 σ3 mσ3 cσ3 (pσ3_0 : (gi σ3 a2 1).toInt ≤ (gi σ1 a2 1).toInt + 1) hσ3 => ?_)
  replace H := f_b hσ3 H
  have fσ3 : FX (fun id => id = a2 + 1) (fun id k => (id = a2 ∧ k = 1)) σ0 σ3 := FX_tr fσ1 cσ3 (fun x (h9 : x = a2 + 1) => (show x = a2 + 1 from h9)) (fun x k (h9 : (x = a2 ∧ k = 1)) => (show (x = a2 + 1) ∨ ((x = a2 ∧ k = 1)) from Or.inr (show (x = a2 ∧ k = 1) from h9)))
  have t_6 := XI_c1 mσ3 (lim_N ha2)
  have t_7 := nl_le ha2
  have w_8 := Int32.toInt_lt r4
  have w_9 := Int32.le_toInt r4
  exact h9ret r4 σ3 mσ3 fσ3 (by first | with_reducible assumption | with_reducible rfl | omega | assumption | rfl) (H0.trans H.symm)
noncomputable def F_X6_mowing (c0 : Nat) (a1 : Int32) (a2 : Nat) (σ : Sg) : Int32 × Sg := fl (F_X5_comes a2 (50 : Int32) σ) (fun σ1 => fb (F_X4_mowing c0 a1 a2 σ1) (fun r4 σ3 => (-r4, σ3)))
set_option maxRecDepth 100000 in
set_option maxHeartbeats 4000000 in
theorem kF_X6_mowing {l : Launch} {V : Vx} {c0 : Nat} {a1 : Int32} {a2 : Nat} {σ0 : Sg} {Qk : Int32 → Sg → Prop} {ci0 : Nat} (sc0 : ci0 = 6) (hc0 : kd c0 = (10 + ci0, 0)) (lc0 : c0 ∈ ids (V)) (ha2 : isN a2) (m0 : XI V σ0) (pre0 : a2 = 64) (pre1 : (gi σ0 a2 1).toInt ≤ 998) (h9ret : ∀ (r : Int32) (σ' : Sg), XI V σ' → FX (fun id => id = a2 + 1) (fun id k => (id = a2 ∧ k = 1)) σ0 σ' → ((gi σ' a2 1).toInt ≤ (gi σ0 a2 1).toInt + 2) → (F_X6_mowing c0 a1 a2 σ0 = (r, σ')) → Qk r σ') : K_X6_mowing l V c0 a1 a2 σ0 Qk := by
  refine e_X6_mowing (fun M hl hV hN C => ?_)
  subst hl
  subst hV
  obtain ⟨R9, H0⟩ : ∃ R9, F_X6_mowing c0 a1 a2 σ0 = R9 := ⟨_, rfl⟩
  have ic0 : isMc ci0 := by rw [sc0]; decide
  have gc0 := kdM_ge ic0 hc0
  have oa2 : hid (a2 = 9 ∨ a2 = 11 ∨ a2 = 13 ∨ a2 = 25 ∨ a2 = 27 ∨ a2 = 29 ∨ a2 = 41 ∨ a2 = 43 ∨ a2 = 45 ∨ a2 = 64) := ha2
  have hcap : capI a2 = 1000 := by rw [pre0]; rfl
  have f0 : FX (fun id => id = a2 + 1) (fun id k => (id = a2 ∧ k = 1)) σ0 σ0 := FX_rf
  have t_1 := XI_c1 m0 (lim_N ha2)
  have t_2 := nl_le ha2
  have H := H0
  unfold F_X6_mowing at H
  refine s_X6_mowing_0 C hN sc0 hc0 lc0 ha2 ?_
  have z_3 : (50 : Int32).toInt = 50 := rfl
  refine kF_X5_comes ha2 m0  (by omega) (by rw [pre0]; exact okNum_64) (fun σ1 mσ1 cσ1 (pσ1_0 : (gi σ1 a2 1).toInt = (gi σ0 a2 1).toInt + 1) hσ1 => ?_)
  replace H := f_v hσ1 H
  have fσ1 : FX (fun id => id = a2 + 1) (fun id k => (id = a2 ∧ k = 1)) σ0 σ1 := FX_tr f0 cσ1 (fun x (h9 : x = a2 + 1) => (show x = a2 + 1 from h9)) (fun x k (h9 : (x = a2 ∧ k = 1)) => (show (x = a2 + 1) ∨ ((x = a2 ∧ k = 1)) from Or.inr (show (x = a2 ∧ k = 1) from h9)))
  have t_4 := XI_c1 mσ1 (lim_N ha2)
  have t_5 := nl_le ha2
  refine kF_X4_mowing (show ci0 = 0 ∨ ci0 = 3 ∨ ci0 = 4 ∨ ci0 = 6 ∨ ci0 = 7 ∨ ci0 = 8 ∨ ci0 = 10 from by omega) hc0 lc0 ha2 mσ1  (by first | with_reducible assumption | with_reducible rfl | omega | assumption | rfl) (by first | with_reducible assumption | with_reducible rfl | omega | assumption | rfl) (fun r4 σ3 mσ3 cσ3 (pσ3_0 : (gi σ3 a2 1).toInt ≤ (gi σ1 a2 1).toInt + 1) hσ3 => ?_)
  replace H := f_b hσ3 H
  have fσ3 : FX (fun id => id = a2 + 1) (fun id k => (id = a2 ∧ k = 1)) σ0 σ3 := FX_tr fσ1 cσ3 (fun x (h9 : x = a2 + 1) => (show x = a2 + 1 from h9)) (fun x k (h9 : (x = a2 ∧ k = 1)) => (show (x = a2 + 1) ∨ ((x = a2 ∧ k = 1)) from Or.inr (show (x = a2 ∧ k = 1) from h9)))
  have t_6 := XI_c1 mσ3 (lim_N ha2)
  have t_7 := nl_le ha2
  exact h9ret (-r4) σ3 mσ3 fσ3 (by first | with_reducible assumption | with_reducible rfl | omega | assumption | rfl) (H0.trans H.symm)
noncomputable def F_X10_mowing (c0 : Nat) (a1 : Int32) (a2 : Nat) (σ : Sg) : Int32 × Sg := fl (F_X5_comes a2 (71 : Int32) σ) (fun σ1 => fb (F_X4_mowing c0 a1 a2 σ1) (fun r4 σ3 => (r4 ^^^ (gi σ3 c0 2), σ3)))
set_option maxRecDepth 100000 in
set_option maxHeartbeats 4000000 in
theorem kF_X10_mowing {l : Launch} {V : Vx} {c0 : Nat} {a1 : Int32} {a2 : Nat} {σ0 : Sg} {Qk : Int32 → Sg → Prop} {ci0 : Nat} (sc0 : ci0 = 10) (hc0 : kd c0 = (10 + ci0, 0)) (lc0 : c0 ∈ ids (V)) (ha2 : isN a2) (m0 : XI V σ0) (pre0 : a2 = 64) (pre1 : (gi σ0 a2 1).toInt ≤ 998) (h9ret : ∀ (r : Int32) (σ' : Sg), XI V σ' → FX (fun id => id = a2 + 1) (fun id k => (id = a2 ∧ k = 1)) σ0 σ' → ((gi σ' a2 1).toInt ≤ (gi σ0 a2 1).toInt + 2) → (F_X10_mowing c0 a1 a2 σ0 = (r, σ')) → Qk r σ') : K_X10_mowing l V c0 a1 a2 σ0 Qk := by
  refine e_X10_mowing (fun M hl hV hN C => ?_)
  subst hl
  subst hV
  obtain ⟨R9, H0⟩ : ∃ R9, F_X10_mowing c0 a1 a2 σ0 = R9 := ⟨_, rfl⟩
  have ic0 : isMc ci0 := by rw [sc0]; decide
  have gc0 := kdM_ge ic0 hc0
  have oa2 : hid (a2 = 9 ∨ a2 = 11 ∨ a2 = 13 ∨ a2 = 25 ∨ a2 = 27 ∨ a2 = 29 ∨ a2 = 41 ∨ a2 = 43 ∨ a2 = 45 ∨ a2 = 64) := ha2
  have hcap : capI a2 = 1000 := by rw [pre0]; rfl
  have f0 : FX (fun id => id = a2 + 1) (fun id k => (id = a2 ∧ k = 1)) σ0 σ0 := FX_rf
  have t_1 := XI_c1 m0 (lim_N ha2)
  have t_2 := nl_le ha2
  have t_3 := XI_c1 m0 (id := c0) (k := 2) (lim_M0_2 ic0 hc0)
  have H := H0
  unfold F_X10_mowing at H
  refine s_X10_mowing_0 C hN sc0 hc0 lc0 ha2 ?_
  have z_4 : (71 : Int32).toInt = 71 := rfl
  refine kF_X5_comes ha2 m0  (by omega) (by rw [pre0]; exact okNum_64) (fun σ1 mσ1 cσ1 (pσ1_0 : (gi σ1 a2 1).toInt = (gi σ0 a2 1).toInt + 1) hσ1 => ?_)
  replace H := f_v hσ1 H
  have fσ1 : FX (fun id => id = a2 + 1) (fun id k => (id = a2 ∧ k = 1)) σ0 σ1 := FX_tr f0 cσ1 (fun x (h9 : x = a2 + 1) => (show x = a2 + 1 from h9)) (fun x k (h9 : (x = a2 ∧ k = 1)) => (show (x = a2 + 1) ∨ ((x = a2 ∧ k = 1)) from Or.inr (show (x = a2 ∧ k = 1) from h9)))
  have t_5 := XI_c1 mσ1 (lim_N ha2)
  have t_6 := nl_le ha2
  have k_7 : (gi σ1 c0 2).toInt = (gi σ0 c0 2).toInt := congrArg Int32.toInt (FX_i cσ1 (show ¬ (c0 = a2 + 1) from by first | omega | (have uoa2 := un oa2; omega)) (show ¬ ((c0 = a2 ∧ 2 = 1)) from by first | omega | (have uoa2 := un oa2; omega)))
  refine kF_X4_mowing (show ci0 = 0 ∨ ci0 = 3 ∨ ci0 = 4 ∨ ci0 = 6 ∨ ci0 = 7 ∨ ci0 = 8 ∨ ci0 = 10 from by omega) hc0 lc0 ha2 mσ1  (by first | with_reducible assumption | with_reducible rfl | omega | assumption | rfl) (by first | with_reducible assumption | with_reducible rfl | omega | assumption | rfl) (fun r4 σ3 mσ3 cσ3 (pσ3_0 : (gi σ3 a2 1).toInt ≤ (gi σ1 a2 1).toInt + 1) hσ3 => ?_)
  replace H := f_b hσ3 H
  have fσ3 : FX (fun id => id = a2 + 1) (fun id k => (id = a2 ∧ k = 1)) σ0 σ3 := FX_tr fσ1 cσ3 (fun x (h9 : x = a2 + 1) => (show x = a2 + 1 from h9)) (fun x k (h9 : (x = a2 ∧ k = 1)) => (show (x = a2 + 1) ∨ ((x = a2 ∧ k = 1)) from Or.inr (show (x = a2 ∧ k = 1) from h9)))
  have t_8 := XI_c1 mσ3 (lim_N ha2)
  have t_9 := nl_le ha2
  have k_10 : (gi σ3 c0 2).toInt = (gi σ1 c0 2).toInt := congrArg Int32.toInt (FX_i cσ3 (show ¬ (c0 = a2 + 1) from by first | omega | (have uoa2 := un oa2; omega)) (show ¬ ((c0 = a2 ∧ 2 = 1)) from by first | omega | (have uoa2 := un oa2; omega)))
  have w_11 := Int32.toInt_lt r4
  have w_12 := Int32.le_toInt r4
  have t_13 := XI_c1 mσ3 (id := c0) (k := 2) (lim_M0_2 ic0 hc0)
  exact h9ret (r4 ^^^ (gi σ3 c0 2)) σ3 mσ3 fσ3 (by first | with_reducible assumption | with_reducible rfl | omega | assumption | rfl) (H0.trans H.symm)
noncomputable def F_KD_mowing (ci : Nat) (c0 : Nat) (a1 : Int32) (a2 : Nat) (σ : Sg) : Int32 × Sg := (if ci = 0 then F_X4_mowing c0 a1 a2 σ else (if ci = 3 then F_X3_mowing c0 a1 a2 σ else (if ci = 4 then F_X4_mowing c0 a1 a2 σ else (if ci = 6 then F_X6_mowing c0 a1 a2 σ else (if ci = 7 then F_X3_mowing c0 a1 a2 σ else (if ci = 8 then F_X4_mowing c0 a1 a2 σ else (if ci = 10 then F_X10_mowing c0 a1 a2 σ else (0, σ))))))))
theorem kF_KD_mowing {l : Launch} {V : Vx} {ci c0 : Nat} {a1 : Int32} {a2 : Nat} {σ0 : Sg} {Qk : Int32 → Sg → Prop} (s : isMc ci) (h : kd c0 = (10 + ci, 0)) (lc : c0 ∈ ids V) (ha2 : isN a2) (m0 : XI V σ0) (pre0 : a2 = 64) (pre1 : (gi σ0 a2 1).toInt ≤ 998) (h9ret : ∀ (r : Int32) (σ' : Sg), XI V σ' → FX (fun id => id = a2 + 1) (fun id k => (id = a2 ∧ k = 1)) σ0 σ' → ((gi σ' a2 1).toInt ≤ (gi σ0 a2 1).toInt + 2) → (F_KD_mowing ci c0 a1 a2 σ0 = (r, σ')) → Qk r σ') : KD_mowing l V ci c0 a1 a2 σ0 Qk := by
  refine ⟨fun e => ?_, fun e => ?_, fun e => ?_, fun e => ?_, fun e => ?_, fun e => ?_, fun e => ?_⟩
  · exact kF_X4_mowing (by omega) h lc ha2 m0 pre0 (by omega) (fun r σ' m f p hF => h9ret r σ' m f (by omega) (by unfold F_KD_mowing; rw [if_pos e]; exact hF))
  · exact kF_X3_mowing (by omega) h lc ha2 m0 pre0 (by omega) (fun r σ' m f p hF => h9ret r σ' m f (by omega) (by unfold F_KD_mowing; rw [if_neg (show ¬ ci = 0 by omega), if_pos e]; exact hF))
  · exact kF_X4_mowing (by omega) h lc ha2 m0 pre0 (by omega) (fun r σ' m f p hF => h9ret r σ' m f (by omega) (by unfold F_KD_mowing; rw [if_neg (show ¬ ci = 0 by omega), if_neg (show ¬ ci = 3 by omega), if_pos e]; exact hF))
  · exact kF_X6_mowing (by omega) h lc ha2 m0 pre0 (by omega) (fun r σ' m f p hF => h9ret r σ' m f (by omega) (by unfold F_KD_mowing; rw [if_neg (show ¬ ci = 0 by omega), if_neg (show ¬ ci = 3 by omega), if_neg (show ¬ ci = 4 by omega), if_pos e]; exact hF))
  · exact kF_X3_mowing (by omega) h lc ha2 m0 pre0 (by omega) (fun r σ' m f p hF => h9ret r σ' m f (by omega) (by unfold F_KD_mowing; rw [if_neg (show ¬ ci = 0 by omega), if_neg (show ¬ ci = 3 by omega), if_neg (show ¬ ci = 4 by omega), if_neg (show ¬ ci = 6 by omega), if_pos e]; exact hF))
  · exact kF_X4_mowing (by omega) h lc ha2 m0 pre0 (by omega) (fun r σ' m f p hF => h9ret r σ' m f (by omega) (by unfold F_KD_mowing; rw [if_neg (show ¬ ci = 0 by omega), if_neg (show ¬ ci = 3 by omega), if_neg (show ¬ ci = 4 by omega), if_neg (show ¬ ci = 6 by omega), if_neg (show ¬ ci = 7 by omega), if_pos e]; exact hF))
  · exact kF_X10_mowing (by omega) h lc ha2 m0 pre0 (by omega) (fun r σ' m f p hF => h9ret r σ' m f (by omega) (by unfold F_KD_mowing; rw [if_neg (show ¬ ci = 0 by omega), if_neg (show ¬ ci = 3 by omega), if_neg (show ¬ ci = 4 by omega), if_neg (show ¬ ci = 6 by omega), if_neg (show ¬ ci = 7 by omega), if_neg (show ¬ ci = 8 by omega), if_pos e]; exact hF))
noncomputable def F_X4_whetting (c0 : Nat) (a1 : Int32) (a2 : Nat) (σ : Sg) : Int32 × Sg := fl (F_X5_comes a2 (11 : Int32) σ) (fun σ1 => fb (F_KD_mowing ((kd c0).1 - 10) c0 a1 a2 σ1) (fun r3 σ2 => (r3 - (gi σ2 c0 2), σ2)))
set_option maxRecDepth 100000 in
set_option maxHeartbeats 4000000 in
theorem kF_X4_whetting {l : Launch} {V : Vx} {c0 : Nat} {a1 : Int32} {a2 : Nat} {σ0 : Sg} {Qk : Int32 → Sg → Prop} {ci0 : Nat} (sc0 : ci0 = 0 ∨ ci0 = 3 ∨ ci0 = 4 ∨ ci0 = 6 ∨ ci0 = 7 ∨ ci0 = 8 ∨ ci0 = 10) (hc0 : kd c0 = (10 + ci0, 0)) (lc0 : c0 ∈ ids (V)) (ha2 : isN a2) (m0 : XI V σ0) (pre0 : a2 = 64) (pre1 : (gi σ0 a2 1).toInt ≤ 997) (h9ret : ∀ (r : Int32) (σ' : Sg), XI V σ' → FX (fun id => id = a2 + 1) (fun id k => (id = a2 ∧ k = 1)) σ0 σ' → ((gi σ' a2 1).toInt ≤ (gi σ0 a2 1).toInt + 3) → (F_X4_whetting c0 a1 a2 σ0 = (r, σ')) → Qk r σ') : K_X4_whetting l V c0 a1 a2 σ0 Qk := by
  refine e_X4_whetting (fun M hl hV hN C => ?_)
  subst hl
  subst hV
  obtain ⟨R9, H0⟩ : ∃ R9, F_X4_whetting c0 a1 a2 σ0 = R9 := ⟨_, rfl⟩
  have ic0 : isMc ci0 := by rcases sc0 with rfl | rfl | rfl | rfl | rfl | rfl | rfl <;> decide
  have gc0 := kdM_ge ic0 hc0
  have oa2 : hid (a2 = 9 ∨ a2 = 11 ∨ a2 = 13 ∨ a2 = 25 ∨ a2 = 27 ∨ a2 = 29 ∨ a2 = 41 ∨ a2 = 43 ∨ a2 = 45 ∨ a2 = 64) := ha2
  have hcap : capI a2 = 1000 := by rw [pre0]; rfl
  have f0 : FX (fun id => id = a2 + 1) (fun id k => (id = a2 ∧ k = 1)) σ0 σ0 := FX_rf
  have t_1 := XI_c1 m0 (lim_N ha2)
  have t_2 := nl_le ha2
  have t_3 := XI_c1 m0 (id := c0) (k := 2) (lim_M0_2 ic0 hc0)
  have H := H0
  unfold F_X4_whetting at H
  rw [show (kd c0).1 - 10 = ci0 from by rw [hc0]; exact Nat.add_sub_cancel_left _ _] at H
  refine s_X4_whetting_0 C hN sc0 hc0 lc0 ha2 ?_
  have z_4 : (11 : Int32).toInt = 11 := rfl
  refine kF_X5_comes ha2 m0  (by omega) (by rw [pre0]; exact okNum_64) (fun σ1 mσ1 cσ1 (pσ1_0 : (gi σ1 a2 1).toInt = (gi σ0 a2 1).toInt + 1) hσ1 => ?_)
  replace H := f_v hσ1 H
  have fσ1 : FX (fun id => id = a2 + 1) (fun id k => (id = a2 ∧ k = 1)) σ0 σ1 := FX_tr f0 cσ1 (fun x (h9 : x = a2 + 1) => (show x = a2 + 1 from h9)) (fun x k (h9 : (x = a2 ∧ k = 1)) => (show (x = a2 + 1) ∨ ((x = a2 ∧ k = 1)) from Or.inr (show (x = a2 ∧ k = 1) from h9)))
  have t_5 := XI_c1 mσ1 (lim_N ha2)
  have t_6 := nl_le ha2
  have k_7 : (gi σ1 c0 2).toInt = (gi σ0 c0 2).toInt := congrArg Int32.toInt (FX_i cσ1 (show ¬ (c0 = a2 + 1) from by first | omega | (have uoa2 := un oa2; omega)) (show ¬ ((c0 = a2 ∧ 2 = 1)) from by first | omega | (have uoa2 := un oa2; omega)))
  refine kF_KD_mowing ic0 hc0 lc0 ha2 mσ1  (by first | with_reducible assumption | with_reducible rfl | omega | assumption | rfl) (by first | with_reducible assumption | with_reducible rfl | omega | assumption | rfl) (fun r3 σ2 mσ2 cσ2 (pσ2_0 : (gi σ2 a2 1).toInt ≤ (gi σ1 a2 1).toInt + 2) hσ2 => ?_)
  replace H := f_b hσ2 H
  have fσ2 : FX (fun id => id = a2 + 1) (fun id k => (id = a2 ∧ k = 1)) σ0 σ2 := FX_tr fσ1 cσ2 (fun x (h9 : x = a2 + 1) => (show x = a2 + 1 from h9)) (fun x k (h9 : (x = a2 ∧ k = 1)) => (show (x = a2 + 1) ∨ ((x = a2 ∧ k = 1)) from Or.inr (show (x = a2 ∧ k = 1) from h9)))
  have t_8 := XI_c1 mσ2 (lim_N ha2)
  have t_9 := nl_le ha2
  have k_10 : (gi σ2 c0 2).toInt = (gi σ1 c0 2).toInt := congrArg Int32.toInt (FX_i cσ2 (show ¬ (c0 = a2 + 1) from by first | omega | (have uoa2 := un oa2; omega)) (show ¬ ((c0 = a2 ∧ 2 = 1)) from by first | omega | (have uoa2 := un oa2; omega)))
  have w_11 := Int32.toInt_lt r3
  have w_12 := Int32.le_toInt r3
  have t_13 := XI_c1 mσ2 (id := c0) (k := 2) (lim_M0_2 ic0 hc0)
  try have t_14 : (r3 - (gi σ2 c0 2)).toInt = r3.toInt - (gi σ2 c0 2).toInt := i_sub (x := r3) (y := (gi σ2 c0 2)) (by show (_ : Int) ≤ r3.toInt - (gi σ2 c0 2).toInt; omega) (by show r3.toInt - (gi σ2 c0 2).toInt ≤ (_ : Int); omega)
  exact h9ret (r3 - (gi σ2 c0 2)) σ2 mσ2 fσ2 (by first | with_reducible assumption | with_reducible rfl | omega | assumption | rfl) (H0.trans H.symm)
noncomputable def F_X8_whetting (c0 : Nat) (a1 : Int32) (a2 : Nat) (σ : Sg) : Int32 × Sg := fl (F_X5_comes a2 (20 : Int32) σ) (fun σ1 => fb (F_X4_whetting c0 a1 a2 σ1) (fun r4 σ3 => (r4 ^^^ (6 : Int32), σ3)))
set_option maxRecDepth 100000 in
set_option maxHeartbeats 4000000 in
theorem kF_X8_whetting {l : Launch} {V : Vx} {c0 : Nat} {a1 : Int32} {a2 : Nat} {σ0 : Sg} {Qk : Int32 → Sg → Prop} {ci0 : Nat} (sc0 : ci0 = 6 ∨ ci0 = 8) (hc0 : kd c0 = (10 + ci0, 0)) (lc0 : c0 ∈ ids (V)) (ha2 : isN a2) (m0 : XI V σ0) (pre0 : a2 = 64) (pre1 : (gi σ0 a2 1).toInt ≤ 996) (h9ret : ∀ (r : Int32) (σ' : Sg), XI V σ' → FX (fun id => id = a2 + 1) (fun id k => (id = a2 ∧ k = 1)) σ0 σ' → ((gi σ' a2 1).toInt ≤ (gi σ0 a2 1).toInt + 4) → (F_X8_whetting c0 a1 a2 σ0 = (r, σ')) → Qk r σ') : K_X8_whetting l V c0 a1 a2 σ0 Qk := by
  refine e_X8_whetting (fun M hl hV hN C => ?_)
  subst hl
  subst hV
  obtain ⟨R9, H0⟩ : ∃ R9, F_X8_whetting c0 a1 a2 σ0 = R9 := ⟨_, rfl⟩
  have ic0 : isMc ci0 := by rcases sc0 with rfl | rfl <;> decide
  have gc0 := kdM_ge ic0 hc0
  have oa2 : hid (a2 = 9 ∨ a2 = 11 ∨ a2 = 13 ∨ a2 = 25 ∨ a2 = 27 ∨ a2 = 29 ∨ a2 = 41 ∨ a2 = 43 ∨ a2 = 45 ∨ a2 = 64) := ha2
  have hcap : capI a2 = 1000 := by rw [pre0]; rfl
  have f0 : FX (fun id => id = a2 + 1) (fun id k => (id = a2 ∧ k = 1)) σ0 σ0 := FX_rf
  have t_1 := XI_c1 m0 (lim_N ha2)
  have t_2 := nl_le ha2
  have H := H0
  unfold F_X8_whetting at H
  refine s_X8_whetting_0 C hN sc0 hc0 lc0 ha2 ?_
  have z_3 : (20 : Int32).toInt = 20 := rfl
  refine kF_X5_comes ha2 m0  (by omega) (by rw [pre0]; exact okNum_64) (fun σ1 mσ1 cσ1 (pσ1_0 : (gi σ1 a2 1).toInt = (gi σ0 a2 1).toInt + 1) hσ1 => ?_)
  replace H := f_v hσ1 H
  have fσ1 : FX (fun id => id = a2 + 1) (fun id k => (id = a2 ∧ k = 1)) σ0 σ1 := FX_tr f0 cσ1 (fun x (h9 : x = a2 + 1) => (show x = a2 + 1 from h9)) (fun x k (h9 : (x = a2 ∧ k = 1)) => (show (x = a2 + 1) ∨ ((x = a2 ∧ k = 1)) from Or.inr (show (x = a2 ∧ k = 1) from h9)))
  have t_4 := XI_c1 mσ1 (lim_N ha2)
  have t_5 := nl_le ha2
  refine kF_X4_whetting (show ci0 = 0 ∨ ci0 = 3 ∨ ci0 = 4 ∨ ci0 = 6 ∨ ci0 = 7 ∨ ci0 = 8 ∨ ci0 = 10 from by omega) hc0 lc0 ha2 mσ1  (by first | with_reducible assumption | with_reducible rfl | omega | assumption | rfl) (by first | with_reducible assumption | with_reducible rfl | omega | assumption | rfl) (fun r4 σ3 mσ3 cσ3 (pσ3_0 : (gi σ3 a2 1).toInt ≤ (gi σ1 a2 1).toInt + 3) hσ3 => ?_)
  replace H := f_b hσ3 H
  have fσ3 : FX (fun id => id = a2 + 1) (fun id k => (id = a2 ∧ k = 1)) σ0 σ3 := FX_tr fσ1 cσ3 (fun x (h9 : x = a2 + 1) => (show x = a2 + 1 from h9)) (fun x k (h9 : (x = a2 ∧ k = 1)) => (show (x = a2 + 1) ∨ ((x = a2 ∧ k = 1)) from Or.inr (show (x = a2 ∧ k = 1) from h9)))
  have t_6 := XI_c1 mσ3 (lim_N ha2)
  have t_7 := nl_le ha2
  have w_8 := Int32.toInt_lt r4
  have w_9 := Int32.le_toInt r4
  exact h9ret (r4 ^^^ (6 : Int32)) σ3 mσ3 fσ3 (by first | with_reducible assumption | with_reducible rfl | omega | assumption | rfl) (H0.trans H.symm)
noncomputable def F_X6_whetting (c0 : Nat) (a1 : Int32) (a2 : Nat) (σ : Sg) : Int32 × Sg := fl (F_X5_comes a2 (51 : Int32) σ) (fun σ1 => fb (F_X8_whetting c0 (a1 + (1 : Int32)) a2 σ1) (fun r4 σ3 => (r4, σ3)))
set_option maxRecDepth 100000 in
set_option maxHeartbeats 4000000 in
theorem kF_X6_whetting {l : Launch} {V : Vx} {c0 : Nat} {a1 : Int32} {a2 : Nat} {σ0 : Sg} {Qk : Int32 → Sg → Prop} {ci0 : Nat} (sc0 : ci0 = 6) (hc0 : kd c0 = (10 + ci0, 0)) (lc0 : c0 ∈ ids (V)) (ha2 : isN a2) (m0 : XI V σ0) (pre0 : a2 = 64) (pre1 : (gi σ0 a2 1).toInt ≤ 995) (h9ret : ∀ (r : Int32) (σ' : Sg), XI V σ' → FX (fun id => id = a2 + 1) (fun id k => (id = a2 ∧ k = 1)) σ0 σ' → ((gi σ' a2 1).toInt ≤ (gi σ0 a2 1).toInt + 5) → (F_X6_whetting c0 a1 a2 σ0 = (r, σ')) → Qk r σ') : K_X6_whetting l V c0 a1 a2 σ0 Qk := by
  refine e_X6_whetting (fun M hl hV hN C => ?_)
  subst hl
  subst hV
  obtain ⟨R9, H0⟩ : ∃ R9, F_X6_whetting c0 a1 a2 σ0 = R9 := ⟨_, rfl⟩
  have ic0 : isMc ci0 := by rw [sc0]; decide
  have gc0 := kdM_ge ic0 hc0
  have oa2 : hid (a2 = 9 ∨ a2 = 11 ∨ a2 = 13 ∨ a2 = 25 ∨ a2 = 27 ∨ a2 = 29 ∨ a2 = 41 ∨ a2 = 43 ∨ a2 = 45 ∨ a2 = 64) := ha2
  have hcap : capI a2 = 1000 := by rw [pre0]; rfl
  have f0 : FX (fun id => id = a2 + 1) (fun id k => (id = a2 ∧ k = 1)) σ0 σ0 := FX_rf
  have t_1 := XI_c1 m0 (lim_N ha2)
  have t_2 := nl_le ha2
  have H := H0
  unfold F_X6_whetting at H
  refine s_X6_whetting_0 C hN sc0 hc0 lc0 ha2 ?_
  have z_3 : (51 : Int32).toInt = 51 := rfl
  refine kF_X5_comes ha2 m0  (by omega) (by rw [pre0]; exact okNum_64) (fun σ1 mσ1 cσ1 (pσ1_0 : (gi σ1 a2 1).toInt = (gi σ0 a2 1).toInt + 1) hσ1 => ?_)
  replace H := f_v hσ1 H
  have fσ1 : FX (fun id => id = a2 + 1) (fun id k => (id = a2 ∧ k = 1)) σ0 σ1 := FX_tr f0 cσ1 (fun x (h9 : x = a2 + 1) => (show x = a2 + 1 from h9)) (fun x k (h9 : (x = a2 ∧ k = 1)) => (show (x = a2 + 1) ∨ ((x = a2 ∧ k = 1)) from Or.inr (show (x = a2 ∧ k = 1) from h9)))
  have t_4 := XI_c1 mσ1 (lim_N ha2)
  have t_5 := nl_le ha2
  have w_6 := Int32.toInt_lt a1
  have w_7 := Int32.le_toInt a1
  try have t_8 : (a1 + (1 : Int32)).toInt = a1.toInt + 1 := i_add (x := a1) (y := (1 : Int32)) (by show (_ : Int) ≤ a1.toInt + 1; omega) (by show a1.toInt + 1 ≤ (_ : Int); omega)
  refine kF_X8_whetting (show ci0 = 6 ∨ ci0 = 8 from by omega) hc0 lc0 ha2 mσ1  (by first | with_reducible assumption | with_reducible rfl | omega | assumption | rfl) (by first | with_reducible assumption | with_reducible rfl | omega | assumption | rfl) (fun r4 σ3 mσ3 cσ3 (pσ3_0 : (gi σ3 a2 1).toInt ≤ (gi σ1 a2 1).toInt + 4) hσ3 => ?_)
  replace H := f_b hσ3 H
  have fσ3 : FX (fun id => id = a2 + 1) (fun id k => (id = a2 ∧ k = 1)) σ0 σ3 := FX_tr fσ1 cσ3 (fun x (h9 : x = a2 + 1) => (show x = a2 + 1 from h9)) (fun x k (h9 : (x = a2 ∧ k = 1)) => (show (x = a2 + 1) ∨ ((x = a2 ∧ k = 1)) from Or.inr (show (x = a2 ∧ k = 1) from h9)))
  have t_9 := XI_c1 mσ3 (lim_N ha2)
  have t_10 := nl_le ha2
  have w_11 := Int32.toInt_lt r4
  have w_12 := Int32.le_toInt r4
  exact h9ret r4 σ3 mσ3 fσ3 (by first | with_reducible assumption | with_reducible rfl | omega | assumption | rfl) (H0.trans H.symm)
noncomputable def F_X10_whetting (c0 : Nat) (a1 : Int32) (a2 : Nat) (σ : Sg) : Int32 × Sg := fl (F_X5_comes a2 (70 : Int32) σ) (fun σ1 => fb (F_X4_whetting c0 a1 a2 σ1) (fun r4 σ3 => fb (F_X4_mowing c0 (2 : Int32) a2 σ3) (fun r7 σ6 => (r4 + r7, σ6))))
set_option maxRecDepth 100000 in
set_option maxHeartbeats 4000000 in
theorem kF_X10_whetting {l : Launch} {V : Vx} {c0 : Nat} {a1 : Int32} {a2 : Nat} {σ0 : Sg} {Qk : Int32 → Sg → Prop} {ci0 : Nat} (sc0 : ci0 = 10) (hc0 : kd c0 = (10 + ci0, 0)) (lc0 : c0 ∈ ids (V)) (ha2 : isN a2) (m0 : XI V σ0) (pre0 : a2 = 64) (pre1 : (gi σ0 a2 1).toInt ≤ 995) (h9ret : ∀ (r : Int32) (σ' : Sg), XI V σ' → FX (fun id => id = a2 + 1) (fun id k => (id = a2 ∧ k = 1)) σ0 σ' → ((gi σ' a2 1).toInt ≤ (gi σ0 a2 1).toInt + 5) → (F_X10_whetting c0 a1 a2 σ0 = (r, σ')) → Qk r σ') : K_X10_whetting l V c0 a1 a2 σ0 Qk := by
  refine e_X10_whetting (fun M hl hV hN C => ?_)
  subst hl
  subst hV
  obtain ⟨R9, H0⟩ : ∃ R9, F_X10_whetting c0 a1 a2 σ0 = R9 := ⟨_, rfl⟩
  have ic0 : isMc ci0 := by rw [sc0]; decide
  have gc0 := kdM_ge ic0 hc0
  have oa2 : hid (a2 = 9 ∨ a2 = 11 ∨ a2 = 13 ∨ a2 = 25 ∨ a2 = 27 ∨ a2 = 29 ∨ a2 = 41 ∨ a2 = 43 ∨ a2 = 45 ∨ a2 = 64) := ha2
  have hcap : capI a2 = 1000 := by rw [pre0]; rfl
  have f0 : FX (fun id => id = a2 + 1) (fun id k => (id = a2 ∧ k = 1)) σ0 σ0 := FX_rf
  have t_1 := XI_c1 m0 (lim_N ha2)
  have t_2 := nl_le ha2
  have H := H0
  unfold F_X10_whetting at H
  refine s_X10_whetting_0 C hN sc0 hc0 lc0 ha2 ?_
  have z_3 : (70 : Int32).toInt = 70 := rfl
  refine kF_X5_comes ha2 m0  (by omega) (by rw [pre0]; exact okNum_64) (fun σ1 mσ1 cσ1 (pσ1_0 : (gi σ1 a2 1).toInt = (gi σ0 a2 1).toInt + 1) hσ1 => ?_)
  replace H := f_v hσ1 H
  have fσ1 : FX (fun id => id = a2 + 1) (fun id k => (id = a2 ∧ k = 1)) σ0 σ1 := FX_tr f0 cσ1 (fun x (h9 : x = a2 + 1) => (show x = a2 + 1 from h9)) (fun x k (h9 : (x = a2 ∧ k = 1)) => (show (x = a2 + 1) ∨ ((x = a2 ∧ k = 1)) from Or.inr (show (x = a2 ∧ k = 1) from h9)))
  have t_4 := XI_c1 mσ1 (lim_N ha2)
  have t_5 := nl_le ha2
  refine kF_X4_whetting (show ci0 = 0 ∨ ci0 = 3 ∨ ci0 = 4 ∨ ci0 = 6 ∨ ci0 = 7 ∨ ci0 = 8 ∨ ci0 = 10 from by omega) hc0 lc0 ha2 mσ1  (by first | with_reducible assumption | with_reducible rfl | omega | assumption | rfl) (by first | with_reducible assumption | with_reducible rfl | omega | assumption | rfl) (fun r4 σ3 mσ3 cσ3 (pσ3_0 : (gi σ3 a2 1).toInt ≤ (gi σ1 a2 1).toInt + 3) hσ3 => ?_)
  replace H := f_b hσ3 H
  have fσ3 : FX (fun id => id = a2 + 1) (fun id k => (id = a2 ∧ k = 1)) σ0 σ3 := FX_tr fσ1 cσ3 (fun x (h9 : x = a2 + 1) => (show x = a2 + 1 from h9)) (fun x k (h9 : (x = a2 ∧ k = 1)) => (show (x = a2 + 1) ∨ ((x = a2 ∧ k = 1)) from Or.inr (show (x = a2 ∧ k = 1) from h9)))
  have t_6 := XI_c1 mσ3 (lim_N ha2)
  have t_7 := nl_le ha2
  have z_8 : (2 : Int32).toInt = 2 := rfl
  refine kF_X4_mowing (show ci0 = 0 ∨ ci0 = 3 ∨ ci0 = 4 ∨ ci0 = 6 ∨ ci0 = 7 ∨ ci0 = 8 ∨ ci0 = 10 from by omega) hc0 lc0 ha2 mσ3  (by first | with_reducible assumption | with_reducible rfl | omega | assumption | rfl) (by first | with_reducible assumption | with_reducible rfl | omega | assumption | rfl) (fun r7 σ6 mσ6 cσ6 (pσ6_0 : (gi σ6 a2 1).toInt ≤ (gi σ3 a2 1).toInt + 1) hσ6 => ?_)
  replace H := f_b hσ6 H
  have fσ6 : FX (fun id => id = a2 + 1) (fun id k => (id = a2 ∧ k = 1)) σ0 σ6 := FX_tr fσ3 cσ6 (fun x (h9 : x = a2 + 1) => (show x = a2 + 1 from h9)) (fun x k (h9 : (x = a2 ∧ k = 1)) => (show (x = a2 + 1) ∨ ((x = a2 ∧ k = 1)) from Or.inr (show (x = a2 ∧ k = 1) from h9)))
  have t_9 := XI_c1 mσ6 (lim_N ha2)
  have t_10 := nl_le ha2
  have w_11 := Int32.toInt_lt r4
  have w_12 := Int32.le_toInt r4
  have w_13 := Int32.toInt_lt r7
  have w_14 := Int32.le_toInt r7
  try have t_15 : (r4 + r7).toInt = r4.toInt + r7.toInt := i_add (x := r4) (y := r7) (by show (_ : Int) ≤ r4.toInt + r7.toInt; omega) (by show r4.toInt + r7.toInt ≤ (_ : Int); omega)
  exact h9ret (r4 + r7) σ6 mσ6 fσ6 (by first | with_reducible assumption | with_reducible rfl | omega | assumption | rfl) (H0.trans H.symm)
noncomputable def F_KD_whetting (ci : Nat) (c0 : Nat) (a1 : Int32) (a2 : Nat) (σ : Sg) : Int32 × Sg := (if ci = 0 then F_X4_whetting c0 a1 a2 σ else (if ci = 3 then F_X4_whetting c0 a1 a2 σ else (if ci = 4 then F_X4_whetting c0 a1 a2 σ else (if ci = 6 then F_X6_whetting c0 a1 a2 σ else (if ci = 7 then F_X4_whetting c0 a1 a2 σ else (if ci = 8 then F_X8_whetting c0 a1 a2 σ else (if ci = 10 then F_X10_whetting c0 a1 a2 σ else (0, σ))))))))
theorem kF_KD_whetting {l : Launch} {V : Vx} {ci c0 : Nat} {a1 : Int32} {a2 : Nat} {σ0 : Sg} {Qk : Int32 → Sg → Prop} (s : isMc ci) (h : kd c0 = (10 + ci, 0)) (lc : c0 ∈ ids V) (ha2 : isN a2) (m0 : XI V σ0) (pre0 : a2 = 64) (pre1 : (gi σ0 a2 1).toInt ≤ 995) (h9ret : ∀ (r : Int32) (σ' : Sg), XI V σ' → FX (fun id => id = a2 + 1) (fun id k => (id = a2 ∧ k = 1)) σ0 σ' → ((gi σ' a2 1).toInt ≤ (gi σ0 a2 1).toInt + 5) → (F_KD_whetting ci c0 a1 a2 σ0 = (r, σ')) → Qk r σ') : KD_whetting l V ci c0 a1 a2 σ0 Qk := by
  refine ⟨fun e => ?_, fun e => ?_, fun e => ?_, fun e => ?_, fun e => ?_, fun e => ?_, fun e => ?_⟩
  · exact kF_X4_whetting (by omega) h lc ha2 m0 pre0 (by omega) (fun r σ' m f p hF => h9ret r σ' m f (by omega) (by unfold F_KD_whetting; rw [if_pos e]; exact hF))
  · exact kF_X4_whetting (by omega) h lc ha2 m0 pre0 (by omega) (fun r σ' m f p hF => h9ret r σ' m f (by omega) (by unfold F_KD_whetting; rw [if_neg (show ¬ ci = 0 by omega), if_pos e]; exact hF))
  · exact kF_X4_whetting (by omega) h lc ha2 m0 pre0 (by omega) (fun r σ' m f p hF => h9ret r σ' m f (by omega) (by unfold F_KD_whetting; rw [if_neg (show ¬ ci = 0 by omega), if_neg (show ¬ ci = 3 by omega), if_pos e]; exact hF))
  · exact kF_X6_whetting (by omega) h lc ha2 m0 pre0 (by omega) (fun r σ' m f p hF => h9ret r σ' m f (by omega) (by unfold F_KD_whetting; rw [if_neg (show ¬ ci = 0 by omega), if_neg (show ¬ ci = 3 by omega), if_neg (show ¬ ci = 4 by omega), if_pos e]; exact hF))
  · exact kF_X4_whetting (by omega) h lc ha2 m0 pre0 (by omega) (fun r σ' m f p hF => h9ret r σ' m f (by omega) (by unfold F_KD_whetting; rw [if_neg (show ¬ ci = 0 by omega), if_neg (show ¬ ci = 3 by omega), if_neg (show ¬ ci = 4 by omega), if_neg (show ¬ ci = 6 by omega), if_pos e]; exact hF))
  · exact kF_X8_whetting (by omega) h lc ha2 m0 pre0 (by omega) (fun r σ' m f p hF => h9ret r σ' m f (by omega) (by unfold F_KD_whetting; rw [if_neg (show ¬ ci = 0 by omega), if_neg (show ¬ ci = 3 by omega), if_neg (show ¬ ci = 4 by omega), if_neg (show ¬ ci = 6 by omega), if_neg (show ¬ ci = 7 by omega), if_pos e]; exact hF))
  · exact kF_X10_whetting (by omega) h lc ha2 m0 pre0 (by omega) (fun r σ' m f p hF => h9ret r σ' m f (by omega) (by unfold F_KD_whetting; rw [if_neg (show ¬ ci = 0 by omega), if_neg (show ¬ ci = 3 by omega), if_neg (show ¬ ci = 4 by omega), if_neg (show ¬ ci = 6 by omega), if_neg (show ¬ ci = 7 by omega), if_neg (show ¬ ci = 8 by omega), if_pos e]; exact hF))
noncomputable def F_X4_telling (c0 : Nat) (a1 : Int32) (a2 : Nat) (σ : Sg) : Int32 × Sg := fl (F_X5_comes a2 (12 : Int32) σ) (fun σ1 => fb (F_KD_whetting ((kd c0).1 - 10) c0 a1 a2 σ1) (fun r3 σ2 => (r3 * (2 : Int32), σ2)))
set_option maxRecDepth 100000 in
set_option maxHeartbeats 4000000 in
theorem kF_X4_telling {l : Launch} {V : Vx} {c0 : Nat} {a1 : Int32} {a2 : Nat} {σ0 : Sg} {Qk : Int32 → Sg → Prop} {ci0 : Nat} (sc0 : ci0 = 0 ∨ ci0 = 3 ∨ ci0 = 4 ∨ ci0 = 6 ∨ ci0 = 7 ∨ ci0 = 8 ∨ ci0 = 10) (hc0 : kd c0 = (10 + ci0, 0)) (lc0 : c0 ∈ ids (V)) (ha2 : isN a2) (m0 : XI V σ0) (pre0 : a2 = 64) (pre1 : (gi σ0 a2 1).toInt ≤ 994) (h9ret : ∀ (r : Int32) (σ' : Sg), XI V σ' → FX (fun id => id = a2 + 1) (fun id k => (id = a2 ∧ k = 1)) σ0 σ' → ((gi σ' a2 1).toInt ≤ (gi σ0 a2 1).toInt + 6) → (F_X4_telling c0 a1 a2 σ0 = (r, σ')) → Qk r σ') : K_X4_telling l V c0 a1 a2 σ0 Qk := by
  refine e_X4_telling (fun M hl hV hN C => ?_)
  subst hl
  subst hV
  obtain ⟨R9, H0⟩ : ∃ R9, F_X4_telling c0 a1 a2 σ0 = R9 := ⟨_, rfl⟩
  have ic0 : isMc ci0 := by rcases sc0 with rfl | rfl | rfl | rfl | rfl | rfl | rfl <;> decide
  have gc0 := kdM_ge ic0 hc0
  have oa2 : hid (a2 = 9 ∨ a2 = 11 ∨ a2 = 13 ∨ a2 = 25 ∨ a2 = 27 ∨ a2 = 29 ∨ a2 = 41 ∨ a2 = 43 ∨ a2 = 45 ∨ a2 = 64) := ha2
  have hcap : capI a2 = 1000 := by rw [pre0]; rfl
  have f0 : FX (fun id => id = a2 + 1) (fun id k => (id = a2 ∧ k = 1)) σ0 σ0 := FX_rf
  have t_1 := XI_c1 m0 (lim_N ha2)
  have t_2 := nl_le ha2
  have H := H0
  unfold F_X4_telling at H
  rw [show (kd c0).1 - 10 = ci0 from by rw [hc0]; exact Nat.add_sub_cancel_left _ _] at H
  refine s_X4_telling_0 C hN sc0 hc0 lc0 ha2 ?_
  have z_3 : (12 : Int32).toInt = 12 := rfl
  refine kF_X5_comes ha2 m0  (by omega) (by rw [pre0]; exact okNum_64) (fun σ1 mσ1 cσ1 (pσ1_0 : (gi σ1 a2 1).toInt = (gi σ0 a2 1).toInt + 1) hσ1 => ?_)
  replace H := f_v hσ1 H
  have fσ1 : FX (fun id => id = a2 + 1) (fun id k => (id = a2 ∧ k = 1)) σ0 σ1 := FX_tr f0 cσ1 (fun x (h9 : x = a2 + 1) => (show x = a2 + 1 from h9)) (fun x k (h9 : (x = a2 ∧ k = 1)) => (show (x = a2 + 1) ∨ ((x = a2 ∧ k = 1)) from Or.inr (show (x = a2 ∧ k = 1) from h9)))
  have t_4 := XI_c1 mσ1 (lim_N ha2)
  have t_5 := nl_le ha2
  refine kF_KD_whetting ic0 hc0 lc0 ha2 mσ1  (by first | with_reducible assumption | with_reducible rfl | omega | assumption | rfl) (by first | with_reducible assumption | with_reducible rfl | omega | assumption | rfl) (fun r3 σ2 mσ2 cσ2 (pσ2_0 : (gi σ2 a2 1).toInt ≤ (gi σ1 a2 1).toInt + 5) hσ2 => ?_)
  replace H := f_b hσ2 H
  have fσ2 : FX (fun id => id = a2 + 1) (fun id k => (id = a2 ∧ k = 1)) σ0 σ2 := FX_tr fσ1 cσ2 (fun x (h9 : x = a2 + 1) => (show x = a2 + 1 from h9)) (fun x k (h9 : (x = a2 ∧ k = 1)) => (show (x = a2 + 1) ∨ ((x = a2 ∧ k = 1)) from Or.inr (show (x = a2 ∧ k = 1) from h9)))
  have t_6 := XI_c1 mσ2 (lim_N ha2)
  have t_7 := nl_le ha2
  have w_8 := Int32.toInt_lt r3
  have w_9 := Int32.le_toInt r3
  try have t_10 : (r3 * (2 : Int32)).toInt = r3.toInt * 2 := i_mulr rfl (by omega) (by omega)
  exact h9ret (r3 * (2 : Int32)) σ2 mσ2 fσ2 (by first | with_reducible assumption | with_reducible rfl | omega | assumption | rfl) (H0.trans H.symm)
noncomputable def F_X0_telling (c0 : Nat) (a1 : Int32) (a2 : Nat) (σ : Sg) : Int32 × Sg := fl (F_X5_comes a2 (40 : Int32) σ) (fun σ1 => fb (F_X4_telling c0 a1 a2 σ1) (fun r4 σ3 => fb (F_KD_whetting ((kd c0).1 - 10) c0 (1 : Int32) a2 σ3) (fun r6 σ5 => (r4 + r6, σ5))))
set_option maxRecDepth 100000 in
set_option maxHeartbeats 4000000 in
theorem kF_X0_telling {l : Launch} {V : Vx} {c0 : Nat} {a1 : Int32} {a2 : Nat} {σ0 : Sg} {Qk : Int32 → Sg → Prop} {ci0 : Nat} (sc0 : ci0 = 0 ∨ ci0 = 10) (hc0 : kd c0 = (10 + ci0, 0)) (lc0 : c0 ∈ ids (V)) (ha2 : isN a2) (m0 : XI V σ0) (pre0 : a2 = 64) (pre1 : (gi σ0 a2 1).toInt ≤ 988) (h9ret : ∀ (r : Int32) (σ' : Sg), XI V σ' → FX (fun id => id = a2 + 1) (fun id k => (id = a2 ∧ k = 1)) σ0 σ' → ((gi σ' a2 1).toInt ≤ (gi σ0 a2 1).toInt + 12) → (F_X0_telling c0 a1 a2 σ0 = (r, σ')) → Qk r σ') : K_X0_telling l V c0 a1 a2 σ0 Qk := by
  refine e_X0_telling (fun M hl hV hN C => ?_)
  subst hl
  subst hV
  obtain ⟨R9, H0⟩ : ∃ R9, F_X0_telling c0 a1 a2 σ0 = R9 := ⟨_, rfl⟩
  have ic0 : isMc ci0 := by rcases sc0 with rfl | rfl <;> decide
  have gc0 := kdM_ge ic0 hc0
  have oa2 : hid (a2 = 9 ∨ a2 = 11 ∨ a2 = 13 ∨ a2 = 25 ∨ a2 = 27 ∨ a2 = 29 ∨ a2 = 41 ∨ a2 = 43 ∨ a2 = 45 ∨ a2 = 64) := ha2
  have hcap : capI a2 = 1000 := by rw [pre0]; rfl
  have f0 : FX (fun id => id = a2 + 1) (fun id k => (id = a2 ∧ k = 1)) σ0 σ0 := FX_rf
  have t_1 := XI_c1 m0 (lim_N ha2)
  have t_2 := nl_le ha2
  have H := H0
  unfold F_X0_telling at H
  rw [show (kd c0).1 - 10 = ci0 from by rw [hc0]; exact Nat.add_sub_cancel_left _ _] at H
  refine s_X0_telling_0 C hN sc0 hc0 lc0 ha2 ?_
  have z_3 : (40 : Int32).toInt = 40 := rfl
  refine kF_X5_comes ha2 m0  (by omega) (by rw [pre0]; exact okNum_64) (fun σ1 mσ1 cσ1 (pσ1_0 : (gi σ1 a2 1).toInt = (gi σ0 a2 1).toInt + 1) hσ1 => ?_)
  replace H := f_v hσ1 H
  have fσ1 : FX (fun id => id = a2 + 1) (fun id k => (id = a2 ∧ k = 1)) σ0 σ1 := FX_tr f0 cσ1 (fun x (h9 : x = a2 + 1) => (show x = a2 + 1 from h9)) (fun x k (h9 : (x = a2 ∧ k = 1)) => (show (x = a2 + 1) ∨ ((x = a2 ∧ k = 1)) from Or.inr (show (x = a2 ∧ k = 1) from h9)))
  have t_4 := XI_c1 mσ1 (lim_N ha2)
  have t_5 := nl_le ha2
  refine kF_X4_telling (show ci0 = 0 ∨ ci0 = 3 ∨ ci0 = 4 ∨ ci0 = 6 ∨ ci0 = 7 ∨ ci0 = 8 ∨ ci0 = 10 from by omega) hc0 lc0 ha2 mσ1  (by first | with_reducible assumption | with_reducible rfl | omega | assumption | rfl) (by first | with_reducible assumption | with_reducible rfl | omega | assumption | rfl) (fun r4 σ3 mσ3 cσ3 (pσ3_0 : (gi σ3 a2 1).toInt ≤ (gi σ1 a2 1).toInt + 6) hσ3 => ?_)
  replace H := f_b hσ3 H
  have fσ3 : FX (fun id => id = a2 + 1) (fun id k => (id = a2 ∧ k = 1)) σ0 σ3 := FX_tr fσ1 cσ3 (fun x (h9 : x = a2 + 1) => (show x = a2 + 1 from h9)) (fun x k (h9 : (x = a2 ∧ k = 1)) => (show (x = a2 + 1) ∨ ((x = a2 ∧ k = 1)) from Or.inr (show (x = a2 ∧ k = 1) from h9)))
  have t_6 := XI_c1 mσ3 (lim_N ha2)
  have t_7 := nl_le ha2
  have z_8 : (1 : Int32).toInt = 1 := rfl
  refine kF_KD_whetting ic0 hc0 lc0 ha2 mσ3  (by first | with_reducible assumption | with_reducible rfl | omega | assumption | rfl) (by first | with_reducible assumption | with_reducible rfl | omega | assumption | rfl) (fun r6 σ5 mσ5 cσ5 (pσ5_0 : (gi σ5 a2 1).toInt ≤ (gi σ3 a2 1).toInt + 5) hσ5 => ?_)
  replace H := f_b hσ5 H
  have fσ5 : FX (fun id => id = a2 + 1) (fun id k => (id = a2 ∧ k = 1)) σ0 σ5 := FX_tr fσ3 cσ5 (fun x (h9 : x = a2 + 1) => (show x = a2 + 1 from h9)) (fun x k (h9 : (x = a2 ∧ k = 1)) => (show (x = a2 + 1) ∨ ((x = a2 ∧ k = 1)) from Or.inr (show (x = a2 ∧ k = 1) from h9)))
  have t_9 := XI_c1 mσ5 (lim_N ha2)
  have t_10 := nl_le ha2
  have w_11 := Int32.toInt_lt r4
  have w_12 := Int32.le_toInt r4
  have w_13 := Int32.toInt_lt r6
  have w_14 := Int32.le_toInt r6
  try have t_15 : (r4 + r6).toInt = r4.toInt + r6.toInt := i_add (x := r4) (y := r6) (by show (_ : Int) ≤ r4.toInt + r6.toInt; omega) (by show r4.toInt + r6.toInt ≤ (_ : Int); omega)
  exact h9ret (r4 + r6) σ5 mσ5 fσ5 (by first | with_reducible assumption | with_reducible rfl | omega | assumption | rfl) (H0.trans H.symm)
noncomputable def F_X7_telling (c0 : Nat) (a1 : Int32) (a2 : Nat) (σ : Sg) : Int32 × Sg := fl (F_X5_comes a2 (60 : Int32) σ) (fun σ1 => fb (F_X4_telling c0 (a1 - (gi σ1 c0 1)) a2 σ1) (fun r4 σ3 => (r4, σ3)))
set_option maxRecDepth 100000 in
set_option maxHeartbeats 4000000 in
theorem kF_X7_telling {l : Launch} {V : Vx} {c0 : Nat} {a1 : Int32} {a2 : Nat} {σ0 : Sg} {Qk : Int32 → Sg → Prop} {ci0 : Nat} (sc0 : ci0 = 7) (hc0 : kd c0 = (10 + ci0, 0)) (lc0 : c0 ∈ ids (V)) (ha2 : isN a2) (m0 : XI V σ0) (pre0 : a2 = 64) (pre1 : (gi σ0 a2 1).toInt ≤ 993) (h9ret : ∀ (r : Int32) (σ' : Sg), XI V σ' → FX (fun id => id = a2 + 1) (fun id k => (id = a2 ∧ k = 1)) σ0 σ' → ((gi σ' a2 1).toInt ≤ (gi σ0 a2 1).toInt + 7) → (F_X7_telling c0 a1 a2 σ0 = (r, σ')) → Qk r σ') : K_X7_telling l V c0 a1 a2 σ0 Qk := by
  refine e_X7_telling (fun M hl hV hN C => ?_)
  subst hl
  subst hV
  obtain ⟨R9, H0⟩ : ∃ R9, F_X7_telling c0 a1 a2 σ0 = R9 := ⟨_, rfl⟩
  have ic0 : isMc ci0 := by rw [sc0]; decide
  have gc0 := kdM_ge ic0 hc0
  have oa2 : hid (a2 = 9 ∨ a2 = 11 ∨ a2 = 13 ∨ a2 = 25 ∨ a2 = 27 ∨ a2 = 29 ∨ a2 = 41 ∨ a2 = 43 ∨ a2 = 45 ∨ a2 = 64) := ha2
  have hcap : capI a2 = 1000 := by rw [pre0]; rfl
  have f0 : FX (fun id => id = a2 + 1) (fun id k => (id = a2 ∧ k = 1)) σ0 σ0 := FX_rf
  have t_1 := XI_c1 m0 (lim_N ha2)
  have t_2 := nl_le ha2
  have t_3 := XI_c1 m0 (id := c0) (k := 1) (lim_M0_1 ic0 hc0)
  have H := H0
  unfold F_X7_telling at H
  refine s_X7_telling_0 C hN sc0 hc0 lc0 ha2 ?_
  have z_4 : (60 : Int32).toInt = 60 := rfl
  refine kF_X5_comes ha2 m0  (by omega) (by rw [pre0]; exact okNum_64) (fun σ1 mσ1 cσ1 (pσ1_0 : (gi σ1 a2 1).toInt = (gi σ0 a2 1).toInt + 1) hσ1 => ?_)
  replace H := f_v hσ1 H
  have fσ1 : FX (fun id => id = a2 + 1) (fun id k => (id = a2 ∧ k = 1)) σ0 σ1 := FX_tr f0 cσ1 (fun x (h9 : x = a2 + 1) => (show x = a2 + 1 from h9)) (fun x k (h9 : (x = a2 ∧ k = 1)) => (show (x = a2 + 1) ∨ ((x = a2 ∧ k = 1)) from Or.inr (show (x = a2 ∧ k = 1) from h9)))
  have t_5 := XI_c1 mσ1 (lim_N ha2)
  have t_6 := nl_le ha2
  have k_7 : (gi σ1 c0 1).toInt = (gi σ0 c0 1).toInt := congrArg Int32.toInt (FX_i cσ1 (show ¬ (c0 = a2 + 1) from by first | omega | (have uoa2 := un oa2; omega)) (show ¬ ((c0 = a2 ∧ 1 = 1)) from by first | omega | (have uoa2 := un oa2; omega)))
  have w_8 := Int32.toInt_lt a1
  have w_9 := Int32.le_toInt a1
  have t_10 := XI_c1 mσ1 (id := c0) (k := 1) (lim_M0_1 ic0 hc0)
  try have t_11 : (a1 - (gi σ1 c0 1)).toInt = a1.toInt - (gi σ1 c0 1).toInt := i_sub (x := a1) (y := (gi σ1 c0 1)) (by show (_ : Int) ≤ a1.toInt - (gi σ1 c0 1).toInt; omega) (by show a1.toInt - (gi σ1 c0 1).toInt ≤ (_ : Int); omega)
  refine kF_X4_telling (show ci0 = 0 ∨ ci0 = 3 ∨ ci0 = 4 ∨ ci0 = 6 ∨ ci0 = 7 ∨ ci0 = 8 ∨ ci0 = 10 from by omega) hc0 lc0 ha2 mσ1  (by first | with_reducible assumption | with_reducible rfl | omega | assumption | rfl) (by first | with_reducible assumption | with_reducible rfl | omega | assumption | rfl) (fun r4 σ3 mσ3 cσ3 (pσ3_0 : (gi σ3 a2 1).toInt ≤ (gi σ1 a2 1).toInt + 6) hσ3 => ?_)
  replace H := f_b hσ3 H
  have fσ3 : FX (fun id => id = a2 + 1) (fun id k => (id = a2 ∧ k = 1)) σ0 σ3 := FX_tr fσ1 cσ3 (fun x (h9 : x = a2 + 1) => (show x = a2 + 1 from h9)) (fun x k (h9 : (x = a2 ∧ k = 1)) => (show (x = a2 + 1) ∨ ((x = a2 ∧ k = 1)) from Or.inr (show (x = a2 ∧ k = 1) from h9)))
  have t_12 := XI_c1 mσ3 (lim_N ha2)
  have t_13 := nl_le ha2
  have k_14 : (gi σ3 c0 1).toInt = (gi σ1 c0 1).toInt := congrArg Int32.toInt (FX_i cσ3 (show ¬ (c0 = a2 + 1) from by first | omega | (have uoa2 := un oa2; omega)) (show ¬ ((c0 = a2 ∧ 1 = 1)) from by first | omega | (have uoa2 := un oa2; omega)))
  have w_15 := Int32.toInt_lt r4
  have w_16 := Int32.le_toInt r4
  exact h9ret r4 σ3 mσ3 fσ3 (by first | with_reducible assumption | with_reducible rfl | omega | assumption | rfl) (H0.trans H.symm)
noncomputable def F_KD_telling (ci : Nat) (c0 : Nat) (a1 : Int32) (a2 : Nat) (σ : Sg) : Int32 × Sg := (if ci = 0 then F_X0_telling c0 a1 a2 σ else (if ci = 3 then F_X4_telling c0 a1 a2 σ else (if ci = 4 then F_X4_telling c0 a1 a2 σ else (if ci = 6 then F_X4_telling c0 a1 a2 σ else (if ci = 7 then F_X7_telling c0 a1 a2 σ else (if ci = 8 then F_X4_telling c0 a1 a2 σ else (if ci = 10 then F_X0_telling c0 a1 a2 σ else (0, σ))))))))
theorem kF_KD_telling {l : Launch} {V : Vx} {ci c0 : Nat} {a1 : Int32} {a2 : Nat} {σ0 : Sg} {Qk : Int32 → Sg → Prop} (s : isMc ci) (h : kd c0 = (10 + ci, 0)) (lc : c0 ∈ ids V) (ha2 : isN a2) (m0 : XI V σ0) (pre0 : a2 = 64) (pre1 : (gi σ0 a2 1).toInt ≤ 988) (h9ret : ∀ (r : Int32) (σ' : Sg), XI V σ' → FX (fun id => id = a2 + 1) (fun id k => (id = a2 ∧ k = 1)) σ0 σ' → ((gi σ' a2 1).toInt ≤ (gi σ0 a2 1).toInt + 12) → (F_KD_telling ci c0 a1 a2 σ0 = (r, σ')) → Qk r σ') : KD_telling l V ci c0 a1 a2 σ0 Qk := by
  refine ⟨fun e => ?_, fun e => ?_, fun e => ?_, fun e => ?_, fun e => ?_, fun e => ?_, fun e => ?_⟩
  · exact kF_X0_telling (by omega) h lc ha2 m0 pre0 (by omega) (fun r σ' m f p hF => h9ret r σ' m f (by omega) (by unfold F_KD_telling; rw [if_pos e]; exact hF))
  · exact kF_X4_telling (by omega) h lc ha2 m0 pre0 (by omega) (fun r σ' m f p hF => h9ret r σ' m f (by omega) (by unfold F_KD_telling; rw [if_neg (show ¬ ci = 0 by omega), if_pos e]; exact hF))
  · exact kF_X4_telling (by omega) h lc ha2 m0 pre0 (by omega) (fun r σ' m f p hF => h9ret r σ' m f (by omega) (by unfold F_KD_telling; rw [if_neg (show ¬ ci = 0 by omega), if_neg (show ¬ ci = 3 by omega), if_pos e]; exact hF))
  · exact kF_X4_telling (by omega) h lc ha2 m0 pre0 (by omega) (fun r σ' m f p hF => h9ret r σ' m f (by omega) (by unfold F_KD_telling; rw [if_neg (show ¬ ci = 0 by omega), if_neg (show ¬ ci = 3 by omega), if_neg (show ¬ ci = 4 by omega), if_pos e]; exact hF))
  · exact kF_X7_telling (by omega) h lc ha2 m0 pre0 (by omega) (fun r σ' m f p hF => h9ret r σ' m f (by omega) (by unfold F_KD_telling; rw [if_neg (show ¬ ci = 0 by omega), if_neg (show ¬ ci = 3 by omega), if_neg (show ¬ ci = 4 by omega), if_neg (show ¬ ci = 6 by omega), if_pos e]; exact hF))
  · exact kF_X4_telling (by omega) h lc ha2 m0 pre0 (by omega) (fun r σ' m f p hF => h9ret r σ' m f (by omega) (by unfold F_KD_telling; rw [if_neg (show ¬ ci = 0 by omega), if_neg (show ¬ ci = 3 by omega), if_neg (show ¬ ci = 4 by omega), if_neg (show ¬ ci = 6 by omega), if_neg (show ¬ ci = 7 by omega), if_pos e]; exact hF))
  · exact kF_X0_telling (by omega) h lc ha2 m0 pre0 (by omega) (fun r σ' m f p hF => h9ret r σ' m f (by omega) (by unfold F_KD_telling; rw [if_neg (show ¬ ci = 0 by omega), if_neg (show ¬ ci = 3 by omega), if_neg (show ¬ ci = 4 by omega), if_neg (show ¬ ci = 6 by omega), if_neg (show ¬ ci = 7 by omega), if_neg (show ¬ ci = 8 by omega), if_pos e]; exact hF))
noncomputable def F_X11_isMower (a1 : Int32) (σ : Sg) : Int32 × Sg := (if a1 < 0 then ((0 : Int32), σ) else (if (gi σ 1 1) ≤ a1 then ((0 : Int32), σ) else ((1 : Int32), σ)))
set_option maxRecDepth 100000 in
set_option maxHeartbeats 4000000 in
theorem kF_X11_isMower {l : Launch} {V : Vx} {a1 : Int32} {σ0 : Sg} {Qk : Int32 → Sg → Prop} (m0 : XI V σ0) (h9ret : ∀ (r : Int32) (σ' : Sg), XI V σ' → FX (fun id => False) (fun _ _ => False) σ0 σ' → (0 ≤ r.toInt) → (r.toInt ≤ 1) → ((r.toInt = 1 ∧ 0 ≤ a1.toInt ∧ a1.toInt < (gi σ0 1 1).toInt) ∨ (r.toInt = 0 ∧ (a1.toInt < 0 ∨ (gi σ0 1 1).toInt ≤ a1.toInt))) → (F_X11_isMower a1 σ0 = (r, σ')) → Qk r σ') : K_X11_isMower l V a1 σ0 Qk := by
  refine e_X11_isMower (fun M hl hV hN C => ?_)
  subst hl
  subst hV
  obtain ⟨R9, H0⟩ : ∃ R9, F_X11_isMower a1 σ0 = R9 := ⟨_, rfl⟩
  have f0 : FX (fun id => False) (fun _ _ => False) σ0 σ0 := FX_rf
  have t_1 := XI_c1 m0 (id := 1) (k := 1) (lim_C0_1 (Or.inl rfl))
  have H := H0
  unfold F_X11_isMower at H
  refine s_X11_isMower_0 C hN  ?_
  refine ⟨?_, ?_⟩
  · intro q_2
    replace H := f_t q_2 H
    have w_3 := Int32.toInt_lt a1
    have w_4 := Int32.le_toInt a1
    have b_5 : a1.toInt < 0 := Int32.lt_iff_toInt_lt.mp q_2
    have z_6 : (0 : Int32).toInt = 0 := rfl
    exact h9ret (0 : Int32) σ0 m0 f0 (by omega) (by omega) (by first | with_reducible assumption | with_reducible rfl | omega | assumption | rfl) (H0.trans H.symm)
  · intro q_2
    replace H := f_f q_2 H
    have w_7 := Int32.toInt_lt a1
    have w_8 := Int32.le_toInt a1
    have b_9 : ¬ a1.toInt < 0 := fun h9 => q_2 (Int32.lt_iff_toInt_lt.mpr h9)
    refine ⟨?_, ?_⟩
    · intro q_10
      replace H := f_t q_10 H
      have b_11 : (gi σ0 1 1).toInt ≤ a1.toInt := Int32.le_iff_toInt_le.mp q_10
      have z_12 : (0 : Int32).toInt = 0 := rfl
      exact h9ret (0 : Int32) σ0 m0 f0 (by omega) (by omega) (by first | with_reducible assumption | with_reducible rfl | omega | assumption | rfl) (H0.trans H.symm)
    · intro q_10
      replace H := f_f q_10 H
      have b_13 : ¬ (gi σ0 1 1).toInt ≤ a1.toInt := fun h9 => q_10 (Int32.le_iff_toInt_le.mpr h9)
      have z_14 : (1 : Int32).toInt = 1 := rfl
      exact h9ret (1 : Int32) σ0 m0 f0 (by omega) (by omega) (by first | with_reducible assumption | with_reducible rfl | omega | assumption | rfl) (H0.trans H.symm)
noncomputable def F_X11_trace (a1 : Int32) (σ : Sg) : Int32 × Sg := fb (F_X5_has 64 a1 σ) (fun r2 σ1 => (if r2 = 0 then ((-1 : Int32), σ1) else (gi σ1 65 a1.toNatClampNeg, σ1)))
set_option maxRecDepth 100000 in
set_option maxHeartbeats 4000000 in
theorem kF_X11_trace {l : Launch} {V : Vx} {a1 : Int32} {σ0 : Sg} {Qk : Int32 → Sg → Prop} (m0 : XI V σ0) (h9ret : ∀ (r : Int32) (σ' : Sg), XI V σ' → FX (fun id => False) (fun _ _ => False) σ0 σ' → (F_X11_trace a1 σ0 = (r, σ')) → Qk r σ') : K_X11_trace l V a1 σ0 Qk := by
  refine e_X11_trace (fun M hl hV hN C => ?_)
  subst hl
  subst hV
  obtain ⟨R9, H0⟩ : ∃ R9, F_X11_trace a1 σ0 = R9 := ⟨_, rfl⟩
  have n9 : (nl 64 : Int) = 20 := by decide +kernel
  have f0 : FX (fun id => False) (fun _ _ => False) σ0 σ0 := FX_rf
  have H := H0
  unfold F_X11_trace at H
  refine s_X11_trace_0 C hN  ?_
  refine kF_X5_has (Or.inr (Or.inr (Or.inr (Or.inr (Or.inr (Or.inr (Or.inr (Or.inr (Or.inr (rfl)))))))))) m0   (fun r2 σ1 mσ1 cσ1 plσ1 phσ1 (pσ1_0 : (r2.toInt = 1 ∧ 0 ≤ a1.toInt ∧ a1.toInt < (gi σ0 64 1).toInt ∧ a1.toInt < (nl 64 : Int)) ∨ r2.toInt = 0) hσ1 => ?_)
  obtain rfl := FX_nil cσ1
  replace H := f_b hσ1 H
  refine ⟨?_, ?_⟩
  · intro q_1
    replace H := f_t q_1 H
    have b_2 : r2.toInt = 0 := congrArg Int32.toInt q_1
    have z_3 : (-1 : Int32).toInt = -1 := rfl
    exact h9ret (-1 : Int32) σ0 m0 f0 (H0.trans H.symm)
  · intro q_1
    replace H := f_f q_1 H
    have b_4 : ¬ r2.toInt = 0 := fun h9 => q_1 (Int32.toInt_inj.mp h9)
    have w_5 := Int32.toInt_lt a1
    have w_6 := Int32.le_toInt a1
    have hv_7 : vp_in a1 20 := vp_in_iff.mpr ⟨by omega, by omega⟩
    refine ⟨hv_7, ?_⟩
    exact h9ret (gi σ0 65 a1.toNatClampNeg) σ0 m0 f0 (H0.trans H.symm)
noncomputable def F_X11_row (a1 : Int32) (a2 : Int32) (a3 : Int32) (σ : Sg) : Int32 × Sg := fb (F_X11_isMower a1 σ) (fun r2 σ1 => (if r2 = 0 then ((-1 : Int32), σ1) else (if a2 < 0 then ((-1 : Int32), σ1) else (if a2 ≤ (3 : Int32) then (if a3 < 0 then ((-2 : Int32), σ1) else (if a3 ≤ (9 : Int32) then fm (gr σ1 2 a1.toNatClampNeg) ((0, σ)) (fun μ9 ci9 => fl (if msub ci9 10 then (1 : Int32) else 0) (fun v10 => (if v10 = 0 then ((-3 : Int32), σ1) else fl (gi σ1 8 (((4 : Int32) * a1) + a2).toNatClampNeg) (fun v13 => fl (si σ1 8 (((4 : Int32) * a1) + a2).toNatClampNeg a3) (fun σ15 => (v13, σ15)))))) else ((-2 : Int32), σ1))) else ((-1 : Int32), σ1)))))
set_option maxRecDepth 100000 in
set_option maxHeartbeats 4000000 in
theorem kF_X11_row {l : Launch} {V : Vx} {a1 : Int32} {a2 : Int32} {a3 : Int32} {σ0 : Sg} {Qk : Int32 → Sg → Prop} (m0 : XI V σ0) (nn_1 : NN σ0 1) (h9ret : ∀ (r : Int32) (σ' : Sg), XI V σ' → FX (fun id => id = 8) (fun _ _ => False) σ0 σ' → (NN σ' 1) → (F_X11_row a1 a2 a3 σ0 = (r, σ')) → Qk r σ') : K_X11_row l V a1 a2 a3 σ0 Qk := by
  refine e_X11_row (fun M hl hV hN C => ?_)
  subst hl
  subst hV
  obtain ⟨R9, H0⟩ : ∃ R9, F_X11_row a1 a2 a3 σ0 = R9 := ⟨_, rfl⟩
  have f0 : FX (fun id => id = 8) (fun _ _ => False) σ0 σ0 := FX_rf
  have t_1 := XI_c1 m0 (id := 1) (k := 1) (lim_C0_1 (Or.inl rfl))
  have H := H0
  unfold F_X11_row at H
  refine s_X11_row_0 C hN  ?_
  refine kF_X11_isMower  m0   (fun r2 σ1 mσ1 cσ1 plσ1 phσ1 (pσ1_0 : (r2.toInt = 1 ∧ 0 ≤ a1.toInt ∧ a1.toInt < (gi σ0 1 1).toInt) ∨ (r2.toInt = 0 ∧ (a1.toInt < 0 ∨ (gi σ0 1 1).toInt ≤ a1.toInt))) hσ1 => ?_)
  obtain rfl := FX_nil cσ1
  replace H := f_b hσ1 H
  refine ⟨?_, ?_⟩
  · intro q_2
    replace H := f_t q_2 H
    have b_3 : r2.toInt = 0 := congrArg Int32.toInt q_2
    have z_4 : (-1 : Int32).toInt = -1 := rfl
    exact h9ret (-1 : Int32) σ0 m0 f0 nn_1 (H0.trans H.symm)
  · intro q_2
    replace H := f_f q_2 H
    have b_5 : ¬ r2.toInt = 0 := fun h9 => q_2 (Int32.toInt_inj.mp h9)
    refine ⟨?_, ?_⟩
    · intro q_6
      replace H := f_t q_6 H
      have w_7 := Int32.toInt_lt a2
      have w_8 := Int32.le_toInt a2
      have b_9 : a2.toInt < 0 := Int32.lt_iff_toInt_lt.mp q_6
      have z_10 : (-1 : Int32).toInt = -1 := rfl
      exact h9ret (-1 : Int32) σ0 m0 f0 nn_1 (H0.trans H.symm)
    · intro q_6
      replace H := f_f q_6 H
      have w_11 := Int32.toInt_lt a2
      have w_12 := Int32.le_toInt a2
      have b_13 : ¬ a2.toInt < 0 := fun h9 => q_6 (Int32.lt_iff_toInt_lt.mpr h9)
      refine ⟨?_, ?_⟩
      · intro q_14
        replace H := f_t q_14 H
        have b_15 : a2.toInt ≤ 3 := Int32.le_iff_toInt_le.mp q_14
        refine ⟨?_, ?_⟩
        · intro q_16
          replace H := f_t q_16 H
          have w_17 := Int32.toInt_lt a3
          have w_18 := Int32.le_toInt a3
          have b_19 : a3.toInt < 0 := Int32.lt_iff_toInt_lt.mp q_16
          have z_20 : (-2 : Int32).toInt = -2 := rfl
          exact h9ret (-2 : Int32) σ0 m0 f0 nn_1 (H0.trans H.symm)
        · intro q_16
          replace H := f_f q_16 H
          have w_21 := Int32.toInt_lt a3
          have w_22 := Int32.le_toInt a3
          have b_23 : ¬ a3.toInt < 0 := fun h9 => q_16 (Int32.lt_iff_toInt_lt.mpr h9)
          refine ⟨?_, ?_⟩
          · intro q_24
            replace H := f_t q_24 H
            have b_25 : a3.toInt ≤ 9 := Int32.le_iff_toInt_le.mp q_24
            have w_26 := Int32.toInt_lt a1
            have w_27 := Int32.le_toInt a1
            have hv_28 : vp_in a1 6 := vp_in_iff.mpr ⟨by omega, by omega⟩
            have ec_29 := cl_eq (x := a1) (by omega)
            obtain ⟨μ9, ci9, eμ9, sμ9, hμ9, lμ9⟩ := XI_mow m0 (Or.inl rfl) (nn_1.2 a1.toNatClampNeg (by omega))
            have gμ9 := kdM_ge sμ9 hμ9
            refine ⟨hv_28, μ9, ci9, eμ9, sμ9, hμ9, lμ9, ?_⟩
            replace H := f_m eμ9 hμ9 H
            intro v10 ev10
            replace H := f_l ev10 H
            have t_30 : v10.toInt = 0 ∨ v10.toInt = 1 := by rw [ev10]; split <;> decide
            refine ⟨?_, ?_⟩
            · intro q_31
              replace H := f_f q_31 H
              have b_32 : ¬ v10.toInt = 0 := fun h9 => q_31 (Int32.toInt_inj.mp h9)
              try have t_33 : ((4 : Int32) * a1).toInt = 4 * a1.toInt := i_mull rfl (by omega) (by omega)
              try have t_34 : (((4 : Int32) * a1) + a2).toInt = ((4 : Int32) * a1).toInt + a2.toInt := i_add (x := ((4 : Int32) * a1)) (y := a2) (by show (_ : Int) ≤ ((4 : Int32) * a1).toInt + a2.toInt; omega) (by show ((4 : Int32) * a1).toInt + a2.toInt ≤ (_ : Int); omega)
              have hv_35 : vp_in (((4 : Int32) * a1) + a2) 24 := vp_in_iff.mpr ⟨by omega, by omega⟩
              refine ⟨hv_35, ?_⟩
              intro v13 ev13
              replace H := f_l ev13 H
              refine ⟨hv_35, ?_⟩
              intro σ15 eσ15
              replace H := f_l eσ15 H
              have mσ15 : XI (mV M) σ15 := by rw [eσ15]; exact XIs_n m0 (lim_C7 (Or.inl rfl) _)
              have fσ15 : FX (fun id => id = 8) (fun _ _ => False) σ0 σ15 := by rw [eσ15]; exact FX_si f0 (Or.inl (show 8 = 8 from rfl))
              have k_36 : (gi σ15 1 1).toInt = (gi σ0 1 1).toInt := by rw [eσ15]; exact congrArg Int32.toInt (gi_si_ne (Or.inl (by omega)))
              have nσ15_1 : NN σ15 1 := by rw [eσ15]; exact NN_si nn_1 (by omega) (fun h9 => absurd h9 (by omega))
              exact h9ret v13 σ15 mσ15 fσ15 nσ15_1 (H0.trans H.symm)
            · intro q_31
              replace H := f_t q_31 H
              have b_37 : v10.toInt = 0 := congrArg Int32.toInt q_31
              have z_38 : (-3 : Int32).toInt = -3 := rfl
              exact h9ret (-3 : Int32) σ0 m0 f0 nn_1 (H0.trans H.symm)
          · intro q_24
            replace H := f_f q_24 H
            have b_39 : ¬ a3.toInt ≤ 9 := fun h9 => q_24 (Int32.le_iff_toInt_le.mpr h9)
            have z_40 : (-2 : Int32).toInt = -2 := rfl
            exact h9ret (-2 : Int32) σ0 m0 f0 nn_1 (H0.trans H.symm)
      · intro q_14
        replace H := f_f q_14 H
        have b_41 : ¬ a2.toInt ≤ 3 := fun h9 => q_14 (Int32.le_iff_toInt_le.mpr h9)
        have z_42 : (-1 : Int32).toInt = -1 := rfl
        exact h9ret (-1 : Int32) σ0 m0 f0 nn_1 (H0.trans H.symm)
noncomputable def F_X11_isOfKind (a1 : Nat) (a2 : Int32) (σ : Sg) : Int32 × Sg := (if a2.toInt = 0 then ((1 : Int32), σ) else (if a2.toInt = 1 then fl (if msub ((kd a1).1 - 10) 8 then (1 : Int32) else 0) (fun v2 => (v2, σ)) else (if a2.toInt = 2 then fl (if msub ((kd a1).1 - 10) 3 then (1 : Int32) else 0) (fun v3 => (v3, σ)) else (if a2.toInt = 3 then fl (if msub ((kd a1).1 - 10) 0 then (1 : Int32) else 0) (fun v4 => (v4, σ)) else (if a2.toInt = 4 then fl (if msub ((kd a1).1 - 10) 6 then (1 : Int32) else 0) (fun v5 => (v5, σ)) else (if a2.toInt = 5 then fl (if msub ((kd a1).1 - 10) 7 then (1 : Int32) else 0) (fun v6 => (v6, σ)) else (if a2.toInt = 6 then fl (if msub ((kd a1).1 - 10) 10 then (1 : Int32) else 0) (fun v7 => (v7, σ)) else ((0 : Int32), σ))))))))
set_option maxRecDepth 100000 in
set_option maxHeartbeats 4000000 in
theorem kF_X11_isOfKind {l : Launch} {V : Vx} {a1 : Nat} {a2 : Int32} {σ0 : Sg} {Qk : Int32 → Sg → Prop} {ci1 : Nat} (sa1 : isMc ci1) (ha1 : kd a1 = (10 + ci1, 0)) (la1 : a1 ∈ ids (V)) (m0 : XI V σ0) (h9ret : ∀ (r : Int32) (σ' : Sg), XI V σ' → FX (fun id => False) (fun _ _ => False) σ0 σ' → (F_X11_isOfKind a1 a2 σ0 = (r, σ')) → Qk r σ') : K_X11_isOfKind l V a1 a2 σ0 Qk := by
  refine e_X11_isOfKind (fun M hl hV hN C => ?_)
  subst hl
  subst hV
  obtain ⟨R9, H0⟩ : ∃ R9, F_X11_isOfKind a1 a2 σ0 = R9 := ⟨_, rfl⟩
  have ga1 := kdM_ge sa1 ha1
  have f0 : FX (fun id => False) (fun _ _ => False) σ0 σ0 := FX_rf
  have H := H0
  unfold F_X11_isOfKind at H
  rw [show (kd a1).1 - 10 = ci1 from by rw [ha1]; exact Nat.add_sub_cancel_left _ _] at H
  refine s_X11_isOfKind_0 C hN sa1 ha1 la1 ?_
  refine ⟨?_, ?_, ?_, ?_, ?_, ?_, ?_, ?_⟩
  · intro q_1
    replace H := f_f (by omega) H
    replace H := f_f (by omega) H
    replace H := f_f (by omega) H
    replace H := f_f (by omega) H
    replace H := f_f (by omega) H
    replace H := f_f (by omega) H
    replace H := f_f (by omega) H
    have z_2 : (0 : Int32).toInt = 0 := rfl
    exact h9ret (0 : Int32) σ0 m0 f0 (H0.trans H.symm)
  · intro q_1
    replace H := f_t q_1 H
    have z_3 : (1 : Int32).toInt = 1 := rfl
    exact h9ret (1 : Int32) σ0 m0 f0 (H0.trans H.symm)
  · intro q_1
    replace H := f_f (by omega) H
    replace H := f_t q_1 H
    intro v2 ev2
    replace H := f_l ev2 H
    have t_4 : v2.toInt = 0 ∨ v2.toInt = 1 := by rw [ev2]; split <;> decide
    refine ⟨i_bool (by omega) (by omega), ?_⟩
    exact h9ret v2 σ0 m0 f0 (H0.trans H.symm)
  · intro q_1
    replace H := f_f (by omega) H
    replace H := f_f (by omega) H
    replace H := f_t q_1 H
    intro v3 ev3
    replace H := f_l ev3 H
    have t_5 : v3.toInt = 0 ∨ v3.toInt = 1 := by rw [ev3]; split <;> decide
    refine ⟨i_bool (by omega) (by omega), ?_⟩
    exact h9ret v3 σ0 m0 f0 (H0.trans H.symm)
  · intro q_1
    replace H := f_f (by omega) H
    replace H := f_f (by omega) H
    replace H := f_f (by omega) H
    replace H := f_t q_1 H
    intro v4 ev4
    replace H := f_l ev4 H
    have t_6 : v4.toInt = 0 ∨ v4.toInt = 1 := by rw [ev4]; split <;> decide
    refine ⟨i_bool (by omega) (by omega), ?_⟩
    exact h9ret v4 σ0 m0 f0 (H0.trans H.symm)
  · intro q_1
    replace H := f_f (by omega) H
    replace H := f_f (by omega) H
    replace H := f_f (by omega) H
    replace H := f_f (by omega) H
    replace H := f_t q_1 H
    intro v5 ev5
    replace H := f_l ev5 H
    have t_7 : v5.toInt = 0 ∨ v5.toInt = 1 := by rw [ev5]; split <;> decide
    refine ⟨i_bool (by omega) (by omega), ?_⟩
    exact h9ret v5 σ0 m0 f0 (H0.trans H.symm)
  · intro q_1
    replace H := f_f (by omega) H
    replace H := f_f (by omega) H
    replace H := f_f (by omega) H
    replace H := f_f (by omega) H
    replace H := f_f (by omega) H
    replace H := f_t q_1 H
    intro v6 ev6
    replace H := f_l ev6 H
    have t_8 : v6.toInt = 0 ∨ v6.toInt = 1 := by rw [ev6]; split <;> decide
    refine ⟨i_bool (by omega) (by omega), ?_⟩
    exact h9ret v6 σ0 m0 f0 (H0.trans H.symm)
  · intro q_1
    replace H := f_f (by omega) H
    replace H := f_f (by omega) H
    replace H := f_f (by omega) H
    replace H := f_f (by omega) H
    replace H := f_f (by omega) H
    replace H := f_f (by omega) H
    replace H := f_t q_1 H
    intro v7 ev7
    replace H := f_l ev7 H
    have t_9 : v7.toInt = 0 ∨ v7.toInt = 1 := by rw [ev7]; split <;> decide
    refine ⟨i_bool (by omega) (by omega), ?_⟩
    exact h9ret v7 σ0 m0 f0 (H0.trans H.symm)
noncomputable def F_X11_taken (a1 : Int32) (a2 : Int32) (σ : Sg) : Int32 × Sg := (if a2 < 0 then ((-2 : Int32), σ) else (if a2 ≤ (6 : Int32) then fb (F_X11_isMower a1 σ) (fun r4 σ3 => (if r4 = 0 then ((-11 : Int32), σ3) else fm (gr σ3 2 a1.toNatClampNeg) ((0, σ)) (fun μ7 ci7 => fb (F_X11_isOfKind μ7 a2 σ3) (fun r9 σ8 => (if r9 = 0 then ((-12 : Int32), σ8) else fm (gr σ8 2 a1.toNatClampNeg) ((0, σ)) (fun μ12 ci12 => (gi σ8 μ12 0, σ8))))))) else ((-2 : Int32), σ)))
set_option maxRecDepth 100000 in
set_option maxHeartbeats 4000000 in
theorem kF_X11_taken {l : Launch} {V : Vx} {a1 : Int32} {a2 : Int32} {σ0 : Sg} {Qk : Int32 → Sg → Prop} (m0 : XI V σ0) (nn_1 : NN σ0 1) (h9ret : ∀ (r : Int32) (σ' : Sg), XI V σ' → FX (fun id => False) (fun _ _ => False) σ0 σ' → (NN σ' 1) → (F_X11_taken a1 a2 σ0 = (r, σ')) → Qk r σ') : K_X11_taken l V a1 a2 σ0 Qk := by
  refine e_X11_taken (fun M hl hV hN C => ?_)
  subst hl
  subst hV
  obtain ⟨R9, H0⟩ : ∃ R9, F_X11_taken a1 a2 σ0 = R9 := ⟨_, rfl⟩
  have f0 : FX (fun id => False) (fun _ _ => False) σ0 σ0 := FX_rf
  have t_1 := XI_c1 m0 (id := 1) (k := 1) (lim_C0_1 (Or.inl rfl))
  have H := H0
  unfold F_X11_taken at H
  refine s_X11_taken_0 C hN  ?_
  refine ⟨?_, ?_⟩
  · intro q_2
    replace H := f_t q_2 H
    have w_3 := Int32.toInt_lt a2
    have w_4 := Int32.le_toInt a2
    have b_5 : a2.toInt < 0 := Int32.lt_iff_toInt_lt.mp q_2
    have z_6 : (-2 : Int32).toInt = -2 := rfl
    exact h9ret (-2 : Int32) σ0 m0 f0 nn_1 (H0.trans H.symm)
  · intro q_2
    replace H := f_f q_2 H
    have w_7 := Int32.toInt_lt a2
    have w_8 := Int32.le_toInt a2
    have b_9 : ¬ a2.toInt < 0 := fun h9 => q_2 (Int32.lt_iff_toInt_lt.mpr h9)
    refine ⟨?_, ?_⟩
    · intro q_10
      replace H := f_t q_10 H
      have b_11 : a2.toInt ≤ 6 := Int32.le_iff_toInt_le.mp q_10
      refine kF_X11_isMower  m0   (fun r4 σ3 mσ3 cσ3 plσ3 phσ3 (pσ3_0 : (r4.toInt = 1 ∧ 0 ≤ a1.toInt ∧ a1.toInt < (gi σ0 1 1).toInt) ∨ (r4.toInt = 0 ∧ (a1.toInt < 0 ∨ (gi σ0 1 1).toInt ≤ a1.toInt))) hσ3 => ?_)
      obtain rfl := FX_nil cσ3
      replace H := f_b hσ3 H
      refine ⟨?_, ?_⟩
      · intro q_12
        replace H := f_f q_12 H
        have b_13 : ¬ r4.toInt = 0 := fun h9 => q_12 (Int32.toInt_inj.mp h9)
        have w_14 := Int32.toInt_lt a1
        have w_15 := Int32.le_toInt a1
        have hv_16 : vp_in a1 6 := vp_in_iff.mpr ⟨by omega, by omega⟩
        have ec_17 := cl_eq (x := a1) (by omega)
        obtain ⟨μ7, ci7, eμ7, sμ7, hμ7, lμ7⟩ := XI_mow m0 (Or.inl rfl) (nn_1.2 a1.toNatClampNeg (by omega))
        have gμ7 := kdM_ge sμ7 hμ7
        refine ⟨hv_16, μ7, ci7, eμ7, sμ7, hμ7, lμ7, ?_⟩
        replace H := f_m eμ7 hμ7 H
        refine kF_X11_isOfKind sμ7 hμ7 lμ7 m0   (fun r9 σ8 mσ8 cσ8 hσ8 => ?_)
        obtain rfl := FX_nil cσ8
        replace H := f_b hσ8 H
        refine ⟨?_, ?_⟩
        · intro q_18
          replace H := f_t q_18 H
          have w_19 := Int32.toInt_lt r9
          have w_20 := Int32.le_toInt r9
          have b_21 : r9.toInt = 0 := congrArg Int32.toInt q_18
          have z_22 : (-12 : Int32).toInt = -12 := rfl
          exact h9ret (-12 : Int32) σ0 m0 f0 nn_1 (H0.trans H.symm)
        · intro q_18
          replace H := f_f q_18 H
          have w_23 := Int32.toInt_lt r9
          have w_24 := Int32.le_toInt r9
          have b_25 : ¬ r9.toInt = 0 := fun h9 => q_18 (Int32.toInt_inj.mp h9)
          have ec_26 := cl_eq (x := a1) (by omega)
          obtain ⟨μ12, ci12, eμ12, sμ12, hμ12, lμ12⟩ := XI_mow m0 (Or.inl rfl) (nn_1.2 a1.toNatClampNeg (by omega))
          have gμ12 := kdM_ge sμ12 hμ12
          refine ⟨hv_16, μ12, ci12, eμ12, sμ12, hμ12, lμ12, ?_⟩
          replace H := f_m eμ12 hμ12 H
          exact h9ret (gi σ0 μ12 0) σ0 m0 f0 nn_1 (H0.trans H.symm)
      · intro q_12
        replace H := f_t q_12 H
        have b_27 : r4.toInt = 0 := congrArg Int32.toInt q_12
        have z_28 : (-11 : Int32).toInt = -11 := rfl
        exact h9ret (-11 : Int32) σ0 m0 f0 nn_1 (H0.trans H.symm)
    · intro q_10
      replace H := f_f q_10 H
      have b_29 : ¬ a2.toInt ≤ 6 := fun h9 => q_10 (Int32.le_iff_toInt_le.mpr h9)
      have z_30 : (-2 : Int32).toInt = -2 := rfl
      exact h9ret (-2 : Int32) σ0 m0 f0 nn_1 (H0.trans H.symm)
noncomputable def F_X11_act (a1 : Int32) (a2 : Int32) (a3 : Int32) (σ : Sg) : Int32 × Sg := fl (si σ 64 1 (0 : Int32)) (fun σ1 => fb (F_X11_isMower a1 σ1) (fun r3 σ2 => (if r3 = 0 then ((0 : Int32), σ2) else fm (gr σ2 2 a1.toNatClampNeg) ((0, σ)) (fun μ6 ci6 => (if a2.toInt = 0 then fb (F_KD_mowing ci6 μ6 a3 64 σ2) (fun r9 σ8 => (r9, σ8)) else (if a2.toInt = 1 then fb (F_KD_whetting ci6 μ6 a3 64 σ2) (fun r11 σ10 => (r11, σ10)) else (if a2.toInt = 2 then fb (F_KD_telling ci6 μ6 a3 64 σ2) (fun r13 σ12 => (r13, σ12)) else ((0 : Int32), σ2))))))))
set_option maxRecDepth 100000 in
set_option maxHeartbeats 4000000 in
theorem kF_X11_act {l : Launch} {V : Vx} {a1 : Int32} {a2 : Int32} {a3 : Int32} {σ0 : Sg} {Qk : Int32 → Sg → Prop} (m0 : XI V σ0) (nn_1 : NN σ0 1) (h9ret : ∀ (r : Int32) (σ' : Sg), XI V σ' → FX (fun id => id = 65) (fun id k => (id = 64 ∧ k = 1)) σ0 σ' → (NN σ' 1) → (F_X11_act a1 a2 a3 σ0 = (r, σ')) → Qk r σ') : K_X11_act l V a1 a2 a3 σ0 Qk := by
  refine e_X11_act (fun M hl hV hN C => ?_)
  subst hl
  subst hV
  obtain ⟨R9, H0⟩ : ∃ R9, F_X11_act a1 a2 a3 σ0 = R9 := ⟨_, rfl⟩
  have f0 : FX (fun id => id = 65) (fun id k => (id = 64 ∧ k = 1)) σ0 σ0 := FX_rf
  have t_1 := XI_c1 m0 (id := 1) (k := 1) (lim_C0_1 (Or.inl rfl))
  have t_2 := XI_c1 m0 (lim_N (Or.inr (Or.inr (Or.inr (Or.inr (Or.inr (Or.inr (Or.inr (Or.inr (Or.inr (rfl)))))))))))
  have t_3 := nl_le (Or.inr (Or.inr (Or.inr (Or.inr (Or.inr (Or.inr (Or.inr (Or.inr (Or.inr (rfl))))))))))
  have H := H0
  unfold F_X11_act at H
  refine s_X11_act_0 C hN  ?_
  intro σ1 eσ1
  replace H := f_l eσ1 H
  have z_4 : (0 : Int32).toInt = 0 := rfl
  have mσ1 : XI (mV M) σ1 := by rw [eσ1]; exact XIs_b m0 (lim_N (Or.inr (Or.inr (Or.inr (Or.inr (Or.inr (Or.inr (Or.inr (Or.inr (Or.inr (rfl))))))))))) (by omega) (by omega)
  have fσ1 : FX (fun id => id = 65) (fun id k => (id = 64 ∧ k = 1)) σ0 σ1 := by rw [eσ1]; exact FX_si f0 (Or.inr (show (64 = 64 ∧ 1 = 1) from ⟨rfl, rfl⟩))
  have k_5 : (gi σ1 1 1).toInt = (gi σ0 1 1).toInt := by rw [eσ1]; exact congrArg Int32.toInt (gi_si_ne (Or.inl (by omega)))
  have k_6 : (gi σ1 64 1).toInt = 0 := by rw [eσ1]; exact congrArg Int32.toInt gi_si_eq
  have nσ1_1 : NN σ1 1 := by rw [eσ1]; exact NN_si nn_1 (by omega) (fun h9 => absurd h9 (by omega))
  refine kF_X11_isMower  mσ1   (fun r3 σ2 mσ2 cσ2 plσ2 phσ2 (pσ2_0 : (r3.toInt = 1 ∧ 0 ≤ a1.toInt ∧ a1.toInt < (gi σ1 1 1).toInt) ∨ (r3.toInt = 0 ∧ (a1.toInt < 0 ∨ (gi σ1 1 1).toInt ≤ a1.toInt))) hσ2 => ?_)
  obtain rfl := FX_nil cσ2
  replace H := f_b hσ2 H
  have t_7 := XI_c1 mσ1 (id := 1) (k := 1) (lim_C0_1 (Or.inl rfl))
  have t_8 := XI_c1 mσ1 (lim_N (Or.inr (Or.inr (Or.inr (Or.inr (Or.inr (Or.inr (Or.inr (Or.inr (Or.inr (rfl)))))))))))
  have t_9 := nl_le (Or.inr (Or.inr (Or.inr (Or.inr (Or.inr (Or.inr (Or.inr (Or.inr (Or.inr (rfl))))))))))
  refine ⟨?_, ?_⟩
  · intro q_10
    replace H := f_f q_10 H
    have b_11 : ¬ r3.toInt = 0 := fun h9 => q_10 (Int32.toInt_inj.mp h9)
    have w_12 := Int32.toInt_lt a1
    have w_13 := Int32.le_toInt a1
    have hv_14 : vp_in a1 6 := vp_in_iff.mpr ⟨by omega, by omega⟩
    have ec_15 := cl_eq (x := a1) (by omega)
    obtain ⟨μ6, ci6, eμ6, sμ6, hμ6, lμ6⟩ := XI_mow mσ1 (Or.inl rfl) (nσ1_1.2 a1.toNatClampNeg (by omega))
    have gμ6 := kdM_ge sμ6 hμ6
    refine ⟨hv_14, μ6, ci6, eμ6, sμ6, hμ6, lμ6, ?_⟩
    replace H := f_m eμ6 hμ6 H
    refine ⟨?_, ?_, ?_, ?_⟩
    · intro q_16
      replace H := f_f (by omega) H
      replace H := f_f (by omega) H
      replace H := f_f (by omega) H
      exact h9ret (0 : Int32) σ1 mσ1 fσ1 nσ1_1 (H0.trans H.symm)
    · intro q_16
      replace H := f_t q_16 H
      have z_17 : (64 : Int32).toInt = 64 := rfl
      refine kF_KD_mowing sμ6 hμ6 lμ6 (Or.inr (Or.inr (Or.inr (Or.inr (Or.inr (Or.inr (Or.inr (Or.inr (Or.inr (rfl)))))))))) mσ1  (by first | with_reducible assumption | with_reducible rfl | omega | assumption | rfl) (by first | with_reducible assumption | with_reducible rfl | omega | assumption | rfl) (fun r9 σ8 mσ8 cσ8 (pσ8_0 : (gi σ8 64 1).toInt ≤ (gi σ1 64 1).toInt + 2) hσ8 => ?_)
      replace H := f_b hσ8 H
      have fσ8 : FX (fun id => id = 65) (fun id k => (id = 64 ∧ k = 1)) σ0 σ8 := FX_tr fσ1 cσ8 (fun x (h9 : x = 65) => (show x = 65 from h9)) (fun x k (h9 : (x = 64 ∧ k = 1)) => (show (x = 65) ∨ ((x = 64 ∧ k = 1)) from Or.inr (show (x = 64 ∧ k = 1) from h9)))
      have k_18 : (gi σ8 1 1).toInt = (gi σ1 1 1).toInt := congrArg Int32.toInt (FX_i cσ8 (show ¬ (1 = 65) from by omega) (show ¬ ((1 = 64 ∧ 1 = 1)) from by omega))
      have t_19 := XI_c1 mσ8 (lim_N (Or.inr (Or.inr (Or.inr (Or.inr (Or.inr (Or.inr (Or.inr (Or.inr (Or.inr (rfl)))))))))))
      have t_20 := nl_le (Or.inr (Or.inr (Or.inr (Or.inr (Or.inr (Or.inr (Or.inr (Or.inr (Or.inr (rfl))))))))))
      have nσ8_1 : NN σ8 1 := NN_fx nσ1_1 cσ8 (show ¬ (1 = 65) from by omega) (show ¬ (2 = 65) from by omega) (show ¬ (3 = 65) from by omega) (show ¬ ((1 = 64 ∧ 1 = 1)) from by omega) (show ¬ ((1 = 64 ∧ 3 = 1)) from by omega) (fun k (h9 : (2 = 64 ∧ k = 1)) => by omega) (fun k (h9 : (3 = 64 ∧ k = 1)) => by omega)
      exact h9ret r9 σ8 mσ8 fσ8 nσ8_1 (H0.trans H.symm)
    · intro q_16
      replace H := f_f (by omega) H
      replace H := f_t q_16 H
      have z_21 : (64 : Int32).toInt = 64 := rfl
      refine kF_KD_whetting sμ6 hμ6 lμ6 (Or.inr (Or.inr (Or.inr (Or.inr (Or.inr (Or.inr (Or.inr (Or.inr (Or.inr (rfl)))))))))) mσ1  (by first | with_reducible assumption | with_reducible rfl | omega | assumption | rfl) (by first | with_reducible assumption | with_reducible rfl | omega | assumption | rfl) (fun r11 σ10 mσ10 cσ10 (pσ10_0 : (gi σ10 64 1).toInt ≤ (gi σ1 64 1).toInt + 5) hσ10 => ?_)
      replace H := f_b hσ10 H
      have fσ10 : FX (fun id => id = 65) (fun id k => (id = 64 ∧ k = 1)) σ0 σ10 := FX_tr fσ1 cσ10 (fun x (h9 : x = 65) => (show x = 65 from h9)) (fun x k (h9 : (x = 64 ∧ k = 1)) => (show (x = 65) ∨ ((x = 64 ∧ k = 1)) from Or.inr (show (x = 64 ∧ k = 1) from h9)))
      have k_22 : (gi σ10 1 1).toInt = (gi σ1 1 1).toInt := congrArg Int32.toInt (FX_i cσ10 (show ¬ (1 = 65) from by omega) (show ¬ ((1 = 64 ∧ 1 = 1)) from by omega))
      have t_23 := XI_c1 mσ10 (lim_N (Or.inr (Or.inr (Or.inr (Or.inr (Or.inr (Or.inr (Or.inr (Or.inr (Or.inr (rfl)))))))))))
      have t_24 := nl_le (Or.inr (Or.inr (Or.inr (Or.inr (Or.inr (Or.inr (Or.inr (Or.inr (Or.inr (rfl))))))))))
      have nσ10_1 : NN σ10 1 := NN_fx nσ1_1 cσ10 (show ¬ (1 = 65) from by omega) (show ¬ (2 = 65) from by omega) (show ¬ (3 = 65) from by omega) (show ¬ ((1 = 64 ∧ 1 = 1)) from by omega) (show ¬ ((1 = 64 ∧ 3 = 1)) from by omega) (fun k (h9 : (2 = 64 ∧ k = 1)) => by omega) (fun k (h9 : (3 = 64 ∧ k = 1)) => by omega)
      exact h9ret r11 σ10 mσ10 fσ10 nσ10_1 (H0.trans H.symm)
    · intro q_16
      replace H := f_f (by omega) H
      replace H := f_f (by omega) H
      replace H := f_t q_16 H
      have z_25 : (64 : Int32).toInt = 64 := rfl
      refine kF_KD_telling sμ6 hμ6 lμ6 (Or.inr (Or.inr (Or.inr (Or.inr (Or.inr (Or.inr (Or.inr (Or.inr (Or.inr (rfl)))))))))) mσ1  (by first | with_reducible assumption | with_reducible rfl | omega | assumption | rfl) (by first | with_reducible assumption | with_reducible rfl | omega | assumption | rfl) (fun r13 σ12 mσ12 cσ12 (pσ12_0 : (gi σ12 64 1).toInt ≤ (gi σ1 64 1).toInt + 12) hσ12 => ?_)
      replace H := f_b hσ12 H
      have fσ12 : FX (fun id => id = 65) (fun id k => (id = 64 ∧ k = 1)) σ0 σ12 := FX_tr fσ1 cσ12 (fun x (h9 : x = 65) => (show x = 65 from h9)) (fun x k (h9 : (x = 64 ∧ k = 1)) => (show (x = 65) ∨ ((x = 64 ∧ k = 1)) from Or.inr (show (x = 64 ∧ k = 1) from h9)))
      have k_26 : (gi σ12 1 1).toInt = (gi σ1 1 1).toInt := congrArg Int32.toInt (FX_i cσ12 (show ¬ (1 = 65) from by omega) (show ¬ ((1 = 64 ∧ 1 = 1)) from by omega))
      have t_27 := XI_c1 mσ12 (lim_N (Or.inr (Or.inr (Or.inr (Or.inr (Or.inr (Or.inr (Or.inr (Or.inr (Or.inr (rfl)))))))))))
      have t_28 := nl_le (Or.inr (Or.inr (Or.inr (Or.inr (Or.inr (Or.inr (Or.inr (Or.inr (Or.inr (rfl))))))))))
      have nσ12_1 : NN σ12 1 := NN_fx nσ1_1 cσ12 (show ¬ (1 = 65) from by omega) (show ¬ (2 = 65) from by omega) (show ¬ (3 = 65) from by omega) (show ¬ ((1 = 64 ∧ 1 = 1)) from by omega) (show ¬ ((1 = 64 ∧ 3 = 1)) from by omega) (fun k (h9 : (2 = 64 ∧ k = 1)) => by omega) (fun k (h9 : (3 = 64 ∧ k = 1)) => by omega)
      exact h9ret r13 σ12 mσ12 fσ12 nσ12_1 (H0.trans H.symm)
  · intro q_10
    replace H := f_t q_10 H
    have b_29 : r3.toInt = 0 := congrArg Int32.toInt q_10
    exact h9ret (0 : Int32) σ1 mσ1 fσ1 nσ1_1 (H0.trans H.symm)
noncomputable def LB_X1_placeOf_2 (c0 : Nat) (rec : Int32 → Int32 → Sg → Int32 × Sg) (x1 : Int32) (x2 : Int32) (σ : Sg) : Int32 × Sg := (if ((gi σ c0 3) - (1 : Int32)) ≤ x2 then (x2, σ) else (if (gi σ (c0 + 2) x2.toNatClampNeg) = x1 then (x2, σ) else fl (x2 + 1) (fun v4 => rec x1 v4 σ)))
noncomputable def LF_X1_placeOf (c0 : Nat) : Nat → Int32 → Int32 → Sg → Int32 × Sg
  | 0, _, _, σ => (0, σ)
  | n + 1, x1, x2, σ => LB_X1_placeOf_2 c0 (LF_X1_placeOf c0 n) x1 x2 σ
noncomputable def F_X1_placeOf (c0 : Nat) (a1 : Int32) (σ : Sg) : Int32 × Sg := LF_X1_placeOf c0 9 a1 (0 : Int32) σ
set_option maxRecDepth 100000 in
set_option maxHeartbeats 4000000 in
theorem kF_X1_placeOf {l : Launch} {V : Vx} {c0 : Nat} {a1 : Int32} {σ0 : Sg} {Qk : Int32 → Sg → Prop} (hc0 : isC c0) (m0 : XI V σ0) (h9ret : ∀ (r : Int32) (σ' : Sg), XI V σ' → FX (fun id => False) (fun _ _ => False) σ0 σ' → (0 ≤ r.toInt) → (r.toInt ≤ 5) → (r.toInt = 0 ∨ r.toInt < (gi σ0 c0 3).toInt) → (F_X1_placeOf c0 a1 σ0 = (r, σ')) → Qk r σ') : K_X1_placeOf l V c0 a1 σ0 Qk := by
  refine e_X1_placeOf (fun M hl hV hN C => ?_)
  subst hl
  subst hV
  obtain ⟨R9, H0⟩ : ∃ R9, F_X1_placeOf c0 a1 σ0 = R9 := ⟨_, rfl⟩
  have oc0 : hid (c0 = 1 ∨ c0 = 17 ∨ c0 = 33) := hc0
  have T : ∀ n : Nat, (∀ (x1 : Int32) (x2 : Int32) (σ : Sg), XI (mV M) σ → FX (fun id => False) (fun _ _ => False) σ0 σ → (0 ≤ x2.toInt) → (x2.toInt ≤ 5) → (x2.toInt = 0 ∨ x2.toInt < (gi σ c0 3).toInt) → (LF_X1_placeOf c0 n x1 x2 σ = R9) → (7 - x2.toInt).toNat < n → PS M 2 [(0, .ref c0), (1, .int x1), (2, .int x2)] [] σ (0, 0)) := by
    intro n
    induction n with
    | zero => exact fun _ _ _ _ _ _ _ _ _ h8 => absurd h8 (Nat.not_lt_zero _)
    | succ n ih =>
      have ih2 := ih
      · intro x1 x2 σ mσ fσ lx2 ux2 i0 H hmu
        replace H : LB_X1_placeOf_2 c0 (LF_X1_placeOf c0 n) x1 x2 σ = R9 := H
        unfold LB_X1_placeOf_2 at H
        have k_1 : (gi σ c0 3).toInt = (gi σ0 c0 3).toInt := congrArg Int32.toInt (FX_i fσ id id)
        have t_2 := XI_c1 mσ (id := c0) (k := 3) (lim_C0_3 hc0)
        refine s_X1_placeOf_2 C hN hc0 ?_
        refine ⟨?_, ?_⟩
        · intro q_3
          replace H := f_t q_3 H
          have t_4 : ((gi σ c0 3) - (1 : Int32)).toInt = (gi σ c0 3).toInt - 1 := i_sub (x := (gi σ c0 3)) (y := (1 : Int32)) (by show (_ : Int) ≤ (gi σ c0 3).toInt - 1; omega) (by show (gi σ c0 3).toInt - 1 ≤ (_ : Int); omega)
          have b_5 : ((gi σ c0 3) - (1 : Int32)).toInt ≤ x2.toInt := Int32.le_iff_toInt_le.mp q_3
          exact h9ret x2 σ mσ fσ (by omega) (by omega) (by first | with_reducible assumption | with_reducible rfl | omega | assumption | rfl) (H0.trans H.symm)
        · intro q_3
          replace H := f_f q_3 H
          have t_6 : ((gi σ c0 3) - (1 : Int32)).toInt = (gi σ c0 3).toInt - 1 := i_sub (x := (gi σ c0 3)) (y := (1 : Int32)) (by show (_ : Int) ≤ (gi σ c0 3).toInt - 1; omega) (by show (gi σ c0 3).toInt - 1 ≤ (_ : Int); omega)
          have b_7 : ¬ ((gi σ c0 3) - (1 : Int32)).toInt ≤ x2.toInt := fun h9 => q_3 (Int32.le_iff_toInt_le.mpr h9)
          have hv_8 : vp_in x2 6 := vp_in_iff.mpr ⟨by omega, by omega⟩
          refine ⟨hv_8, ?_⟩
          refine ⟨?_, ?_⟩
          · intro q_9
            replace H := f_t q_9 H
            have t_10 := XI_c1 mσ (id := (c0 + 2)) (k := x2.toNatClampNeg) (lim_C2 hc0 _)
            have w_11 := Int32.toInt_lt x1
            have w_12 := Int32.le_toInt x1
            have b_13 : (gi σ (c0 + 2) x2.toNatClampNeg).toInt = x1.toInt := congrArg Int32.toInt q_9
            exact h9ret x2 σ mσ fσ (by omega) (by omega) (by first | with_reducible assumption | with_reducible rfl | omega | assumption | rfl) (H0.trans H.symm)
          · intro q_9
            replace H := f_f q_9 H
            have t_14 := XI_c1 mσ (id := (c0 + 2)) (k := x2.toNatClampNeg) (lim_C2 hc0 _)
            have w_15 := Int32.toInt_lt x1
            have w_16 := Int32.le_toInt x1
            have b_17 : ¬ (gi σ (c0 + 2) x2.toNatClampNeg).toInt = x1.toInt := fun h9 => q_9 (Int32.toInt_inj.mp h9)
            intro v4 ev4
            replace H := f_l ev4 H
            have t_18 : (x2 + (1 : Int32)).toInt = x2.toInt + 1 := i_add (x := x2) (y := (1 : Int32)) (by show (_ : Int) ≤ x2.toInt + 1; omega) (by show x2.toInt + 1 ≤ (_ : Int); omega)
            have t_19 : v4.toInt = (x2 + (1 : Int32)).toInt := congrArg Int32.toInt ev4
            exact ih2 x1 v4 σ mσ fσ (by omega) (by omega) (by first | with_reducible assumption | with_reducible rfl | omega | assumption | rfl) H (by omega)
  have U2 := T 9
  have f0 : FX (fun id => False) (fun _ _ => False) σ0 σ0 := FX_rf
  have t_20 := XI_c1 m0 (id := c0) (k := 3) (lim_C0_3 hc0)
  have H := H0
  unfold F_X1_placeOf at H
  refine s_X1_placeOf_0 C hN hc0 ?_
  have w_21 := Int32.toInt_lt a1
  have w_22 := Int32.le_toInt a1
  have z_23 : (0 : Int32).toInt = 0 := rfl
  exact U2 a1 (0 : Int32) σ0 m0 f0 (by omega) (by omega) (by first | with_reducible assumption | with_reducible rfl | omega | assumption | rfl) H (by omega)
noncomputable def LB_X1_moves_9 (c0 : Nat) (rec : Nat → Int32 → Int32 → Int32 → Int32 → Sg → Int32 × Sg) (x1 : Int32) (x2 : Int32) (x3 : Int32) (x4 : Int32) (σ : Sg) : Int32 × Sg := (if x4 ≤ x2 then rec 1 x1 x2 x3 x3 σ else fl (si σ (c0 + 2) x4.toNatClampNeg (gi σ (c0 + 2) (x4 - (1 : Int32)).toNatClampNeg)) (fun σ4 => fl (x4 - 1) (fun v5 => rec 0 x1 x2 x3 v5 σ4)))
noncomputable def LB_X1_moves_40 (c0 : Nat) (rec : Nat → Int32 → Int32 → Int32 → Int32 → Sg → Int32 × Sg) (x1 : Int32) (x2 : Int32) (x3 : Int32) (x4 : Int32) (σ : Sg) : Int32 × Sg := (if x2 ≤ x4 then fl (si σ (c0 + 2) x2.toNatClampNeg x1) (fun σ3 => (x3, σ3)) else fl (si σ (c0 + 2) x4.toNatClampNeg (gi σ (c0 + 2) (x4 + (1 : Int32)).toNatClampNeg)) (fun σ6 => fl (x4 + 1) (fun v7 => rec 1 x1 x2 x3 v7 σ6)))
noncomputable def LF_X1_moves (c0 : Nat) : Nat → Nat → Int32 → Int32 → Int32 → Int32 → Sg → Int32 × Sg
  | 0, _, _, _, _, _, σ => (0, σ)
  | n + 1, 0, x1, x2, x3, x4, σ => LB_X1_moves_9 c0 (LF_X1_moves c0 n) x1 x2 x3 x4 σ
  | n + 1, 1, x1, x2, x3, x4, σ => LB_X1_moves_40 c0 (LF_X1_moves c0 n) x1 x2 x3 x4 σ
  | _ + 1, _ + 2, _, _, _, _, σ => (0, σ)
noncomputable def F_X1_moves (c0 : Nat) (a1 : Int32) (a2 : Int32) (σ : Sg) : Int32 × Sg := fb (F_X1_placeOf c0 a1 σ) (fun r2 σ1 => LF_X1_moves c0 300 0 a1 a2 r2 r2 σ1)
set_option maxRecDepth 100000 in
set_option maxHeartbeats 4000000 in
theorem kF_X1_moves {l : Launch} {V : Vx} {c0 : Nat} {a1 : Int32} {a2 : Int32} {σ0 : Sg} {Qk : Int32 → Sg → Prop} (hc0 : isC c0) (m0 : XI V σ0) (nn_c0 : NN σ0 c0) (l_a1 : 0 ≤ a1.toInt) (u_a1 : a1.toInt ≤ 5) (l_a2 : 0 ≤ a2.toInt) (u_a2 : a2.toInt ≤ 5) (pre0 : (gi σ0 c0 3).toInt = (gi σ0 c0 1).toInt) (pre1 : a1.toInt < (gi σ0 c0 1).toInt) (pre2 : a2.toInt < (gi σ0 c0 1).toInt) (h9ret : ∀ (r : Int32) (σ' : Sg), XI V σ' → FX (fun id => id = c0 + 2) (fun _ _ => False) σ0 σ' → (NN σ' c0) → (0 ≤ r.toInt) → (r.toInt ≤ 5) → (F_X1_moves c0 a1 a2 σ0 = (r, σ')) → Qk r σ') : K_X1_moves l V c0 a1 a2 σ0 Qk := by
  refine e_X1_moves (fun M hl hV hN C => ?_)
  subst hl
  subst hV
  obtain ⟨R9, H0⟩ : ∃ R9, F_X1_moves c0 a1 a2 σ0 = R9 := ⟨_, rfl⟩
  have oc0 : hid (c0 = 1 ∨ c0 = 17 ∨ c0 = 33) := hc0
  have T : ∀ n : Nat, (∀ (x1 : Int32) (x2 : Int32) (x3 : Int32) (x4 : Int32) (σ : Sg), XI (mV M) σ → FX (fun id => id = c0 + 2) (fun _ _ => False) σ0 σ → NN σ c0 → (0 ≤ x1.toInt) → (x1.toInt ≤ 5) → (0 ≤ x2.toInt) → (x2.toInt ≤ 5) → (0 ≤ x3.toInt) → (x3.toInt ≤ 5) → (0 ≤ x4.toInt) → (x4.toInt ≤ 5) → (x1.toInt < (gi σ c0 1).toInt) → (x2.toInt < (gi σ c0 1).toInt) → (x3.toInt < (gi σ c0 1).toInt) → (x4.toInt < (gi σ c0 1).toInt) → (LF_X1_moves c0 n 0 x1 x2 x3 x4 σ = R9) → x4.toInt.toNat + 100 < n → PS M 9 [(0, .ref c0), (1, .int x1), (2, .int x2), (3, .int x3), (4, .int x4)] [] σ (0, 0)) ∧ (∀ (x1 : Int32) (x2 : Int32) (x3 : Int32) (x4 : Int32) (σ : Sg), XI (mV M) σ → FX (fun id => id = c0 + 2) (fun _ _ => False) σ0 σ → NN σ c0 → (0 ≤ x1.toInt) → (x1.toInt ≤ 5) → (0 ≤ x2.toInt) → (x2.toInt ≤ 5) → (0 ≤ x3.toInt) → (x3.toInt ≤ 5) → (0 ≤ x4.toInt) → (x4.toInt ≤ 5) → (x1.toInt < (gi σ c0 1).toInt) → (x2.toInt < (gi σ c0 1).toInt) → (x3.toInt < (gi σ c0 1).toInt) → (x4.toInt < (gi σ c0 1).toInt) → (LF_X1_moves c0 n 1 x1 x2 x3 x4 σ = R9) → (7 - x4.toInt).toNat < n → PS M 40 [(0, .ref c0), (1, .int x1), (2, .int x2), (3, .int x3), (4, .int x4)] [] σ (0, 0)) := by
    intro n
    induction n with
    | zero => exact ⟨fun _ _ _ _ _ _ _ _ _ _ _ _ _ _ _ _ _ _ _ _ _ h8 => absurd h8 (Nat.not_lt_zero _), fun _ _ _ _ _ _ _ _ _ _ _ _ _ _ _ _ _ _ _ _ _ h8 => absurd h8 (Nat.not_lt_zero _)⟩
    | succ n ih =>
      obtain ⟨ih9, ih40⟩ := ih
      refine ⟨?_, ?_⟩
      · intro x1 x2 x3 x4 σ mσ fσ nσ_c0 lx1 ux1 lx2 ux2 lx3 ux3 lx4 ux4 i0 i1 i2 i3 H hmu
        replace H : LB_X1_moves_9 c0 (LF_X1_moves c0 n) x1 x2 x3 x4 σ = R9 := H
        unfold LB_X1_moves_9 at H
        have k_1 : (gi σ c0 1).toInt = (gi σ0 c0 1).toInt := congrArg Int32.toInt (FX_i fσ (show ¬ (c0 = c0 + 2) from by first | omega | (have uoc0 := un oc0; omega)) id)
        have t_2 := XI_c1 mσ (id := c0) (k := 1) (lim_C0_1 hc0)
        have k_3 : (gi σ c0 3).toInt = (gi σ0 c0 3).toInt := congrArg Int32.toInt (FX_i fσ (show ¬ (c0 = c0 + 2) from by first | omega | (have uoc0 := un oc0; omega)) id)
        have t_4 := XI_c1 mσ (id := c0) (k := 3) (lim_C0_3 hc0)
        refine s_X1_moves_9 C hN hc0 ?_
        refine ⟨?_, ?_⟩
        · intro q_5
          replace H := f_t q_5 H
          have b_6 : x4.toInt ≤ x2.toInt := Int32.le_iff_toInt_le.mp q_5
          exact ih40 x1 x2 x3 x3 σ mσ fσ nσ_c0 (by omega) (by omega) (by omega) (by omega) (by omega) (by omega) (by omega) (by omega) (by first | with_reducible assumption | with_reducible rfl | omega | assumption | rfl) (by first | with_reducible assumption | with_reducible rfl | omega | assumption | rfl) (by first | with_reducible assumption | with_reducible rfl | omega | assumption | rfl) (by first | with_reducible assumption | with_reducible rfl | omega | assumption | rfl) H (by omega)
        · intro q_5
          replace H := f_f q_5 H
          have b_7 : ¬ x4.toInt ≤ x2.toInt := fun h9 => q_5 (Int32.le_iff_toInt_le.mpr h9)
          have t_8 : (x4 - (1 : Int32)).toInt = x4.toInt - 1 := i_sub (x := x4) (y := (1 : Int32)) (by show (_ : Int) ≤ x4.toInt - 1; omega) (by show x4.toInt - 1 ≤ (_ : Int); omega)
          have hv_9 : vp_in (x4 - (1 : Int32)) 6 := vp_in_iff.mpr ⟨by omega, by omega⟩
          refine ⟨hv_9, ?_⟩
          have hv_10 : vp_in x4 6 := vp_in_iff.mpr ⟨by omega, by omega⟩
          refine ⟨hv_10, ?_⟩
          intro σ4 eσ4
          replace H := f_l eσ4 H
          have t_11 := XI_c1 mσ (id := (c0 + 2)) (k := (x4 - (1 : Int32)).toNatClampNeg) (lim_C2 hc0 _)
          have mσ4 : XI (mV M) σ4 := by rw [eσ4]; exact XIs_b mσ (lim_C2 hc0 _) (by omega) (by omega)
          have fσ4 : FX (fun id => id = c0 + 2) (fun _ _ => False) σ0 σ4 := by rw [eσ4]; exact FX_si fσ (Or.inl (show c0 + 2 = c0 + 2 from rfl))
          have k_12 : (gi σ4 c0 1).toInt = (gi σ c0 1).toInt := by rw [eσ4]; exact congrArg Int32.toInt (gi_si_ne (Or.inl (by first | omega | (have uoc0 := un oc0; omega))))
          have k_13 : (gi σ4 c0 3).toInt = (gi σ c0 3).toInt := by rw [eσ4]; exact congrArg Int32.toInt (gi_si_ne (Or.inl (by first | omega | (have uoc0 := un oc0; omega))))
          have ec_14 := cl_eq (x := (x4 - (1 : Int32))) (by omega)
          have el_15 := nσ_c0.1 (x4 - (1 : Int32)).toNatClampNeg (by omega)
          have nσ4_c0 : NN σ4 c0 := by rw [eσ4]; exact NN_line nσ_c0 (by omega)
          intro v5 ev5
          replace H := f_l ev5 H
          have t_16 : v5.toInt = (x4 - (1 : Int32)).toInt := congrArg Int32.toInt ev5
          exact ih9 x1 x2 x3 v5 σ4 mσ4 fσ4 nσ4_c0 (by omega) (by omega) (by omega) (by omega) (by omega) (by omega) (by omega) (by omega) (by first | with_reducible assumption | with_reducible rfl | omega | assumption | rfl) (by first | with_reducible assumption | with_reducible rfl | omega | assumption | rfl) (by first | with_reducible assumption | with_reducible rfl | omega | assumption | rfl) (by first | with_reducible assumption | with_reducible rfl | omega | assumption | rfl) H (by omega)
      · intro x1 x2 x3 x4 σ mσ fσ nσ_c0 lx1 ux1 lx2 ux2 lx3 ux3 lx4 ux4 i0 i1 i2 i3 H hmu
        replace H : LB_X1_moves_40 c0 (LF_X1_moves c0 n) x1 x2 x3 x4 σ = R9 := H
        unfold LB_X1_moves_40 at H
        have k_17 : (gi σ c0 1).toInt = (gi σ0 c0 1).toInt := congrArg Int32.toInt (FX_i fσ (show ¬ (c0 = c0 + 2) from by first | omega | (have uoc0 := un oc0; omega)) id)
        have t_18 := XI_c1 mσ (id := c0) (k := 1) (lim_C0_1 hc0)
        have k_19 : (gi σ c0 3).toInt = (gi σ0 c0 3).toInt := congrArg Int32.toInt (FX_i fσ (show ¬ (c0 = c0 + 2) from by first | omega | (have uoc0 := un oc0; omega)) id)
        have t_20 := XI_c1 mσ (id := c0) (k := 3) (lim_C0_3 hc0)
        refine s_X1_moves_40 C hN hc0 ?_
        refine ⟨?_, ?_⟩
        · intro q_21
          replace H := f_t q_21 H
          have b_22 : x2.toInt ≤ x4.toInt := Int32.le_iff_toInt_le.mp q_21
          have hv_23 : vp_in x2 6 := vp_in_iff.mpr ⟨by omega, by omega⟩
          refine ⟨hv_23, ?_⟩
          intro σ3 eσ3
          replace H := f_l eσ3 H
          have mσ3 : XI (mV M) σ3 := by rw [eσ3]; exact XIs_b mσ (lim_C2 hc0 _) (by omega) (by omega)
          have fσ3 : FX (fun id => id = c0 + 2) (fun _ _ => False) σ0 σ3 := by rw [eσ3]; exact FX_si fσ (Or.inl (show c0 + 2 = c0 + 2 from rfl))
          have k_24 : (gi σ3 c0 1).toInt = (gi σ c0 1).toInt := by rw [eσ3]; exact congrArg Int32.toInt (gi_si_ne (Or.inl (by first | omega | (have uoc0 := un oc0; omega))))
          have k_25 : (gi σ3 c0 3).toInt = (gi σ c0 3).toInt := by rw [eσ3]; exact congrArg Int32.toInt (gi_si_ne (Or.inl (by first | omega | (have uoc0 := un oc0; omega))))
          have nσ3_c0 : NN σ3 c0 := by rw [eσ3]; exact NN_line nσ_c0 (by omega)
          exact h9ret x3 σ3 mσ3 fσ3 nσ3_c0 (by omega) (by omega) (H0.trans H.symm)
        · intro q_21
          replace H := f_f q_21 H
          have b_26 : ¬ x2.toInt ≤ x4.toInt := fun h9 => q_21 (Int32.le_iff_toInt_le.mpr h9)
          have t_27 : (x4 + (1 : Int32)).toInt = x4.toInt + 1 := i_add (x := x4) (y := (1 : Int32)) (by show (_ : Int) ≤ x4.toInt + 1; omega) (by show x4.toInt + 1 ≤ (_ : Int); omega)
          have hv_28 : vp_in (x4 + (1 : Int32)) 6 := vp_in_iff.mpr ⟨by omega, by omega⟩
          refine ⟨hv_28, ?_⟩
          have hv_29 : vp_in x4 6 := vp_in_iff.mpr ⟨by omega, by omega⟩
          refine ⟨hv_29, ?_⟩
          intro σ6 eσ6
          replace H := f_l eσ6 H
          have t_30 := XI_c1 mσ (id := (c0 + 2)) (k := (x4 + (1 : Int32)).toNatClampNeg) (lim_C2 hc0 _)
          have mσ6 : XI (mV M) σ6 := by rw [eσ6]; exact XIs_b mσ (lim_C2 hc0 _) (by omega) (by omega)
          have fσ6 : FX (fun id => id = c0 + 2) (fun _ _ => False) σ0 σ6 := by rw [eσ6]; exact FX_si fσ (Or.inl (show c0 + 2 = c0 + 2 from rfl))
          have k_31 : (gi σ6 c0 1).toInt = (gi σ c0 1).toInt := by rw [eσ6]; exact congrArg Int32.toInt (gi_si_ne (Or.inl (by first | omega | (have uoc0 := un oc0; omega))))
          have k_32 : (gi σ6 c0 3).toInt = (gi σ c0 3).toInt := by rw [eσ6]; exact congrArg Int32.toInt (gi_si_ne (Or.inl (by first | omega | (have uoc0 := un oc0; omega))))
          have ec_33 := cl_eq (x := (x4 + (1 : Int32))) (by omega)
          have el_34 := nσ_c0.1 (x4 + (1 : Int32)).toNatClampNeg (by omega)
          have nσ6_c0 : NN σ6 c0 := by rw [eσ6]; exact NN_line nσ_c0 (by omega)
          intro v7 ev7
          replace H := f_l ev7 H
          have t_35 : v7.toInt = (x4 + (1 : Int32)).toInt := congrArg Int32.toInt ev7
          exact ih40 x1 x2 x3 v7 σ6 mσ6 fσ6 nσ6_c0 (by omega) (by omega) (by omega) (by omega) (by omega) (by omega) (by omega) (by omega) (by first | with_reducible assumption | with_reducible rfl | omega | assumption | rfl) (by first | with_reducible assumption | with_reducible rfl | omega | assumption | rfl) (by first | with_reducible assumption | with_reducible rfl | omega | assumption | rfl) (by first | with_reducible assumption | with_reducible rfl | omega | assumption | rfl) H (by omega)
  obtain ⟨U9, U40⟩ := T 300
  have f0 : FX (fun id => id = c0 + 2) (fun _ _ => False) σ0 σ0 := FX_rf
  have t_36 := XI_c1 m0 (id := c0) (k := 1) (lim_C0_1 hc0)
  have t_37 := XI_c1 m0 (id := c0) (k := 3) (lim_C0_3 hc0)
  have H := H0
  unfold F_X1_moves at H
  refine s_X1_moves_0 C hN hc0 ?_
  refine kF_X1_placeOf hc0 m0   (fun r2 σ1 mσ1 cσ1 plσ1 phσ1 (pσ1_0 : r2.toInt = 0 ∨ r2.toInt < (gi σ0 c0 3).toInt) hσ1 => ?_)
  obtain rfl := FX_nil cσ1
  replace H := f_b hσ1 H
  exact U9 a1 a2 r2 r2 σ0 m0 f0 nn_c0 (by omega) (by omega) (by omega) (by omega) (by omega) (by omega) (by omega) (by omega) (by first | with_reducible assumption | with_reducible rfl | omega | assumption | rfl) (by first | with_reducible assumption | with_reducible rfl | omega | assumption | rfl) (by first | with_reducible assumption | with_reducible rfl | omega | assumption | rfl) (by first | with_reducible assumption | with_reducible rfl | omega | assumption | rfl) H (by omega)
noncomputable def F_X11_place (a1 : Int32) (a2 : Int32) (σ : Sg) : Int32 × Sg := fb (F_X11_isMower a1 σ) (fun r2 σ1 => (if r2 = 0 then ((-1 : Int32), σ1) else (if a2 < 0 then ((-1 : Int32), σ1) else (if a2 < (gi σ1 1 1) then fb (F_X1_moves 1 a1 a2 σ1) (fun r7 σ6 => (r7, σ6)) else ((-1 : Int32), σ1)))))
set_option maxRecDepth 100000 in
set_option maxHeartbeats 4000000 in
theorem kF_X11_place {l : Launch} {V : Vx} {a1 : Int32} {a2 : Int32} {σ0 : Sg} {Qk : Int32 → Sg → Prop} (m0 : XI V σ0) (nn_1 : NN σ0 1) (pre0 : (gi σ0 1 3).toInt = (gi σ0 1 1).toInt) (h9ret : ∀ (r : Int32) (σ' : Sg), XI V σ' → FX (fun id => id = 3) (fun _ _ => False) σ0 σ' → (NN σ' 1) → (F_X11_place a1 a2 σ0 = (r, σ')) → Qk r σ') : K_X11_place l V a1 a2 σ0 Qk := by
  refine e_X11_place (fun M hl hV hN C => ?_)
  subst hl
  subst hV
  obtain ⟨R9, H0⟩ : ∃ R9, F_X11_place a1 a2 σ0 = R9 := ⟨_, rfl⟩
  have f0 : FX (fun id => id = 3) (fun _ _ => False) σ0 σ0 := FX_rf
  have t_1 := XI_c1 m0 (id := 1) (k := 1) (lim_C0_1 (Or.inl rfl))
  have t_2 := XI_c1 m0 (id := 1) (k := 3) (lim_C0_3 (Or.inl rfl))
  have H := H0
  unfold F_X11_place at H
  refine s_X11_place_0 C hN  ?_
  refine kF_X11_isMower  m0   (fun r2 σ1 mσ1 cσ1 plσ1 phσ1 (pσ1_0 : (r2.toInt = 1 ∧ 0 ≤ a1.toInt ∧ a1.toInt < (gi σ0 1 1).toInt) ∨ (r2.toInt = 0 ∧ (a1.toInt < 0 ∨ (gi σ0 1 1).toInt ≤ a1.toInt))) hσ1 => ?_)
  obtain rfl := FX_nil cσ1
  replace H := f_b hσ1 H
  refine ⟨?_, ?_⟩
  · intro q_3
    replace H := f_t q_3 H
    have b_4 : r2.toInt = 0 := congrArg Int32.toInt q_3
    have z_5 : (-1 : Int32).toInt = -1 := rfl
    exact h9ret (-1 : Int32) σ0 m0 f0 nn_1 (H0.trans H.symm)
  · intro q_3
    replace H := f_f q_3 H
    have b_6 : ¬ r2.toInt = 0 := fun h9 => q_3 (Int32.toInt_inj.mp h9)
    refine ⟨?_, ?_⟩
    · intro q_7
      replace H := f_t q_7 H
      have w_8 := Int32.toInt_lt a2
      have w_9 := Int32.le_toInt a2
      have b_10 : a2.toInt < 0 := Int32.lt_iff_toInt_lt.mp q_7
      have z_11 : (-1 : Int32).toInt = -1 := rfl
      exact h9ret (-1 : Int32) σ0 m0 f0 nn_1 (H0.trans H.symm)
    · intro q_7
      replace H := f_f q_7 H
      have w_12 := Int32.toInt_lt a2
      have w_13 := Int32.le_toInt a2
      have b_14 : ¬ a2.toInt < 0 := fun h9 => q_7 (Int32.lt_iff_toInt_lt.mpr h9)
      refine ⟨?_, ?_⟩
      · intro q_15
        replace H := f_t q_15 H
        have b_16 : a2.toInt < (gi σ0 1 1).toInt := Int32.lt_iff_toInt_lt.mp q_15
        refine kF_X1_moves (Or.inl rfl) m0 nn_1 (by omega) (by omega) (by omega) (by omega) (by first | with_reducible assumption | with_reducible rfl | omega | assumption | rfl) (by first | with_reducible assumption | with_reducible rfl | omega | assumption | rfl) (by first | with_reducible assumption | with_reducible rfl | omega | assumption | rfl) (fun r7 σ6 mσ6 cσ6 nσ6_1 plσ6 phσ6 hσ6 => ?_)
        replace H := f_b hσ6 H
        have fσ6 : FX (fun id => id = 3) (fun _ _ => False) σ0 σ6 := FX_tr f0 cσ6 (fun x (h9 : x = 3) => (show x = 3 from h9)) (fun _ _ h9 => h9.elim)
        have k_17 : (gi σ6 1 1).toInt = (gi σ0 1 1).toInt := congrArg Int32.toInt (FX_i cσ6 (show ¬ (1 = 3) from by omega) id)
        have k_18 : (gi σ6 1 3).toInt = (gi σ0 1 3).toInt := congrArg Int32.toInt (FX_i cσ6 (show ¬ (1 = 3) from by omega) id)
        exact h9ret r7 σ6 mσ6 fσ6 nσ6_1 (H0.trans H.symm)
      · intro q_15
        replace H := f_f q_15 H
        have b_19 : ¬ a2.toInt < (gi σ0 1 1).toInt := fun h9 => q_15 (Int32.lt_iff_toInt_lt.mpr h9)
        have z_20 : (-1 : Int32).toInt = -1 := rfl
        exact h9ret (-1 : Int32) σ0 m0 f0 nn_1 (H0.trans H.symm)
noncomputable def F_X12_isMower (a1 : Int32) (σ : Sg) : Int32 × Sg := fb (F_X12_in a1 (0 : Int32) ((gi σ 74 0) - (1 : Int32)) σ) (fun r2 σ1 => (r2, σ1))
set_option maxRecDepth 100000 in
set_option maxHeartbeats 4000000 in
theorem kF_X12_isMower {l : Launch} {V : Vx} {a1 : Int32} {σ0 : Sg} {Qk : Int32 → Sg → Prop} (m0 : MI σ0) (h9ret : ∀ (r : Int32) (σ' : Sg), MI σ' → Fr [] [] σ0 σ' → (0 ≤ r.toInt) → (r.toInt ≤ 1) → ((r.toInt = 1 ∧ 0 ≤ a1.toInt ∧ a1.toInt < (gi σ0 74 0).toInt) ∨ (r.toInt = 0 ∧ (a1.toInt < 0 ∨ (gi σ0 74 0).toInt ≤ a1.toInt))) → (F_X12_isMower a1 σ0 = (r, σ')) → Qk r σ') : K_X12_isMower l V a1 σ0 Qk := by
  refine e_X12_isMower (fun M hl hV hN C => ?_)
  subst hl
  subst hV
  obtain ⟨R9, H0⟩ : ∃ R9, F_X12_isMower a1 σ0 = R9 := ⟨_, rfl⟩
  have f0 : Fr [] [] σ0 σ0 := Fr_rf
  have H := H0
  unfold F_X12_isMower at H
  refine s_X12_isMower_0 C hN ?_
  have t_1 := MI_f0 m0
  have t_2 : ((gi σ0 74 0) - (1 : Int32)).toInt = (gi σ0 74 0).toInt - 1 := i_sub (x := (gi σ0 74 0)) (y := (1 : Int32)) (by show (_ : Int) ≤ (gi σ0 74 0).toInt - 1; omega) (by show (gi σ0 74 0).toInt - 1 ≤ (_ : Int); omega)
  refine kF_X12_in m0  (fun r2 σ1 mσ1 cσ1 plσ1 phσ1 (pσ1_0 : (r2.toInt = 1 ∧ (0 : Int) ≤ a1.toInt ∧ a1.toInt ≤ ((gi σ0 74 0) - (1 : Int32)).toInt) ∨ (r2.toInt = 0 ∧ (a1.toInt < (0 : Int) ∨ ((gi σ0 74 0) - (1 : Int32)).toInt < a1.toInt))) hσ1 => ?_)
  obtain rfl := Fr_nil cσ1
  replace H := f_b hσ1 H
  refine ⟨i_bool (by omega) (by omega), ?_⟩
  have t_3 := MI_f0 m0
  exact h9ret r2 σ0 m0 f0 (by omega) (by omega) (by first | with_reducible assumption | with_reducible rfl | omega | assumption | rfl) (H0.trans H.symm)
noncomputable def F_X12_row (a1 : Int32) (a2 : Int32) (a3 : Int32) (σ : Sg) : Int32 × Sg := fb (F_X12_isMower a1 σ) (fun r2 σ1 => (if r2 = 0 then ((-1 : Int32), σ1) else fb (F_X12_in a2 (0 : Int32) (3 : Int32) σ1) (fun r5 σ4 => (if r5 = 0 then ((-1 : Int32), σ4) else fb (F_X12_in a3 (0 : Int32) (9 : Int32) σ4) (fun r8 σ7 => (if r8 = 0 then ((-2 : Int32), σ7) else (if (gi σ7 103 a1.toNatClampNeg) = (6 : Int32) then fl (gi σ7 109 (((4 : Int32) * a1) + a2).toNatClampNeg) (fun v13 => fl (si σ7 109 (((4 : Int32) * a1) + a2).toNatClampNeg a3) (fun σ15 => (v13, σ15))) else ((-3 : Int32), σ7))))))))
set_option maxRecDepth 100000 in
set_option maxHeartbeats 4000000 in
theorem kF_X12_row {l : Launch} {V : Vx} {a1 : Int32} {a2 : Int32} {a3 : Int32} {σ0 : Sg} {Qk : Int32 → Sg → Prop} (m0 : MI σ0) (h9ret : ∀ (r : Int32) (σ' : Sg), MI σ' → Fr [109] [] σ0 σ' → (F_X12_row a1 a2 a3 σ0 = (r, σ')) → Qk r σ') : K_X12_row l V a1 a2 a3 σ0 Qk := by
  refine e_X12_row (fun M hl hV hN C => ?_)
  subst hl
  subst hV
  obtain ⟨R9, H0⟩ : ∃ R9, F_X12_row a1 a2 a3 σ0 = R9 := ⟨_, rfl⟩
  have f0 : Fr [109] [] σ0 σ0 := Fr_rf
  have H := H0
  unfold F_X12_row at H
  refine s_X12_row_0 C hN ?_
  refine kF_X12_isMower m0  (fun r2 σ1 mσ1 cσ1 plσ1 phσ1 (pσ1_0 : (r2.toInt = 1 ∧ 0 ≤ a1.toInt ∧ a1.toInt < (gi σ0 74 0).toInt) ∨ (r2.toInt = 0 ∧ (a1.toInt < 0 ∨ (gi σ0 74 0).toInt ≤ a1.toInt))) hσ1 => ?_)
  obtain rfl := Fr_nil cσ1
  replace H := f_b hσ1 H
  have t_1 := MI_f0 m0
  refine ⟨?_, ?_⟩
  · intro q_2
    replace H := f_t q_2 H
    have b_3 : r2.toInt = 0 := congrArg Int32.toInt q_2
    have z_4 : (-1 : Int32).toInt = -1 := rfl
    exact h9ret (-1 : Int32) σ0 m0 f0 (H0.trans H.symm)
  · intro q_2
    replace H := f_f q_2 H
    have b_5 : ¬ r2.toInt = 0 := fun h9 => q_2 (Int32.toInt_inj.mp h9)
    refine kF_X12_in m0  (fun r5 σ4 mσ4 cσ4 plσ4 phσ4 (pσ4_0 : (r5.toInt = 1 ∧ (0 : Int) ≤ a2.toInt ∧ a2.toInt ≤ (3 : Int)) ∨ (r5.toInt = 0 ∧ (a2.toInt < (0 : Int) ∨ (3 : Int) < a2.toInt))) hσ4 => ?_)
    obtain rfl := Fr_nil cσ4
    replace H := f_b hσ4 H
    refine ⟨?_, ?_⟩
    · intro q_6
      replace H := f_f q_6 H
      have b_7 : ¬ r5.toInt = 0 := fun h9 => q_6 (Int32.toInt_inj.mp h9)
      refine kF_X12_in m0  (fun r8 σ7 mσ7 cσ7 plσ7 phσ7 (pσ7_0 : (r8.toInt = 1 ∧ (0 : Int) ≤ a3.toInt ∧ a3.toInt ≤ (9 : Int)) ∨ (r8.toInt = 0 ∧ (a3.toInt < (0 : Int) ∨ (9 : Int) < a3.toInt))) hσ7 => ?_)
      obtain rfl := Fr_nil cσ7
      replace H := f_b hσ7 H
      refine ⟨?_, ?_⟩
      · intro q_8
        replace H := f_f q_8 H
        have b_9 : ¬ r8.toInt = 0 := fun h9 => q_8 (Int32.toInt_inj.mp h9)
        have w_10 := Int32.toInt_lt a1
        have w_11 := Int32.le_toInt a1
        have hv_12 : vp_in a1 6 := vp_in_iff.mpr ⟨by omega, by omega⟩
        refine ⟨hv_12, ?_⟩
        refine ⟨?_, ?_⟩
        · intro q_13
          replace H := f_t q_13 H
          have b_14 : (gi σ0 103 a1.toNatClampNeg).toInt = 6 := congrArg Int32.toInt q_13
          try have t_15 : ((4 : Int32) * a1).toInt = 4 * a1.toInt := i_mull rfl (by omega) (by omega)
          have w_16 := Int32.toInt_lt a2
          have w_17 := Int32.le_toInt a2
          try have t_18 : (((4 : Int32) * a1) + a2).toInt = ((4 : Int32) * a1).toInt + a2.toInt := i_add (x := ((4 : Int32) * a1)) (y := a2) (by show (_ : Int) ≤ ((4 : Int32) * a1).toInt + a2.toInt; omega) (by show ((4 : Int32) * a1).toInt + a2.toInt ≤ (_ : Int); omega)
          have hv_19 : vp_in (((4 : Int32) * a1) + a2) 24 := vp_in_iff.mpr ⟨by omega, by omega⟩
          refine ⟨hv_19, ?_⟩
          intro v13 ev13
          replace H := f_l ev13 H
          refine ⟨hv_19, ?_⟩
          intro σ15 eσ15
          replace H := f_l eσ15 H
          have mσ15 : MI σ15 := by rw [eσ15]; exact MIs_au (a := 109) m0 rfl rfl
          have fσ15 : Fr [109] [] σ0 σ15 := by rw [eσ15]; exact Fr_si f0 (by decide +kernel) (fun h9 => absurd h9 (by decide +kernel))
          have k_20 : (gi σ15 74 0).toInt = (gi σ0 74 0).toInt := gk_l eσ15 rfl
          exact h9ret v13 σ15 mσ15 fσ15 (H0.trans H.symm)
        · intro q_13
          replace H := f_f q_13 H
          have b_21 : ¬ (gi σ0 103 a1.toNatClampNeg).toInt = 6 := fun h9 => q_13 (Int32.toInt_inj.mp h9)
          have z_22 : (-3 : Int32).toInt = -3 := rfl
          exact h9ret (-3 : Int32) σ0 m0 f0 (H0.trans H.symm)
      · intro q_8
        replace H := f_t q_8 H
        have b_23 : r8.toInt = 0 := congrArg Int32.toInt q_8
        have z_24 : (-2 : Int32).toInt = -2 := rfl
        exact h9ret (-2 : Int32) σ0 m0 f0 (H0.trans H.symm)
    · intro q_6
      replace H := f_t q_6 H
      have b_25 : r5.toInt = 0 := congrArg Int32.toInt q_6
      have z_26 : (-1 : Int32).toInt = -1 := rfl
      exact h9ret (-1 : Int32) σ0 m0 f0 (H0.trans H.symm)
noncomputable def F_X12_trace (a1 : Int32) (σ : Sg) : Int32 × Sg := fb (F_X12_in a1 (0 : Int32) (19 : Int32) σ) (fun r2 σ1 => (if r2 = 0 then ((-1 : Int32), σ1) else (if (gi σ1 74 69) ≤ a1 then ((-1 : Int32), σ1) else (gi σ1 170 a1.toNatClampNeg, σ1))))
set_option maxRecDepth 100000 in
set_option maxHeartbeats 4000000 in
theorem kF_X12_trace {l : Launch} {V : Vx} {a1 : Int32} {σ0 : Sg} {Qk : Int32 → Sg → Prop} (m0 : MI σ0) (h9ret : ∀ (r : Int32) (σ' : Sg), MI σ' → Fr [] [] σ0 σ' → (F_X12_trace a1 σ0 = (r, σ')) → Qk r σ') : K_X12_trace l V a1 σ0 Qk := by
  refine e_X12_trace (fun M hl hV hN C => ?_)
  subst hl
  subst hV
  obtain ⟨R9, H0⟩ : ∃ R9, F_X12_trace a1 σ0 = R9 := ⟨_, rfl⟩
  have f0 : Fr [] [] σ0 σ0 := Fr_rf
  have H := H0
  unfold F_X12_trace at H
  refine s_X12_trace_0 C hN ?_
  refine kF_X12_in m0  (fun r2 σ1 mσ1 cσ1 plσ1 phσ1 (pσ1_0 : (r2.toInt = 1 ∧ (0 : Int) ≤ a1.toInt ∧ a1.toInt ≤ (19 : Int)) ∨ (r2.toInt = 0 ∧ (a1.toInt < (0 : Int) ∨ (19 : Int) < a1.toInt))) hσ1 => ?_)
  obtain rfl := Fr_nil cσ1
  replace H := f_b hσ1 H
  refine ⟨?_, ?_⟩
  · intro q_1
    replace H := f_t q_1 H
    have b_2 : r2.toInt = 0 := congrArg Int32.toInt q_1
    have z_3 : (-1 : Int32).toInt = -1 := rfl
    exact h9ret (-1 : Int32) σ0 m0 f0 (H0.trans H.symm)
  · intro q_1
    replace H := f_f q_1 H
    have b_4 : ¬ r2.toInt = 0 := fun h9 => q_1 (Int32.toInt_inj.mp h9)
    refine ⟨?_, ?_⟩
    · intro q_5
      replace H := f_t q_5 H
      have t_6 := MI_f69 m0
      have w_7 := Int32.toInt_lt a1
      have w_8 := Int32.le_toInt a1
      have b_9 : (gi σ0 74 69).toInt ≤ a1.toInt := Int32.le_iff_toInt_le.mp q_5
      have z_10 : (-1 : Int32).toInt = -1 := rfl
      exact h9ret (-1 : Int32) σ0 m0 f0 (H0.trans H.symm)
    · intro q_5
      replace H := f_f q_5 H
      have t_11 := MI_f69 m0
      have w_12 := Int32.toInt_lt a1
      have w_13 := Int32.le_toInt a1
      have b_14 : ¬ (gi σ0 74 69).toInt ≤ a1.toInt := fun h9 => q_5 (Int32.le_iff_toInt_le.mpr h9)
      have hv_15 : vp_in a1 20 := vp_in_iff.mpr ⟨by omega, by omega⟩
      refine ⟨hv_15, ?_⟩
      exact h9ret (gi σ0 170 a1.toNatClampNeg) σ0 m0 f0 (H0.trans H.symm)
noncomputable def F_X12_body (a1 : Int32) (σ : Sg) : Sg := (if (20 : Int32) ≤ (gi σ 74 69) then fl (si σ 74 69 ((gi σ 74 69) + (1 : Int32))) (fun σ2 => σ2) else fl (si σ 170 (gi σ 74 69).toNatClampNeg a1) (fun σ4 => fl (si σ4 74 69 ((gi σ4 74 69) + (1 : Int32))) (fun σ5 => σ5)))
set_option maxRecDepth 100000 in
set_option maxHeartbeats 4000000 in
theorem kF_X12_body {l : Launch} {V : Vx} {a1 : Int32} {σ0 : Sg} {Qk : Sg → Prop} (m0 : MI σ0) (pre0 : (gi σ0 74 69).toInt ≤ 900) (h9ret : ∀ (σ' : Sg), MI σ' → Fr [74, 170] [69] σ0 σ' → ((gi σ' 74 69).toInt = (gi σ0 74 69).toInt + 1) → (F_X12_body a1 σ0 = σ') → Qk σ') : K_X12_body l V a1 σ0 Qk := by
  refine e_X12_body (fun M hl hV hN C => ?_)
  subst hl
  subst hV
  obtain ⟨R9, H0⟩ : ∃ R9, F_X12_body a1 σ0 = R9 := ⟨_, rfl⟩
  have f0 : Fr [74, 170] [69] σ0 σ0 := Fr_rf
  have H := H0
  unfold F_X12_body at H
  refine s_X12_body_0 C hN ?_
  refine ⟨?_, ?_⟩
  · intro q_1
    replace H := f_t q_1 H
    have t_2 := MI_f69 m0
    have b_3 : (20 : Int) ≤ (gi σ0 74 69).toInt := Int32.le_iff_toInt_le.mp q_1
    intro σ2 eσ2
    replace H := f_l eσ2 H
    have t_4 : ((gi σ0 74 69) + (1 : Int32)).toInt = (gi σ0 74 69).toInt + 1 := i_add (x := (gi σ0 74 69)) (y := (1 : Int32)) (by show (_ : Int) ≤ (gi σ0 74 69).toInt + 1; omega) (by show (gi σ0 74 69).toInt + 1 ≤ (_ : Int); omega)
    have mσ2 : MI σ2 := by rw [eσ2]; exact MIs_f69 m0 (by omega) (by omega)
    have fσ2 : Fr [74, 170] [69] σ0 σ2 := by rw [eσ2]; exact Fr_si f0 (by decide +kernel) (fun _ => by decide +kernel)
    have k_5 : (gi σ2 74 69).toInt = ((gi σ0 74 69) + (1 : Int32)).toInt := by rw [eσ2]; exact congrArg Int32.toInt gi_si_eq
    exact h9ret σ2 mσ2 fσ2 (by first | with_reducible assumption | with_reducible rfl | omega | assumption | rfl) (H0.trans H.symm)
  · intro q_1
    replace H := f_f q_1 H
    have t_6 := MI_f69 m0
    have b_7 : ¬ (20 : Int) ≤ (gi σ0 74 69).toInt := fun h9 => q_1 (Int32.le_iff_toInt_le.mpr h9)
    have hv_8 : vp_in (gi σ0 74 69) 20 := vp_in_iff.mpr ⟨by omega, by omega⟩
    refine ⟨hv_8, ?_⟩
    intro σ4 eσ4
    replace H := f_l eσ4 H
    have mσ4 : MI σ4 := by rw [eσ4]; exact MIs_au (a := 170) m0 rfl rfl
    have fσ4 : Fr [74, 170] [69] σ0 σ4 := by rw [eσ4]; exact Fr_si f0 (by decide +kernel) (fun h9 => absurd h9 (by decide +kernel))
    have k_9 : (gi σ4 74 69).toInt = (gi σ0 74 69).toInt := gk_l eσ4 rfl
    intro σ5 eσ5
    replace H := f_l eσ5 H
    have t_10 := MI_f69 mσ4
    have t_11 : ((gi σ4 74 69) + (1 : Int32)).toInt = (gi σ4 74 69).toInt + 1 := i_add (x := (gi σ4 74 69)) (y := (1 : Int32)) (by show (_ : Int) ≤ (gi σ4 74 69).toInt + 1; omega) (by show (gi σ4 74 69).toInt + 1 ≤ (_ : Int); omega)
    have mσ5 : MI σ5 := by rw [eσ5]; exact MIs_f69 mσ4 (by omega) (by omega)
    have fσ5 : Fr [74, 170] [69] σ0 σ5 := by rw [eσ5]; exact Fr_si fσ4 (by decide +kernel) (fun _ => by decide +kernel)
    have k_12 : (gi σ5 74 69).toInt = ((gi σ4 74 69) + (1 : Int32)).toInt := by rw [eσ5]; exact congrArg Int32.toInt gi_si_eq
    exact h9ret σ5 mσ5 fσ5 (by first | with_reducible assumption | with_reducible rfl | omega | assumption | rfl) (H0.trans H.symm)
noncomputable def F_X12_mowerMows (a1 : Int32) (a2 : Int32) (σ : Sg) : Int32 × Sg := fl (F_X12_body (10 : Int32) σ) (fun σ1 => (a2 + a1, σ1))
set_option maxRecDepth 100000 in
set_option maxHeartbeats 4000000 in
theorem kF_X12_mowerMows {l : Launch} {V : Vx} {a1 : Int32} {a2 : Int32} {σ0 : Sg} {Qk : Int32 → Sg → Prop} (m0 : MI σ0) (pre0 : (gi σ0 74 69).toInt ≤ 800) (h9ret : ∀ (r : Int32) (σ' : Sg), MI σ' → Fr [74, 170] [69] σ0 σ' → ((gi σ' 74 69).toInt ≤ (gi σ0 74 69).toInt + 1) → (F_X12_mowerMows a1 a2 σ0 = (r, σ')) → Qk r σ') : K_X12_mowerMows l V a1 a2 σ0 Qk := by
  refine e_X12_mowerMows (fun M hl hV hN C => ?_)
  subst hl
  subst hV
  obtain ⟨R9, H0⟩ : ∃ R9, F_X12_mowerMows a1 a2 σ0 = R9 := ⟨_, rfl⟩
  have f0 : Fr [74, 170] [69] σ0 σ0 := Fr_rf
  have H := H0
  unfold F_X12_mowerMows at H
  refine s_X12_mowerMows_0 C hN ?_
  refine kF_X12_body m0 (by first | with_reducible assumption | with_reducible rfl | omega | assumption | rfl) (fun σ1 mσ1 cσ1 (pσ1_0 : (gi σ1 74 69).toInt = (gi σ0 74 69).toInt + 1) hσ1 => ?_)
  replace H := f_v hσ1 H
  have fσ1 : Fr [74, 170] [69] σ0 σ1 := Fr_tr f0 cσ1 (by decide +kernel) (by decide +kernel)
  exact h9ret (a2 + a1) σ1 mσ1 fσ1 (by first | with_reducible assumption | with_reducible rfl | omega | assumption | rfl) (H0.trans H.symm)
noncomputable def LB_X12_mowsAct_40 (rec : Int32 → Int32 → Sg → Int32 × Sg) (x1 : Int32) (x2 : Int32) (σ : Sg) : Int32 × Sg := fl (F_X12_body (30 : Int32) σ) (fun σ1 => fb (F_X12_mowerMows x1 (x2 * (3 : Int32)) σ1) (fun r3 σ2 => (r3, σ2)))
noncomputable def LF_X12_mowsAct : Nat → Int32 → Int32 → Sg → Int32 × Sg
  | 0, _, _, σ => (0, σ)
  | n + 1, x1, x2, σ => LB_X12_mowsAct_40 (LF_X12_mowsAct n) x1 x2 σ
noncomputable def F_X12_mowsAct (a1 : Int32) (a2 : Int32) (σ : Sg) : Int32 × Sg := (if (gi σ 103 a1.toNatClampNeg).toInt = 2 then LF_X12_mowsAct 9 a1 a2 σ else (if (gi σ 103 a1.toNatClampNeg).toInt = 3 then fb (F_X12_mowerMows a1 a2 σ) (fun r6 σ5 => (r6, σ5)) else (if (gi σ 103 a1.toNatClampNeg).toInt = 4 then fl (F_X12_body (50 : Int32) σ) (fun σ7 => fb (F_X12_mowerMows a1 a2 σ7) (fun r9 σ8 => (-r9, σ8))) else (if (gi σ 103 a1.toNatClampNeg).toInt = 5 then LF_X12_mowsAct 9 a1 a2 σ else (if (gi σ 103 a1.toNatClampNeg).toInt = 6 then fl (F_X12_body (71 : Int32) σ) (fun σ10 => fb (F_X12_mowerMows a1 a2 σ10) (fun r12 σ11 => (r12 ^^^ (gi σ11 104 a1.toNatClampNeg), σ11))) else fb (F_X12_mowerMows a1 a2 σ) (fun r3 σ2 => (r3, σ2)))))))
set_option maxRecDepth 100000 in
set_option maxHeartbeats 4000000 in
theorem kF_X12_mowsAct {l : Launch} {V : Vx} {a1 : Int32} {a2 : Int32} {σ0 : Sg} {Qk : Int32 → Sg → Prop} (m0 : MI σ0) (l_a1 : 0 ≤ a1.toInt) (u_a1 : a1.toInt ≤ 5) (pre0 : (gi σ0 74 69).toInt ≤ 700) (h9ret : ∀ (r : Int32) (σ' : Sg), MI σ' → Fr [74, 170] [69] σ0 σ' → ((gi σ' 74 69).toInt ≤ (gi σ0 74 69).toInt + 2) → (F_X12_mowsAct a1 a2 σ0 = (r, σ')) → Qk r σ') : K_X12_mowsAct l V a1 a2 σ0 Qk := by
  refine e_X12_mowsAct (fun M hl hV hN C => ?_)
  subst hl
  subst hV
  obtain ⟨R9, H0⟩ : ∃ R9, F_X12_mowsAct a1 a2 σ0 = R9 := ⟨_, rfl⟩
  have T : ∀ n : Nat, (∀ (x1 : Int32) (x2 : Int32) (σ : Sg), MI σ → Fr [74, 170] [69] σ0 σ → (0 ≤ x1.toInt) → (x1.toInt ≤ 5) → ((gi σ 74 69).toInt ≤ (gi σ0 74 69).toInt) → (LF_X12_mowsAct n x1 x2 σ = R9) → 1 < n → PS M 40 [(0, .ref 74), (1, .int x1), (2, .int x2)] [] σ (0, 0)) := by
    intro n
    induction n with
    | zero => exact fun _ _ _ _ _ _ _ _ _ h8 => absurd h8 (Nat.not_lt_zero _)
    | succ n ih =>
      have ih40 := ih
      · intro x1 x2 σ mσ fσ lx1 ux1 i0 H hmu
        replace H : LB_X12_mowsAct_40 (LF_X12_mowsAct n) x1 x2 σ = R9 := H
        unfold LB_X12_mowsAct_40 at H
        refine s_X12_mowsAct_40 C hN ?_
        refine kF_X12_body mσ (by first | with_reducible assumption | with_reducible rfl | omega | assumption | rfl) (fun σ1 mσ1 cσ1 (pσ1_0 : (gi σ1 74 69).toInt = (gi σ 74 69).toInt + 1) hσ1 => ?_)
        replace H := f_v hσ1 H
        have fσ1 : Fr [74, 170] [69] σ0 σ1 := Fr_tr fσ cσ1 (by decide +kernel) (by decide +kernel)
        refine kF_X12_mowerMows mσ1 (by first | with_reducible assumption | with_reducible rfl | omega | assumption | rfl) (fun r3 σ2 mσ2 cσ2 (pσ2_0 : (gi σ2 74 69).toInt ≤ (gi σ1 74 69).toInt + 1) hσ2 => ?_)
        replace H := f_b hσ2 H
        have fσ2 : Fr [74, 170] [69] σ0 σ2 := Fr_tr fσ1 cσ2 (by decide +kernel) (by decide +kernel)
        exact h9ret r3 σ2 mσ2 fσ2 (by first | with_reducible assumption | with_reducible rfl | omega | assumption | rfl) (H0.trans H.symm)
  have U40 := T 9
  have f0 : Fr [74, 170] [69] σ0 σ0 := Fr_rf
  have H := H0
  unfold F_X12_mowsAct at H
  refine s_X12_mowsAct_0 C hN ?_
  have hv_1 : vp_in a1 6 := vp_in_iff.mpr ⟨by omega, by omega⟩
  refine ⟨hv_1, ?_⟩
  refine ⟨?_, ?_, ?_, ?_, ?_, ?_⟩
  · intro q_2
    replace H := f_f (by omega) H
    replace H := f_f (by omega) H
    replace H := f_f (by omega) H
    replace H := f_f (by omega) H
    replace H := f_f (by omega) H
    refine kF_X12_mowerMows m0 (by first | with_reducible assumption | with_reducible rfl | omega | assumption | rfl) (fun r3 σ2 mσ2 cσ2 (pσ2_0 : (gi σ2 74 69).toInt ≤ (gi σ0 74 69).toInt + 1) hσ2 => ?_)
    replace H := f_b hσ2 H
    have fσ2 : Fr [74, 170] [69] σ0 σ2 := Fr_tr f0 cσ2 (by decide +kernel) (by decide +kernel)
    exact h9ret r3 σ2 mσ2 fσ2 (by first | with_reducible assumption | with_reducible rfl | omega | assumption | rfl) (H0.trans H.symm)
  · intro q_2
    replace H := f_t q_2 H
    exact U40 a1 a2 σ0 m0 f0 (by omega) (by omega) (by first | with_reducible assumption | with_reducible rfl | omega | assumption | rfl) H (by omega)
  · intro q_2
    replace H := f_f (by omega) H
    replace H := f_t q_2 H
    refine kF_X12_mowerMows m0 (by first | with_reducible assumption | with_reducible rfl | omega | assumption | rfl) (fun r6 σ5 mσ5 cσ5 (pσ5_0 : (gi σ5 74 69).toInt ≤ (gi σ0 74 69).toInt + 1) hσ5 => ?_)
    replace H := f_b hσ5 H
    have fσ5 : Fr [74, 170] [69] σ0 σ5 := Fr_tr f0 cσ5 (by decide +kernel) (by decide +kernel)
    exact h9ret r6 σ5 mσ5 fσ5 (by first | with_reducible assumption | with_reducible rfl | omega | assumption | rfl) (H0.trans H.symm)
  · intro q_2
    replace H := f_f (by omega) H
    replace H := f_f (by omega) H
    replace H := f_t q_2 H
    refine kF_X12_body m0 (by first | with_reducible assumption | with_reducible rfl | omega | assumption | rfl) (fun σ7 mσ7 cσ7 (pσ7_0 : (gi σ7 74 69).toInt = (gi σ0 74 69).toInt + 1) hσ7 => ?_)
    replace H := f_v hσ7 H
    have fσ7 : Fr [74, 170] [69] σ0 σ7 := Fr_tr f0 cσ7 (by decide +kernel) (by decide +kernel)
    refine kF_X12_mowerMows mσ7 (by first | with_reducible assumption | with_reducible rfl | omega | assumption | rfl) (fun r9 σ8 mσ8 cσ8 (pσ8_0 : (gi σ8 74 69).toInt ≤ (gi σ7 74 69).toInt + 1) hσ8 => ?_)
    replace H := f_b hσ8 H
    have fσ8 : Fr [74, 170] [69] σ0 σ8 := Fr_tr fσ7 cσ8 (by decide +kernel) (by decide +kernel)
    exact h9ret (-r9) σ8 mσ8 fσ8 (by first | with_reducible assumption | with_reducible rfl | omega | assumption | rfl) (H0.trans H.symm)
  · intro q_2
    replace H := f_f (by omega) H
    replace H := f_f (by omega) H
    replace H := f_f (by omega) H
    replace H := f_t q_2 H
    exact U40 a1 a2 σ0 m0 f0 (by omega) (by omega) (by first | with_reducible assumption | with_reducible rfl | omega | assumption | rfl) H (by omega)
  · intro q_2
    replace H := f_f (by omega) H
    replace H := f_f (by omega) H
    replace H := f_f (by omega) H
    replace H := f_f (by omega) H
    replace H := f_t q_2 H
    refine kF_X12_body m0 (by first | with_reducible assumption | with_reducible rfl | omega | assumption | rfl) (fun σ10 mσ10 cσ10 (pσ10_0 : (gi σ10 74 69).toInt = (gi σ0 74 69).toInt + 1) hσ10 => ?_)
    replace H := f_v hσ10 H
    have fσ10 : Fr [74, 170] [69] σ0 σ10 := Fr_tr f0 cσ10 (by decide +kernel) (by decide +kernel)
    refine kF_X12_mowerMows mσ10 (by first | with_reducible assumption | with_reducible rfl | omega | assumption | rfl) (fun r12 σ11 mσ11 cσ11 (pσ11_0 : (gi σ11 74 69).toInt ≤ (gi σ10 74 69).toInt + 1) hσ11 => ?_)
    replace H := f_b hσ11 H
    have fσ11 : Fr [74, 170] [69] σ0 σ11 := Fr_tr fσ10 cσ11 (by decide +kernel) (by decide +kernel)
    refine ⟨hv_1, ?_⟩
    exact h9ret (r12 ^^^ (gi σ11 104 a1.toNatClampNeg)) σ11 mσ11 fσ11 (by first | with_reducible assumption | with_reducible rfl | omega | assumption | rfl) (H0.trans H.symm)
noncomputable def F_X12_mowerWhets (a1 : Int32) (a2 : Int32) (σ : Sg) : Int32 × Sg := fl (F_X12_body (11 : Int32) σ) (fun σ1 => fb (F_X12_mowsAct a1 a2 σ1) (fun r3 σ2 => (r3 - (gi σ2 104 a1.toNatClampNeg), σ2)))
set_option maxRecDepth 100000 in
set_option maxHeartbeats 4000000 in
theorem kF_X12_mowerWhets {l : Launch} {V : Vx} {a1 : Int32} {a2 : Int32} {σ0 : Sg} {Qk : Int32 → Sg → Prop} (m0 : MI σ0) (l_a1 : 0 ≤ a1.toInt) (u_a1 : a1.toInt ≤ 5) (pre0 : (gi σ0 74 69).toInt ≤ 600) (h9ret : ∀ (r : Int32) (σ' : Sg), MI σ' → Fr [74, 170] [69] σ0 σ' → ((gi σ' 74 69).toInt ≤ (gi σ0 74 69).toInt + 3) → (F_X12_mowerWhets a1 a2 σ0 = (r, σ')) → Qk r σ') : K_X12_mowerWhets l V a1 a2 σ0 Qk := by
  refine e_X12_mowerWhets (fun M hl hV hN C => ?_)
  subst hl
  subst hV
  obtain ⟨R9, H0⟩ : ∃ R9, F_X12_mowerWhets a1 a2 σ0 = R9 := ⟨_, rfl⟩
  have f0 : Fr [74, 170] [69] σ0 σ0 := Fr_rf
  have H := H0
  unfold F_X12_mowerWhets at H
  refine s_X12_mowerWhets_0 C hN ?_
  refine kF_X12_body m0 (by first | with_reducible assumption | with_reducible rfl | omega | assumption | rfl) (fun σ1 mσ1 cσ1 (pσ1_0 : (gi σ1 74 69).toInt = (gi σ0 74 69).toInt + 1) hσ1 => ?_)
  replace H := f_v hσ1 H
  have fσ1 : Fr [74, 170] [69] σ0 σ1 := Fr_tr f0 cσ1 (by decide +kernel) (by decide +kernel)
  refine kF_X12_mowsAct mσ1 (by omega) (by omega) (by first | with_reducible assumption | with_reducible rfl | omega | assumption | rfl) (fun r3 σ2 mσ2 cσ2 (pσ2_0 : (gi σ2 74 69).toInt ≤ (gi σ1 74 69).toInt + 2) hσ2 => ?_)
  replace H := f_b hσ2 H
  have fσ2 : Fr [74, 170] [69] σ0 σ2 := Fr_tr fσ1 cσ2 (by decide +kernel) (by decide +kernel)
  have hv_1 : vp_in a1 6 := vp_in_iff.mpr ⟨by omega, by omega⟩
  refine ⟨hv_1, ?_⟩
  exact h9ret (r3 - (gi σ2 104 a1.toNatClampNeg)) σ2 mσ2 fσ2 (by first | with_reducible assumption | with_reducible rfl | omega | assumption | rfl) (H0.trans H.symm)
noncomputable def F_X12_steadyWhets (a1 : Int32) (a2 : Int32) (σ : Sg) : Int32 × Sg := fl (F_X12_body (20 : Int32) σ) (fun σ1 => fb (F_X12_mowerWhets a1 a2 σ1) (fun r3 σ2 => (r3 ^^^ (6 : Int32), σ2)))
set_option maxRecDepth 100000 in
set_option maxHeartbeats 4000000 in
theorem kF_X12_steadyWhets {l : Launch} {V : Vx} {a1 : Int32} {a2 : Int32} {σ0 : Sg} {Qk : Int32 → Sg → Prop} (m0 : MI σ0) (l_a1 : 0 ≤ a1.toInt) (u_a1 : a1.toInt ≤ 5) (pre0 : (gi σ0 74 69).toInt ≤ 550) (h9ret : ∀ (r : Int32) (σ' : Sg), MI σ' → Fr [74, 170] [69] σ0 σ' → ((gi σ' 74 69).toInt ≤ (gi σ0 74 69).toInt + 4) → (F_X12_steadyWhets a1 a2 σ0 = (r, σ')) → Qk r σ') : K_X12_steadyWhets l V a1 a2 σ0 Qk := by
  refine e_X12_steadyWhets (fun M hl hV hN C => ?_)
  subst hl
  subst hV
  obtain ⟨R9, H0⟩ : ∃ R9, F_X12_steadyWhets a1 a2 σ0 = R9 := ⟨_, rfl⟩
  have f0 : Fr [74, 170] [69] σ0 σ0 := Fr_rf
  have H := H0
  unfold F_X12_steadyWhets at H
  refine s_X12_steadyWhets_0 C hN ?_
  refine kF_X12_body m0 (by first | with_reducible assumption | with_reducible rfl | omega | assumption | rfl) (fun σ1 mσ1 cσ1 (pσ1_0 : (gi σ1 74 69).toInt = (gi σ0 74 69).toInt + 1) hσ1 => ?_)
  replace H := f_v hσ1 H
  have fσ1 : Fr [74, 170] [69] σ0 σ1 := Fr_tr f0 cσ1 (by decide +kernel) (by decide +kernel)
  refine kF_X12_mowerWhets mσ1 (by omega) (by omega) (by first | with_reducible assumption | with_reducible rfl | omega | assumption | rfl) (fun r3 σ2 mσ2 cσ2 (pσ2_0 : (gi σ2 74 69).toInt ≤ (gi σ1 74 69).toInt + 3) hσ2 => ?_)
  replace H := f_b hσ2 H
  have fσ2 : Fr [74, 170] [69] σ0 σ2 := Fr_tr fσ1 cσ2 (by decide +kernel) (by decide +kernel)
  exact h9ret (r3 ^^^ (6 : Int32)) σ2 mσ2 fσ2 (by first | with_reducible assumption | with_reducible rfl | omega | assumption | rfl) (H0.trans H.symm)
noncomputable def F_X12_whetsAct (a1 : Int32) (a2 : Int32) (σ : Sg) : Int32 × Sg := (if (gi σ 103 a1.toNatClampNeg).toInt = 1 then fb (F_X12_steadyWhets a1 a2 σ) (fun r6 σ5 => (r6, σ5)) else (if (gi σ 103 a1.toNatClampNeg).toInt = 4 then fl (F_X12_body (51 : Int32) σ) (fun σ7 => fb (F_X12_steadyWhets a1 (a2 + (1 : Int32)) σ7) (fun r9 σ8 => (r9, σ8))) else (if (gi σ 103 a1.toNatClampNeg).toInt = 6 then fl (F_X12_body (70 : Int32) σ) (fun σ10 => fb (F_X12_mowerWhets a1 a2 σ10) (fun r12 σ11 => fb (F_X12_mowerMows a1 (2 : Int32) σ11) (fun r14 σ13 => (r12 + r14, σ13)))) else fb (F_X12_mowerWhets a1 a2 σ) (fun r4 σ3 => (r4, σ3)))))
set_option maxRecDepth 100000 in
set_option maxHeartbeats 4000000 in
theorem kF_X12_whetsAct {l : Launch} {V : Vx} {a1 : Int32} {a2 : Int32} {σ0 : Sg} {Qk : Int32 → Sg → Prop} (m0 : MI σ0) (l_a1 : 0 ≤ a1.toInt) (u_a1 : a1.toInt ≤ 5) (pre0 : (gi σ0 74 69).toInt ≤ 500) (h9ret : ∀ (r : Int32) (σ' : Sg), MI σ' → Fr [74, 170] [69] σ0 σ' → ((gi σ' 74 69).toInt ≤ (gi σ0 74 69).toInt + 6) → (F_X12_whetsAct a1 a2 σ0 = (r, σ')) → Qk r σ') : K_X12_whetsAct l V a1 a2 σ0 Qk := by
  refine e_X12_whetsAct (fun M hl hV hN C => ?_)
  subst hl
  subst hV
  obtain ⟨R9, H0⟩ : ∃ R9, F_X12_whetsAct a1 a2 σ0 = R9 := ⟨_, rfl⟩
  have f0 : Fr [74, 170] [69] σ0 σ0 := Fr_rf
  have H := H0
  unfold F_X12_whetsAct at H
  refine s_X12_whetsAct_0 C hN ?_
  have hv_1 : vp_in a1 6 := vp_in_iff.mpr ⟨by omega, by omega⟩
  refine ⟨hv_1, ?_⟩
  refine ⟨?_, ?_, ?_, ?_⟩
  · intro q_2
    replace H := f_f (by omega) H
    replace H := f_f (by omega) H
    replace H := f_f (by omega) H
    refine kF_X12_mowerWhets m0 (by omega) (by omega) (by first | with_reducible assumption | with_reducible rfl | omega | assumption | rfl) (fun r4 σ3 mσ3 cσ3 (pσ3_0 : (gi σ3 74 69).toInt ≤ (gi σ0 74 69).toInt + 3) hσ3 => ?_)
    replace H := f_b hσ3 H
    have fσ3 : Fr [74, 170] [69] σ0 σ3 := Fr_tr f0 cσ3 (by decide +kernel) (by decide +kernel)
    exact h9ret r4 σ3 mσ3 fσ3 (by first | with_reducible assumption | with_reducible rfl | omega | assumption | rfl) (H0.trans H.symm)
  · intro q_2
    replace H := f_t q_2 H
    refine kF_X12_steadyWhets m0 (by omega) (by omega) (by first | with_reducible assumption | with_reducible rfl | omega | assumption | rfl) (fun r6 σ5 mσ5 cσ5 (pσ5_0 : (gi σ5 74 69).toInt ≤ (gi σ0 74 69).toInt + 4) hσ5 => ?_)
    replace H := f_b hσ5 H
    have fσ5 : Fr [74, 170] [69] σ0 σ5 := Fr_tr f0 cσ5 (by decide +kernel) (by decide +kernel)
    exact h9ret r6 σ5 mσ5 fσ5 (by first | with_reducible assumption | with_reducible rfl | omega | assumption | rfl) (H0.trans H.symm)
  · intro q_2
    replace H := f_f (by omega) H
    replace H := f_t q_2 H
    refine kF_X12_body m0 (by first | with_reducible assumption | with_reducible rfl | omega | assumption | rfl) (fun σ7 mσ7 cσ7 (pσ7_0 : (gi σ7 74 69).toInt = (gi σ0 74 69).toInt + 1) hσ7 => ?_)
    replace H := f_v hσ7 H
    have fσ7 : Fr [74, 170] [69] σ0 σ7 := Fr_tr f0 cσ7 (by decide +kernel) (by decide +kernel)
    refine kF_X12_steadyWhets mσ7 (by omega) (by omega) (by first | with_reducible assumption | with_reducible rfl | omega | assumption | rfl) (fun r9 σ8 mσ8 cσ8 (pσ8_0 : (gi σ8 74 69).toInt ≤ (gi σ7 74 69).toInt + 4) hσ8 => ?_)
    replace H := f_b hσ8 H
    have fσ8 : Fr [74, 170] [69] σ0 σ8 := Fr_tr fσ7 cσ8 (by decide +kernel) (by decide +kernel)
    exact h9ret r9 σ8 mσ8 fσ8 (by first | with_reducible assumption | with_reducible rfl | omega | assumption | rfl) (H0.trans H.symm)
  · intro q_2
    replace H := f_f (by omega) H
    replace H := f_f (by omega) H
    replace H := f_t q_2 H
    refine kF_X12_body m0 (by first | with_reducible assumption | with_reducible rfl | omega | assumption | rfl) (fun σ10 mσ10 cσ10 (pσ10_0 : (gi σ10 74 69).toInt = (gi σ0 74 69).toInt + 1) hσ10 => ?_)
    replace H := f_v hσ10 H
    have fσ10 : Fr [74, 170] [69] σ0 σ10 := Fr_tr f0 cσ10 (by decide +kernel) (by decide +kernel)
    refine kF_X12_mowerWhets mσ10 (by omega) (by omega) (by first | with_reducible assumption | with_reducible rfl | omega | assumption | rfl) (fun r12 σ11 mσ11 cσ11 (pσ11_0 : (gi σ11 74 69).toInt ≤ (gi σ10 74 69).toInt + 3) hσ11 => ?_)
    replace H := f_b hσ11 H
    have fσ11 : Fr [74, 170] [69] σ0 σ11 := Fr_tr fσ10 cσ11 (by decide +kernel) (by decide +kernel)
    refine kF_X12_mowerMows mσ11 (by first | with_reducible assumption | with_reducible rfl | omega | assumption | rfl) (fun r14 σ13 mσ13 cσ13 (pσ13_0 : (gi σ13 74 69).toInt ≤ (gi σ11 74 69).toInt + 1) hσ13 => ?_)
    replace H := f_b hσ13 H
    have fσ13 : Fr [74, 170] [69] σ0 σ13 := Fr_tr fσ11 cσ13 (by decide +kernel) (by decide +kernel)
    exact h9ret (r12 + r14) σ13 mσ13 fσ13 (by first | with_reducible assumption | with_reducible rfl | omega | assumption | rfl) (H0.trans H.symm)
noncomputable def F_X12_mowerTells (a1 : Int32) (a2 : Int32) (σ : Sg) : Int32 × Sg := fl (F_X12_body (12 : Int32) σ) (fun σ1 => fb (F_X12_whetsAct a1 a2 σ1) (fun r3 σ2 => (r3 * (2 : Int32), σ2)))
set_option maxRecDepth 100000 in
set_option maxHeartbeats 4000000 in
theorem kF_X12_mowerTells {l : Launch} {V : Vx} {a1 : Int32} {a2 : Int32} {σ0 : Sg} {Qk : Int32 → Sg → Prop} (m0 : MI σ0) (l_a1 : 0 ≤ a1.toInt) (u_a1 : a1.toInt ≤ 5) (pre0 : (gi σ0 74 69).toInt ≤ 450) (h9ret : ∀ (r : Int32) (σ' : Sg), MI σ' → Fr [74, 170] [69] σ0 σ' → ((gi σ' 74 69).toInt ≤ (gi σ0 74 69).toInt + 7) → (F_X12_mowerTells a1 a2 σ0 = (r, σ')) → Qk r σ') : K_X12_mowerTells l V a1 a2 σ0 Qk := by
  refine e_X12_mowerTells (fun M hl hV hN C => ?_)
  subst hl
  subst hV
  obtain ⟨R9, H0⟩ : ∃ R9, F_X12_mowerTells a1 a2 σ0 = R9 := ⟨_, rfl⟩
  have f0 : Fr [74, 170] [69] σ0 σ0 := Fr_rf
  have H := H0
  unfold F_X12_mowerTells at H
  refine s_X12_mowerTells_0 C hN ?_
  refine kF_X12_body m0 (by first | with_reducible assumption | with_reducible rfl | omega | assumption | rfl) (fun σ1 mσ1 cσ1 (pσ1_0 : (gi σ1 74 69).toInt = (gi σ0 74 69).toInt + 1) hσ1 => ?_)
  replace H := f_v hσ1 H
  have fσ1 : Fr [74, 170] [69] σ0 σ1 := Fr_tr f0 cσ1 (by decide +kernel) (by decide +kernel)
  refine kF_X12_whetsAct mσ1 (by omega) (by omega) (by first | with_reducible assumption | with_reducible rfl | omega | assumption | rfl) (fun r3 σ2 mσ2 cσ2 (pσ2_0 : (gi σ2 74 69).toInt ≤ (gi σ1 74 69).toInt + 6) hσ2 => ?_)
  replace H := f_b hσ2 H
  have fσ2 : Fr [74, 170] [69] σ0 σ2 := Fr_tr fσ1 cσ2 (by decide +kernel) (by decide +kernel)
  exact h9ret (r3 * (2 : Int32)) σ2 mσ2 fσ2 (by first | with_reducible assumption | with_reducible rfl | omega | assumption | rfl) (H0.trans H.symm)
noncomputable def LB_X12_tellsAct_36 (rec : Int32 → Int32 → Sg → Int32 × Sg) (x1 : Int32) (x2 : Int32) (σ : Sg) : Int32 × Sg := fl (F_X12_body (40 : Int32) σ) (fun σ1 => fb (F_X12_mowerTells x1 x2 σ1) (fun r3 σ2 => fb (F_X12_whetsAct x1 (1 : Int32) σ2) (fun r5 σ4 => (r3 + r5, σ4))))
noncomputable def LF_X12_tellsAct : Nat → Int32 → Int32 → Sg → Int32 × Sg
  | 0, _, _, σ => (0, σ)
  | n + 1, x1, x2, σ => LB_X12_tellsAct_36 (LF_X12_tellsAct n) x1 x2 σ
noncomputable def F_X12_tellsAct (a1 : Int32) (a2 : Int32) (σ : Sg) : Int32 × Sg := (if (gi σ 103 a1.toNatClampNeg).toInt = 3 then LF_X12_tellsAct 9 a1 a2 σ else (if (gi σ 103 a1.toNatClampNeg).toInt = 4 then fb (F_X12_mowerTells a1 a2 σ) (fun r6 σ5 => (r6, σ5)) else (if (gi σ 103 a1.toNatClampNeg).toInt = 5 then fl (F_X12_body (60 : Int32) σ) (fun σ7 => fb (F_X12_mowerTells a1 (a2 - a1) σ7) (fun r9 σ8 => (r9, σ8))) else (if (gi σ 103 a1.toNatClampNeg).toInt = 6 then LF_X12_tellsAct 9 a1 a2 σ else fb (F_X12_mowerTells a1 a2 σ) (fun r3 σ2 => (r3, σ2))))))
set_option maxRecDepth 100000 in
set_option maxHeartbeats 4000000 in
theorem kF_X12_tellsAct {l : Launch} {V : Vx} {a1 : Int32} {a2 : Int32} {σ0 : Sg} {Qk : Int32 → Sg → Prop} (m0 : MI σ0) (l_a1 : 0 ≤ a1.toInt) (u_a1 : a1.toInt ≤ 5) (pre0 : (gi σ0 74 69).toInt ≤ 400) (h9ret : ∀ (r : Int32) (σ' : Sg), MI σ' → Fr [74, 170] [69] σ0 σ' → ((gi σ' 74 69).toInt ≤ (gi σ0 74 69).toInt + 20) → (F_X12_tellsAct a1 a2 σ0 = (r, σ')) → Qk r σ') : K_X12_tellsAct l V a1 a2 σ0 Qk := by
  refine e_X12_tellsAct (fun M hl hV hN C => ?_)
  subst hl
  subst hV
  obtain ⟨R9, H0⟩ : ∃ R9, F_X12_tellsAct a1 a2 σ0 = R9 := ⟨_, rfl⟩
  have T : ∀ n : Nat, (∀ (x1 : Int32) (x2 : Int32) (σ : Sg), MI σ → Fr [74, 170] [69] σ0 σ → (0 ≤ x1.toInt) → (x1.toInt ≤ 5) → ((gi σ 74 69).toInt ≤ (gi σ0 74 69).toInt) → (LF_X12_tellsAct n x1 x2 σ = R9) → 1 < n → PS M 36 [(0, .ref 74), (1, .int x1), (2, .int x2)] [] σ (0, 0)) := by
    intro n
    induction n with
    | zero => exact fun _ _ _ _ _ _ _ _ _ h8 => absurd h8 (Nat.not_lt_zero _)
    | succ n ih =>
      have ih36 := ih
      · intro x1 x2 σ mσ fσ lx1 ux1 i0 H hmu
        replace H : LB_X12_tellsAct_36 (LF_X12_tellsAct n) x1 x2 σ = R9 := H
        unfold LB_X12_tellsAct_36 at H
        refine s_X12_tellsAct_36 C hN ?_
        refine kF_X12_body mσ (by first | with_reducible assumption | with_reducible rfl | omega | assumption | rfl) (fun σ1 mσ1 cσ1 (pσ1_0 : (gi σ1 74 69).toInt = (gi σ 74 69).toInt + 1) hσ1 => ?_)
        replace H := f_v hσ1 H
        have fσ1 : Fr [74, 170] [69] σ0 σ1 := Fr_tr fσ cσ1 (by decide +kernel) (by decide +kernel)
        refine kF_X12_mowerTells mσ1 (by omega) (by omega) (by first | with_reducible assumption | with_reducible rfl | omega | assumption | rfl) (fun r3 σ2 mσ2 cσ2 (pσ2_0 : (gi σ2 74 69).toInt ≤ (gi σ1 74 69).toInt + 7) hσ2 => ?_)
        replace H := f_b hσ2 H
        have fσ2 : Fr [74, 170] [69] σ0 σ2 := Fr_tr fσ1 cσ2 (by decide +kernel) (by decide +kernel)
        refine kF_X12_whetsAct mσ2 (by omega) (by omega) (by first | with_reducible assumption | with_reducible rfl | omega | assumption | rfl) (fun r5 σ4 mσ4 cσ4 (pσ4_0 : (gi σ4 74 69).toInt ≤ (gi σ2 74 69).toInt + 6) hσ4 => ?_)
        replace H := f_b hσ4 H
        have fσ4 : Fr [74, 170] [69] σ0 σ4 := Fr_tr fσ2 cσ4 (by decide +kernel) (by decide +kernel)
        exact h9ret (r3 + r5) σ4 mσ4 fσ4 (by first | with_reducible assumption | with_reducible rfl | omega | assumption | rfl) (H0.trans H.symm)
  have U36 := T 9
  have f0 : Fr [74, 170] [69] σ0 σ0 := Fr_rf
  have H := H0
  unfold F_X12_tellsAct at H
  refine s_X12_tellsAct_0 C hN ?_
  have hv_1 : vp_in a1 6 := vp_in_iff.mpr ⟨by omega, by omega⟩
  refine ⟨hv_1, ?_⟩
  refine ⟨?_, ?_, ?_, ?_, ?_⟩
  · intro q_2
    replace H := f_f (by omega) H
    replace H := f_f (by omega) H
    replace H := f_f (by omega) H
    replace H := f_f (by omega) H
    refine kF_X12_mowerTells m0 (by omega) (by omega) (by first | with_reducible assumption | with_reducible rfl | omega | assumption | rfl) (fun r3 σ2 mσ2 cσ2 (pσ2_0 : (gi σ2 74 69).toInt ≤ (gi σ0 74 69).toInt + 7) hσ2 => ?_)
    replace H := f_b hσ2 H
    have fσ2 : Fr [74, 170] [69] σ0 σ2 := Fr_tr f0 cσ2 (by decide +kernel) (by decide +kernel)
    exact h9ret r3 σ2 mσ2 fσ2 (by first | with_reducible assumption | with_reducible rfl | omega | assumption | rfl) (H0.trans H.symm)
  · intro q_2
    replace H := f_t q_2 H
    exact U36 a1 a2 σ0 m0 f0 (by omega) (by omega) (by first | with_reducible assumption | with_reducible rfl | omega | assumption | rfl) H (by omega)
  · intro q_2
    replace H := f_f (by omega) H
    replace H := f_t q_2 H
    refine kF_X12_mowerTells m0 (by omega) (by omega) (by first | with_reducible assumption | with_reducible rfl | omega | assumption | rfl) (fun r6 σ5 mσ5 cσ5 (pσ5_0 : (gi σ5 74 69).toInt ≤ (gi σ0 74 69).toInt + 7) hσ5 => ?_)
    replace H := f_b hσ5 H
    have fσ5 : Fr [74, 170] [69] σ0 σ5 := Fr_tr f0 cσ5 (by decide +kernel) (by decide +kernel)
    exact h9ret r6 σ5 mσ5 fσ5 (by first | with_reducible assumption | with_reducible rfl | omega | assumption | rfl) (H0.trans H.symm)
  · intro q_2
    replace H := f_f (by omega) H
    replace H := f_f (by omega) H
    replace H := f_t q_2 H
    refine kF_X12_body m0 (by first | with_reducible assumption | with_reducible rfl | omega | assumption | rfl) (fun σ7 mσ7 cσ7 (pσ7_0 : (gi σ7 74 69).toInt = (gi σ0 74 69).toInt + 1) hσ7 => ?_)
    replace H := f_v hσ7 H
    have fσ7 : Fr [74, 170] [69] σ0 σ7 := Fr_tr f0 cσ7 (by decide +kernel) (by decide +kernel)
    refine kF_X12_mowerTells mσ7 (by omega) (by omega) (by first | with_reducible assumption | with_reducible rfl | omega | assumption | rfl) (fun r9 σ8 mσ8 cσ8 (pσ8_0 : (gi σ8 74 69).toInt ≤ (gi σ7 74 69).toInt + 7) hσ8 => ?_)
    replace H := f_b hσ8 H
    have fσ8 : Fr [74, 170] [69] σ0 σ8 := Fr_tr fσ7 cσ8 (by decide +kernel) (by decide +kernel)
    exact h9ret r9 σ8 mσ8 fσ8 (by first | with_reducible assumption | with_reducible rfl | omega | assumption | rfl) (H0.trans H.symm)
  · intro q_2
    replace H := f_f (by omega) H
    replace H := f_f (by omega) H
    replace H := f_f (by omega) H
    replace H := f_t q_2 H
    exact U36 a1 a2 σ0 m0 f0 (by omega) (by omega) (by first | with_reducible assumption | with_reducible rfl | omega | assumption | rfl) H (by omega)
noncomputable def F_X12_act (a1 : Int32) (a2 : Int32) (a3 : Int32) (σ : Sg) : Int32 × Sg := fl (si σ 74 69 (0 : Int32)) (fun σ1 => fb (F_X12_isMower a1 σ1) (fun r3 σ2 => (if r3 = 0 then ((0 : Int32), σ2) else fb (F_X12_in a2 (0 : Int32) (2 : Int32) σ2) (fun r6 σ5 => (if r6 = 0 then ((0 : Int32), σ5) else (if a2 = 0 then fb (F_X12_mowsAct a1 a3 σ5) (fun r15 σ14 => (r15, σ14)) else (if a2 = (1 : Int32) then fb (F_X12_whetsAct a1 a3 σ5) (fun r13 σ12 => (r13, σ12)) else fb (F_X12_tellsAct a1 a3 σ5) (fun r11 σ10 => (r11, σ10)))))))))
set_option maxRecDepth 100000 in
set_option maxHeartbeats 4000000 in
theorem kF_X12_act {l : Launch} {V : Vx} {a1 : Int32} {a2 : Int32} {a3 : Int32} {σ0 : Sg} {Qk : Int32 → Sg → Prop} (m0 : MI σ0) (h9ret : ∀ (r : Int32) (σ' : Sg), MI σ' → Fr [74, 170] [69] σ0 σ' → (F_X12_act a1 a2 a3 σ0 = (r, σ')) → Qk r σ') : K_X12_act l V a1 a2 a3 σ0 Qk := by
  refine e_X12_act (fun M hl hV hN C => ?_)
  subst hl
  subst hV
  obtain ⟨R9, H0⟩ : ∃ R9, F_X12_act a1 a2 a3 σ0 = R9 := ⟨_, rfl⟩
  have f0 : Fr [74, 170] [69] σ0 σ0 := Fr_rf
  have H := H0
  unfold F_X12_act at H
  refine s_X12_act_0 C hN ?_
  intro σ1 eσ1
  replace H := f_l eσ1 H
  have z_1 : (0 : Int32).toInt = 0 := rfl
  have mσ1 : MI σ1 := by rw [eσ1]; exact MIs_f69 m0 (by omega) (by omega)
  have fσ1 : Fr [74, 170] [69] σ0 σ1 := by rw [eσ1]; exact Fr_si f0 (by decide +kernel) (fun _ => by decide +kernel)
  have k_2 : (gi σ1 74 69).toInt = 0 := by rw [eσ1]; exact congrArg Int32.toInt gi_si_eq
  refine kF_X12_isMower mσ1  (fun r3 σ2 mσ2 cσ2 plσ2 phσ2 (pσ2_0 : (r3.toInt = 1 ∧ 0 ≤ a1.toInt ∧ a1.toInt < (gi σ1 74 0).toInt) ∨ (r3.toInt = 0 ∧ (a1.toInt < 0 ∨ (gi σ1 74 0).toInt ≤ a1.toInt))) hσ2 => ?_)
  obtain rfl := Fr_nil cσ2
  replace H := f_b hσ2 H
  have t_3 := MI_f0 mσ1
  refine ⟨?_, ?_⟩
  · intro q_4
    replace H := f_t q_4 H
    have b_5 : r3.toInt = 0 := congrArg Int32.toInt q_4
    exact h9ret (0 : Int32) σ1 mσ1 fσ1 (H0.trans H.symm)
  · intro q_4
    replace H := f_f q_4 H
    have b_6 : ¬ r3.toInt = 0 := fun h9 => q_4 (Int32.toInt_inj.mp h9)
    refine kF_X12_in mσ1  (fun r6 σ5 mσ5 cσ5 plσ5 phσ5 (pσ5_0 : (r6.toInt = 1 ∧ (0 : Int) ≤ a2.toInt ∧ a2.toInt ≤ (2 : Int)) ∨ (r6.toInt = 0 ∧ (a2.toInt < (0 : Int) ∨ (2 : Int) < a2.toInt))) hσ5 => ?_)
    obtain rfl := Fr_nil cσ5
    replace H := f_b hσ5 H
    refine ⟨?_, ?_⟩
    · intro q_7
      replace H := f_f q_7 H
      have b_8 : ¬ r6.toInt = 0 := fun h9 => q_7 (Int32.toInt_inj.mp h9)
      refine ⟨?_, ?_⟩
      · intro q_9
        replace H := f_f q_9 H
        have w_10 := Int32.toInt_lt a2
        have w_11 := Int32.le_toInt a2
        have b_12 : ¬ a2.toInt = 0 := fun h9 => q_9 (Int32.toInt_inj.mp h9)
        refine ⟨?_, ?_⟩
        · intro q_13
          replace H := f_f q_13 H
          have b_14 : ¬ a2.toInt = 1 := fun h9 => q_13 (Int32.toInt_inj.mp h9)
          refine kF_X12_tellsAct mσ1 (by omega) (by omega) (by first | with_reducible assumption | with_reducible rfl | omega | assumption | rfl) (fun r11 σ10 mσ10 cσ10 (pσ10_0 : (gi σ10 74 69).toInt ≤ (gi σ1 74 69).toInt + 20) hσ10 => ?_)
          replace H := f_b hσ10 H
          have fσ10 : Fr [74, 170] [69] σ0 σ10 := Fr_tr fσ1 cσ10 (by decide +kernel) (by decide +kernel)
          have k_15 : (gi σ10 74 0).toInt = (gi σ1 74 0).toInt := congrArg Int32.toInt (cσ10.2.1 0 (by decide +kernel))
          exact h9ret r11 σ10 mσ10 fσ10 (H0.trans H.symm)
        · intro q_13
          replace H := f_t q_13 H
          have b_16 : a2.toInt = 1 := congrArg Int32.toInt q_13
          refine kF_X12_whetsAct mσ1 (by omega) (by omega) (by first | with_reducible assumption | with_reducible rfl | omega | assumption | rfl) (fun r13 σ12 mσ12 cσ12 (pσ12_0 : (gi σ12 74 69).toInt ≤ (gi σ1 74 69).toInt + 6) hσ12 => ?_)
          replace H := f_b hσ12 H
          have fσ12 : Fr [74, 170] [69] σ0 σ12 := Fr_tr fσ1 cσ12 (by decide +kernel) (by decide +kernel)
          have k_17 : (gi σ12 74 0).toInt = (gi σ1 74 0).toInt := congrArg Int32.toInt (cσ12.2.1 0 (by decide +kernel))
          exact h9ret r13 σ12 mσ12 fσ12 (H0.trans H.symm)
      · intro q_9
        replace H := f_t q_9 H
        have w_18 := Int32.toInt_lt a2
        have w_19 := Int32.le_toInt a2
        have b_20 : a2.toInt = 0 := congrArg Int32.toInt q_9
        refine kF_X12_mowsAct mσ1 (by omega) (by omega) (by first | with_reducible assumption | with_reducible rfl | omega | assumption | rfl) (fun r15 σ14 mσ14 cσ14 (pσ14_0 : (gi σ14 74 69).toInt ≤ (gi σ1 74 69).toInt + 2) hσ14 => ?_)
        replace H := f_b hσ14 H
        have fσ14 : Fr [74, 170] [69] σ0 σ14 := Fr_tr fσ1 cσ14 (by decide +kernel) (by decide +kernel)
        have k_21 : (gi σ14 74 0).toInt = (gi σ1 74 0).toInt := congrArg Int32.toInt (cσ14.2.1 0 (by decide +kernel))
        exact h9ret r15 σ14 mσ14 fσ14 (H0.trans H.symm)
    · intro q_7
      replace H := f_t q_7 H
      have b_22 : r6.toInt = 0 := congrArg Int32.toInt q_7
      exact h9ret (0 : Int32) σ1 mσ1 fσ1 (H0.trans H.symm)
noncomputable def LB_X12_taken_51 (rec : Nat → Int32 → Int32 → Sg → Int32 × Sg) (x2 : Int32) (x3 : Int32) (σ : Sg) : Int32 × Sg := (if x2 = (2 : Int32) then (if x3 = (5 : Int32) then (x3, σ) else rec 1 x2 x3 σ) else rec 1 x2 x3 σ)
noncomputable def LB_X12_taken_61 (rec : Nat → Int32 → Int32 → Sg → Int32 × Sg) (x2 : Int32) (x3 : Int32) (σ : Sg) : Int32 × Sg := (if x2 = (3 : Int32) then (if x3 = (6 : Int32) then (x3, σ) else ((-12 : Int32), σ)) else ((-12 : Int32), σ))
noncomputable def LF_X12_taken : Nat → Nat → Int32 → Int32 → Sg → Int32 × Sg
  | 0, _, _, _, σ => (0, σ)
  | n + 1, 0, x2, x3, σ => LB_X12_taken_51 (LF_X12_taken n) x2 x3 σ
  | n + 1, 1, x2, x3, σ => LB_X12_taken_61 (LF_X12_taken n) x2 x3 σ
  | _ + 1, _ + 2, _, _, σ => (0, σ)
noncomputable def F_X12_taken (a1 : Int32) (a2 : Int32) (σ : Sg) : Int32 × Sg := fb (F_X12_in a2 (0 : Int32) (6 : Int32) σ) (fun r2 σ1 => (if r2 = 0 then ((-2 : Int32), σ1) else fb (F_X12_isMower a1 σ1) (fun r5 σ4 => (if r5 = 0 then ((-11 : Int32), σ4) else fl (gi σ4 103 a1.toNatClampNeg) (fun v8 => (if a2 = 0 then (v8, σ4) else (if v8 = a2 then (v8, σ4) else (if a2 = (1 : Int32) then (if v8 = (4 : Int32) then (v8, σ4) else LF_X12_taken 9 0 a2 v8 σ4) else LF_X12_taken 9 0 a2 v8 σ4))))))))
set_option maxRecDepth 100000 in
set_option maxHeartbeats 4000000 in
theorem kF_X12_taken {l : Launch} {V : Vx} {a1 : Int32} {a2 : Int32} {σ0 : Sg} {Qk : Int32 → Sg → Prop} (m0 : MI σ0) (h9ret : ∀ (r : Int32) (σ' : Sg), MI σ' → Fr [] [] σ0 σ' → (F_X12_taken a1 a2 σ0 = (r, σ')) → Qk r σ') : K_X12_taken l V a1 a2 σ0 Qk := by
  refine e_X12_taken (fun M hl hV hN C => ?_)
  subst hl
  subst hV
  obtain ⟨R9, H0⟩ : ∃ R9, F_X12_taken a1 a2 σ0 = R9 := ⟨_, rfl⟩
  have T : ∀ n : Nat, (∀ (x2 : Int32) (x3 : Int32) (σ : Sg), MI σ → Fr [] [] σ0 σ → (LF_X12_taken n 0 x2 x3 σ = R9) → 2 < n → PS M 51 [(2, .int x2), (3, .int x3)] [] σ (0, 0)) ∧ (∀ (x2 : Int32) (x3 : Int32) (σ : Sg), MI σ → Fr [] [] σ0 σ → (LF_X12_taken n 1 x2 x3 σ = R9) → 1 < n → PS M 61 [(2, .int x2), (3, .int x3)] [] σ (0, 0)) := by
    intro n
    induction n with
    | zero => exact ⟨fun _ _ _ _ _ _ h8 => absurd h8 (Nat.not_lt_zero _), fun _ _ _ _ _ _ h8 => absurd h8 (Nat.not_lt_zero _)⟩
    | succ n ih =>
      obtain ⟨ih51, ih61⟩ := ih
      refine ⟨?_, ?_⟩
      · intro x2 x3 σ mσ fσ H hmu
        replace H : LB_X12_taken_51 (LF_X12_taken n) x2 x3 σ = R9 := H
        unfold LB_X12_taken_51 at H
        refine s_X12_taken_51 C hN ?_
        refine ⟨?_, ?_⟩
        · intro q_1
          replace H := f_f q_1 H
          have w_2 := Int32.toInt_lt x2
          have w_3 := Int32.le_toInt x2
          have b_4 : ¬ x2.toInt = 2 := fun h9 => q_1 (Int32.toInt_inj.mp h9)
          exact ih61 x2 x3 σ mσ fσ H (by omega)
        · intro q_1
          replace H := f_t q_1 H
          have w_5 := Int32.toInt_lt x2
          have w_6 := Int32.le_toInt x2
          have b_7 : x2.toInt = 2 := congrArg Int32.toInt q_1
          refine ⟨?_, ?_⟩
          · intro q_8
            replace H := f_t q_8 H
            have w_9 := Int32.toInt_lt x3
            have w_10 := Int32.le_toInt x3
            have b_11 : x3.toInt = 5 := congrArg Int32.toInt q_8
            exact h9ret x3 σ mσ fσ (H0.trans H.symm)
          · intro q_8
            replace H := f_f q_8 H
            have w_12 := Int32.toInt_lt x3
            have w_13 := Int32.le_toInt x3
            have b_14 : ¬ x3.toInt = 5 := fun h9 => q_8 (Int32.toInt_inj.mp h9)
            exact ih61 x2 x3 σ mσ fσ H (by omega)
      · intro x2 x3 σ mσ fσ H hmu
        replace H : LB_X12_taken_61 (LF_X12_taken n) x2 x3 σ = R9 := H
        unfold LB_X12_taken_61 at H
        refine s_X12_taken_61 C hN ?_
        refine ⟨?_, ?_⟩
        · intro q_15
          replace H := f_f q_15 H
          have w_16 := Int32.toInt_lt x2
          have w_17 := Int32.le_toInt x2
          have b_18 : ¬ x2.toInt = 3 := fun h9 => q_15 (Int32.toInt_inj.mp h9)
          have z_19 : (-12 : Int32).toInt = -12 := rfl
          exact h9ret (-12 : Int32) σ mσ fσ (H0.trans H.symm)
        · intro q_15
          replace H := f_t q_15 H
          have w_20 := Int32.toInt_lt x2
          have w_21 := Int32.le_toInt x2
          have b_22 : x2.toInt = 3 := congrArg Int32.toInt q_15
          refine ⟨?_, ?_⟩
          · intro q_23
            replace H := f_f q_23 H
            have w_24 := Int32.toInt_lt x3
            have w_25 := Int32.le_toInt x3
            have b_26 : ¬ x3.toInt = 6 := fun h9 => q_23 (Int32.toInt_inj.mp h9)
            have z_27 : (-12 : Int32).toInt = -12 := rfl
            exact h9ret (-12 : Int32) σ mσ fσ (H0.trans H.symm)
          · intro q_23
            replace H := f_t q_23 H
            have w_28 := Int32.toInt_lt x3
            have w_29 := Int32.le_toInt x3
            have b_30 : x3.toInt = 6 := congrArg Int32.toInt q_23
            exact h9ret x3 σ mσ fσ (H0.trans H.symm)
  obtain ⟨U51, U61⟩ := T 9
  have f0 : Fr [] [] σ0 σ0 := Fr_rf
  have H := H0
  unfold F_X12_taken at H
  refine s_X12_taken_0 C hN ?_
  refine kF_X12_in m0  (fun r2 σ1 mσ1 cσ1 plσ1 phσ1 (pσ1_0 : (r2.toInt = 1 ∧ (0 : Int) ≤ a2.toInt ∧ a2.toInt ≤ (6 : Int)) ∨ (r2.toInt = 0 ∧ (a2.toInt < (0 : Int) ∨ (6 : Int) < a2.toInt))) hσ1 => ?_)
  obtain rfl := Fr_nil cσ1
  replace H := f_b hσ1 H
  refine ⟨?_, ?_⟩
  · intro q_31
    replace H := f_f q_31 H
    have b_32 : ¬ r2.toInt = 0 := fun h9 => q_31 (Int32.toInt_inj.mp h9)
    refine kF_X12_isMower m0  (fun r5 σ4 mσ4 cσ4 plσ4 phσ4 (pσ4_0 : (r5.toInt = 1 ∧ 0 ≤ a1.toInt ∧ a1.toInt < (gi σ0 74 0).toInt) ∨ (r5.toInt = 0 ∧ (a1.toInt < 0 ∨ (gi σ0 74 0).toInt ≤ a1.toInt))) hσ4 => ?_)
    obtain rfl := Fr_nil cσ4
    replace H := f_b hσ4 H
    have t_33 := MI_f0 m0
    refine ⟨?_, ?_⟩
    · intro q_34
      replace H := f_f q_34 H
      have b_35 : ¬ r5.toInt = 0 := fun h9 => q_34 (Int32.toInt_inj.mp h9)
      have w_36 := Int32.toInt_lt a1
      have w_37 := Int32.le_toInt a1
      have hv_38 : vp_in a1 6 := vp_in_iff.mpr ⟨by omega, by omega⟩
      refine ⟨hv_38, ?_⟩
      intro v8 ev8
      replace H := f_l ev8 H
      refine ⟨?_, ?_⟩
      · intro q_39
        replace H := f_t q_39 H
        have w_40 := Int32.toInt_lt a2
        have w_41 := Int32.le_toInt a2
        have b_42 : a2.toInt = 0 := congrArg Int32.toInt q_39
        exact h9ret v8 σ0 m0 f0 (H0.trans H.symm)
      · intro q_39
        replace H := f_f q_39 H
        have w_43 := Int32.toInt_lt a2
        have w_44 := Int32.le_toInt a2
        have b_45 : ¬ a2.toInt = 0 := fun h9 => q_39 (Int32.toInt_inj.mp h9)
        refine ⟨?_, ?_⟩
        · intro q_46
          replace H := f_t q_46 H
          have w_47 := Int32.toInt_lt v8
          have w_48 := Int32.le_toInt v8
          have b_49 : v8.toInt = a2.toInt := congrArg Int32.toInt q_46
          exact h9ret v8 σ0 m0 f0 (H0.trans H.symm)
        · intro q_46
          replace H := f_f q_46 H
          have w_50 := Int32.toInt_lt v8
          have w_51 := Int32.le_toInt v8
          have b_52 : ¬ v8.toInt = a2.toInt := fun h9 => q_46 (Int32.toInt_inj.mp h9)
          refine ⟨?_, ?_⟩
          · intro q_53
            replace H := f_f q_53 H
            have b_54 : ¬ a2.toInt = 1 := fun h9 => q_53 (Int32.toInt_inj.mp h9)
            exact U51 a2 v8 σ0 m0 f0 H (by omega)
          · intro q_53
            replace H := f_t q_53 H
            have b_55 : a2.toInt = 1 := congrArg Int32.toInt q_53
            refine ⟨?_, ?_⟩
            · intro q_56
              replace H := f_t q_56 H
              have b_57 : v8.toInt = 4 := congrArg Int32.toInt q_56
              exact h9ret v8 σ0 m0 f0 (H0.trans H.symm)
            · intro q_56
              replace H := f_f q_56 H
              have b_58 : ¬ v8.toInt = 4 := fun h9 => q_56 (Int32.toInt_inj.mp h9)
              exact U51 a2 v8 σ0 m0 f0 H (by omega)
    · intro q_34
      replace H := f_t q_34 H
      have b_59 : r5.toInt = 0 := congrArg Int32.toInt q_34
      have z_60 : (-11 : Int32).toInt = -11 := rfl
      exact h9ret (-11 : Int32) σ0 m0 f0 (H0.trans H.symm)
  · intro q_31
    replace H := f_t q_31 H
    have b_61 : r2.toInt = 0 := congrArg Int32.toInt q_31
    have z_62 : (-2 : Int32).toInt = -2 := rfl
    exact h9ret (-2 : Int32) σ0 m0 f0 (H0.trans H.symm)
noncomputable def LB_X12_placeOf_2 (rec : Int32 → Int32 → Sg → Int32 × Sg) (x1 : Int32) (x2 : Int32) (σ : Sg) : Int32 × Sg := (if (gi σ 110 x2.toNatClampNeg) = x1 then (x2, σ) else fl (x2 + 1) (fun v3 => rec x1 v3 σ))
noncomputable def LF_X12_placeOf : Nat → Int32 → Int32 → Sg → Int32 × Sg
  | 0, _, _, σ => (0, σ)
  | n + 1, x1, x2, σ => LB_X12_placeOf_2 (LF_X12_placeOf n) x1 x2 σ
noncomputable def F_X12_placeOf (a1 : Int32) (σ : Sg) : Int32 × Sg := LF_X12_placeOf 9 a1 (0 : Int32) σ
set_option maxRecDepth 100000 in
set_option maxHeartbeats 4000000 in
theorem kF_X12_placeOf {l : Launch} {V : Vx} {a1 : Int32} {σ0 : Sg} {Qk : Int32 → Sg → Prop} (m0 : MI σ0) (l_a1 : 0 ≤ a1.toInt) (u_a1 : a1.toInt ≤ 5) (pre0 : PL σ0) (pre1 : a1.toInt < (gi σ0 74 0).toInt) (h9ret : ∀ (r : Int32) (σ' : Sg), MI σ' → Fr [] [] σ0 σ' → (0 ≤ r.toInt) → (r.toInt ≤ 5) → (r.toInt < (gi σ0 74 0).toInt) → (gi σ0 110 r.toNatClampNeg = a1) → (F_X12_placeOf a1 σ0 = (r, σ')) → Qk r σ') : K_X12_placeOf l V a1 σ0 Qk := by
  refine e_X12_placeOf (fun M hl hV hN C => ?_)
  subst hl
  subst hV
  obtain ⟨R9, H0⟩ : ∃ R9, F_X12_placeOf a1 σ0 = R9 := ⟨_, rfl⟩
  obtain ⟨k0, hk0, ek0⟩ := PL_i pre0 l_a1 pre1
  have T : ∀ n : Nat, (∀ (x1 : Int32) (x2 : Int32) (σ : Sg), MI σ → Fr [] [] σ0 σ → (0 ≤ x1.toInt) → (x1.toInt ≤ 5) → (0 ≤ x2.toInt) → (x2.toInt ≤ 5) → (x1 = a1) → (x2.toInt ≤ k0) → (LF_X12_placeOf n x1 x2 σ = R9) → (7 - x2.toInt).toNat < n → PS M 2 [(0, .ref 74), (1, .int x1), (2, .int x2)] [] σ (0, 0)) := by
    intro n
    induction n with
    | zero => exact fun _ _ _ _ _ _ _ _ _ _ _ _ h8 => absurd h8 (Nat.not_lt_zero _)
    | succ n ih =>
      have ih2 := ih
      · intro x1 x2 σ mσ fσ lx1 ux1 lx2 ux2 i0 i1 H hmu
        replace H : LB_X12_placeOf_2 (LF_X12_placeOf n) x1 x2 σ = R9 := H
        unfold LB_X12_placeOf_2 at H
        have mw := MI_f0 mσ
        have kw : (gi σ 74 0).toInt = (gi σ0 74 0).toInt := congrArg Int32.toInt (fσ.2.1 0 (by decide +kernel))
        have g1 : gi σ 110 k0 = a1 := by rw [show gi σ 110 k0 = gi σ0 110 k0 from congrFun (fσ.1 110 (by decide +kernel)).1 _]; exact ek0
        have e110 : ∀ j, gi σ 110 j = gi σ0 110 j := fun j => congrFun (fσ.1 110 (by decide +kernel)).1 j
        refine s_X12_placeOf_2 C hN ?_
        have hv_1 : vp_in x2 6 := vp_in_iff.mpr ⟨by omega, by omega⟩
        refine ⟨hv_1, ?_⟩
        refine ⟨?_, ?_⟩
        · intro q_2
          replace H := f_t q_2 H
          have t_3 := MI_a110 mσ hv_1
          have b_4 : (gi σ 110 x2.toNatClampNeg).toInt = x1.toInt := congrArg Int32.toInt q_2
          have q9 : gi σ0 110 x2.toNatClampNeg = a1 := by rw [← e110, ← i0]; exact q_2
          exact h9ret x2 σ mσ fσ (by omega) (by omega) (by first | with_reducible assumption | with_reducible rfl | omega | assumption | rfl) (by first | assumption | (rw [← i0]; assumption)) (H0.trans H.symm)
        · intro q_2
          replace H := f_f q_2 H
          have t_5 := MI_a110 mσ hv_1
          have b_6 : ¬ (gi σ 110 x2.toNatClampNeg).toInt = x1.toInt := fun h9 => q_2 (Int32.toInt_inj.mp h9)
          have nk : ¬ x2.toInt = k0 := fun h9 => q_2 (by rw [show x2.toNatClampNeg = k0 from by have := cl_eq (x := x2) (by omega); omega, g1, i0])
          intro v3 ev3
          replace H := f_l ev3 H
          have t_7 : (x2 + (1 : Int32)).toInt = x2.toInt + 1 := i_add (x := x2) (y := (1 : Int32)) (by show (_ : Int) ≤ x2.toInt + 1; omega) (by show x2.toInt + 1 ≤ (_ : Int); omega)
          have t_8 : v3.toInt = (x2 + (1 : Int32)).toInt := congrArg Int32.toInt ev3
          exact ih2 x1 v3 σ mσ fσ (by omega) (by omega) (by omega) (by omega) (by first | with_reducible assumption | with_reducible rfl | omega | assumption | rfl) (by first | with_reducible assumption | with_reducible rfl | omega | assumption | rfl) H (by omega)
  have U2 := T 9
  have f0 : Fr [] [] σ0 σ0 := Fr_rf
  have H := H0
  unfold F_X12_placeOf at H
  refine s_X12_placeOf_0 C hN ?_
  have z_9 : (0 : Int32).toInt = 0 := rfl
  exact U2 a1 (0 : Int32) σ0 m0 f0 (by omega) (by omega) (by omega) (by omega) (by first | with_reducible assumption | with_reducible rfl | omega | assumption | rfl) (by first | with_reducible assumption | with_reducible rfl | omega | assumption | rfl) H (by omega)
noncomputable def LB_X12_place_34 (rec : Nat → Int32 → Int32 → Int32 → Int32 → Sg → Int32 × Sg) (x1 : Int32) (x2 : Int32) (x3 : Int32) (x4 : Int32) (σ : Sg) : Int32 × Sg := (if x2 ≤ x4 then rec 1 x1 x2 x3 x3 σ else fl (si σ 110 x4.toNatClampNeg (gi σ 110 (x4 + (1 : Int32)).toNatClampNeg)) (fun σ4 => fl (x4 + 1) (fun v5 => rec 0 x1 x2 x3 v5 σ4)))
noncomputable def LB_X12_place_65 (rec : Nat → Int32 → Int32 → Int32 → Int32 → Sg → Int32 × Sg) (x1 : Int32) (x2 : Int32) (x3 : Int32) (x4 : Int32) (σ : Sg) : Int32 × Sg := (if x4 ≤ x2 then fl (si σ 110 x2.toNatClampNeg x1) (fun σ3 => (x3, σ3)) else fl (si σ 110 x4.toNatClampNeg (gi σ 110 (x4 - (1 : Int32)).toNatClampNeg)) (fun σ6 => fl (x4 - 1) (fun v7 => rec 1 x1 x2 x3 v7 σ6)))
noncomputable def LF_X12_place : Nat → Nat → Int32 → Int32 → Int32 → Int32 → Sg → Int32 × Sg
  | 0, _, _, _, _, _, σ => (0, σ)
  | n + 1, 0, x1, x2, x3, x4, σ => LB_X12_place_34 (LF_X12_place n) x1 x2 x3 x4 σ
  | n + 1, 1, x1, x2, x3, x4, σ => LB_X12_place_65 (LF_X12_place n) x1 x2 x3 x4 σ
  | _ + 1, _ + 2, _, _, _, _, σ => (0, σ)
noncomputable def F_X12_place (a1 : Int32) (a2 : Int32) (σ : Sg) : Int32 × Sg := fb (F_X12_isMower a1 σ) (fun r2 σ1 => (if r2 = 0 then ((-1 : Int32), σ1) else fb (F_X12_in a2 (0 : Int32) ((gi σ1 74 0) - (1 : Int32)) σ1) (fun r5 σ4 => (if r5 = 0 then ((-1 : Int32), σ4) else fb (F_X12_placeOf a1 σ4) (fun r8 σ7 => LF_X12_place 60 0 a1 a2 r8 r8 σ7)))))
set_option maxRecDepth 100000 in
set_option maxHeartbeats 4000000 in
theorem kF_X12_place {l : Launch} {V : Vx} {a1 : Int32} {a2 : Int32} {σ0 : Sg} {Qk : Int32 → Sg → Prop} (m0 : MI σ0) (pre0 : PL σ0) (h9ret : ∀ (r : Int32) (σ' : Sg), MI σ' → Fr [110] [] σ0 σ' → (PL σ') → (F_X12_place a1 a2 σ0 = (r, σ')) → Qk r σ') : K_X12_place l V a1 a2 σ0 Qk := by
  refine e_X12_place (fun M hl hV hN C => ?_)
  subst hl
  subst hV
  obtain ⟨R9, H0⟩ : ∃ R9, F_X12_place a1 a2 σ0 = R9 := ⟨_, rfl⟩
  have T : ∀ n : Nat, (∀ (x1 : Int32) (x2 : Int32) (x3 : Int32) (x4 : Int32) (σ : Sg), MI σ → Fr [110] [] σ0 σ → (0 ≤ x1.toInt) → (x1.toInt ≤ 5) → (0 ≤ x2.toInt) → (x2.toInt ≤ 5) → (0 ≤ x3.toInt) → (x3.toInt ≤ 5) → (0 ≤ x4.toInt) → (x4.toInt ≤ 5) → (x1.toInt < (gi σ 74 0).toInt) → (x2.toInt < (gi σ 74 0).toInt) → (x3.toInt ≤ x4.toInt) → (x4.toInt < (gi σ 74 0).toInt) → (x4.toInt ≤ x2.toInt ∨ x4.toInt = x3.toInt) → (HL σ x1 x4.toNatClampNeg) → (LF_X12_place n 0 x1 x2 x3 x4 σ = R9) → (7 - x4.toInt).toNat + 20 < n → PS M 34 [(0, .ref 74), (1, .int x1), (2, .int x2), (3, .int x3), (4, .int x4)] [] σ (0, 0)) ∧ (∀ (x1 : Int32) (x2 : Int32) (x3 : Int32) (x4 : Int32) (σ : Sg), MI σ → Fr [110] [] σ0 σ → (0 ≤ x1.toInt) → (x1.toInt ≤ 5) → (0 ≤ x2.toInt) → (x2.toInt ≤ 5) → (0 ≤ x4.toInt) → (x4.toInt ≤ 5) → (x1.toInt < (gi σ 74 0).toInt) → (x2.toInt < (gi σ 74 0).toInt) → (x4.toInt < (gi σ 74 0).toInt) → (HZ σ x1 x2 x4) → (LF_X12_place n 1 x1 x2 x3 x4 σ = R9) → x4.toInt.toNat < n → PS M 65 [(0, .ref 74), (1, .int x1), (2, .int x2), (3, .int x3), (4, .int x4)] [] σ (0, 0)) := by
    intro n
    induction n with
    | zero => exact ⟨fun _ _ _ _ _ _ _ _ _ _ _ _ _ _ _ _ _ _ _ _ _ _ h8 => absurd h8 (Nat.not_lt_zero _), fun _ _ _ _ _ _ _ _ _ _ _ _ _ _ _ _ _ _ h8 => absurd h8 (Nat.not_lt_zero _)⟩
    | succ n ih =>
      obtain ⟨ih34, ih65⟩ := ih
      refine ⟨?_, ?_⟩
      · intro x1 x2 x3 x4 σ mσ fσ lx1 ux1 lx2 ux2 lx3 ux3 lx4 ux4 i0 i1 i2 i3 i4 i5 H hmu
        replace H : LB_X12_place_34 (LF_X12_place n) x1 x2 x3 x4 σ = R9 := H
        unfold LB_X12_place_34 at H
        refine s_X12_place_34 C hN ?_
        refine ⟨?_, ?_⟩
        · intro q_1
          replace H := f_t q_1 H
          have b_2 : x2.toInt ≤ x4.toInt := Int32.le_iff_toInt_le.mp q_1
          exact ih65 x1 x2 x3 x3 σ mσ fσ (by omega) (by omega) (by omega) (by omega) (by omega) (by omega) (by first | with_reducible assumption | with_reducible rfl | omega | assumption | rfl) (by first | with_reducible assumption | with_reducible rfl | omega | assumption | rfl) (by first | with_reducible assumption | with_reducible rfl | omega | assumption | rfl) (by first | exact ⟨fun z => HL_tn (by omega) i5, fun z => HL_tn (by omega) i5⟩ | (rw [eσ6]; exact (fun h9 => ⟨fun z => HL_tn (by omega) h9, fun _ => h9⟩) (HL_step (h' := v7.toNatClampNeg) (i3.2 (by omega)) (by rw [ev7]) (by have := cl_eq (x := x4) (by omega); have := cl_eq (x := v7) (by omega); omega) (by have := cl_eq (x := x4) (by omega); omega)))) H (by omega)
        · intro q_1
          replace H := f_f q_1 H
          have b_3 : ¬ x2.toInt ≤ x4.toInt := fun h9 => q_1 (Int32.le_iff_toInt_le.mpr h9)
          have t_4 : (x4 + (1 : Int32)).toInt = x4.toInt + 1 := i_add (x := x4) (y := (1 : Int32)) (by show (_ : Int) ≤ x4.toInt + 1; omega) (by show x4.toInt + 1 ≤ (_ : Int); omega)
          have hv_5 : vp_in (x4 + (1 : Int32)) 6 := vp_in_iff.mpr ⟨by omega, by omega⟩
          refine ⟨hv_5, ?_⟩
          have hv_6 : vp_in x4 6 := vp_in_iff.mpr ⟨by omega, by omega⟩
          refine ⟨hv_6, ?_⟩
          intro σ4 eσ4
          replace H := f_l eσ4 H
          have t_7 := MI_a110 mσ hv_5
          have mσ4 : MI σ4 := by rw [eσ4]; exact MIs_a110 mσ (by omega) (by omega)
          have fσ4 : Fr [110] [] σ0 σ4 := by rw [eσ4]; exact Fr_si fσ (by decide +kernel) (fun h9 => absurd h9 (by decide +kernel))
          have k_8 : (gi σ4 74 0).toInt = (gi σ 74 0).toInt := gk_l eσ4 rfl
          intro v5 ev5
          replace H := f_l ev5 H
          have t_9 : v5.toInt = (x4 + (1 : Int32)).toInt := congrArg Int32.toInt ev5
          exact ih34 x1 x2 x3 v5 σ4 mσ4 fσ4 (by omega) (by omega) (by omega) (by omega) (by omega) (by omega) (by omega) (by omega) (by first | with_reducible assumption | with_reducible rfl | omega | assumption | rfl) (by first | with_reducible assumption | with_reducible rfl | omega | assumption | rfl) (by first | with_reducible assumption | with_reducible rfl | omega | assumption | rfl) (by first | with_reducible assumption | with_reducible rfl | omega | assumption | rfl) (by first | with_reducible assumption | with_reducible rfl | omega | assumption | rfl) (by first | exact HL_start pre0 pσ7_1 | (rw [eσ4]; exact HL_step i5 (by rw [ev5]) (by have := cl_eq (x := x4) (by omega); have := cl_eq (x := v5) (by omega); omega) (by have := cl_eq (x := x4) (by omega); omega))) H (by omega)
      · intro x1 x2 x3 x4 σ mσ fσ lx1 ux1 lx2 ux2 lx4 ux4 i0 i1 i2 i3 H hmu
        replace H : LB_X12_place_65 (LF_X12_place n) x1 x2 x3 x4 σ = R9 := H
        unfold LB_X12_place_65 at H
        refine s_X12_place_65 C hN ?_
        refine ⟨?_, ?_⟩
        · intro q_10
          replace H := f_t q_10 H
          have b_11 : x4.toInt ≤ x2.toInt := Int32.le_iff_toInt_le.mp q_10
          have hv_12 : vp_in x2 6 := vp_in_iff.mpr ⟨by omega, by omega⟩
          refine ⟨hv_12, ?_⟩
          intro σ3 eσ3
          replace H := f_l eσ3 H
          have mσ3 : MI σ3 := by rw [eσ3]; exact MIs_a110 mσ (by omega) (by omega)
          have fσ3 : Fr [110] [] σ0 σ3 := by rw [eσ3]; exact Fr_si fσ (by decide +kernel) (fun h9 => absurd h9 (by decide +kernel))
          have k_13 : (gi σ3 74 0).toInt = (gi σ 74 0).toInt := gk_l eσ3 rfl
          exact h9ret x3 σ3 mσ3 fσ3 (by first | assumption | (rw [eσ3]; exact PL_end (i3.1 (by omega)) (by have := cl_eq (x := x2) (by omega); omega))) (H0.trans H.symm)
        · intro q_10
          replace H := f_f q_10 H
          have b_14 : ¬ x4.toInt ≤ x2.toInt := fun h9 => q_10 (Int32.le_iff_toInt_le.mpr h9)
          have t_15 : (x4 - (1 : Int32)).toInt = x4.toInt - 1 := i_sub (x := x4) (y := (1 : Int32)) (by show (_ : Int) ≤ x4.toInt - 1; omega) (by show x4.toInt - 1 ≤ (_ : Int); omega)
          have hv_16 : vp_in (x4 - (1 : Int32)) 6 := vp_in_iff.mpr ⟨by omega, by omega⟩
          refine ⟨hv_16, ?_⟩
          have hv_17 : vp_in x4 6 := vp_in_iff.mpr ⟨by omega, by omega⟩
          refine ⟨hv_17, ?_⟩
          intro σ6 eσ6
          replace H := f_l eσ6 H
          have t_18 := MI_a110 mσ hv_16
          have mσ6 : MI σ6 := by rw [eσ6]; exact MIs_a110 mσ (by omega) (by omega)
          have fσ6 : Fr [110] [] σ0 σ6 := by rw [eσ6]; exact Fr_si fσ (by decide +kernel) (fun h9 => absurd h9 (by decide +kernel))
          have k_19 : (gi σ6 74 0).toInt = (gi σ 74 0).toInt := gk_l eσ6 rfl
          intro v7 ev7
          replace H := f_l ev7 H
          have t_20 : v7.toInt = (x4 - (1 : Int32)).toInt := congrArg Int32.toInt ev7
          exact ih65 x1 x2 x3 v7 σ6 mσ6 fσ6 (by omega) (by omega) (by omega) (by omega) (by omega) (by omega) (by first | with_reducible assumption | with_reducible rfl | omega | assumption | rfl) (by first | with_reducible assumption | with_reducible rfl | omega | assumption | rfl) (by first | with_reducible assumption | with_reducible rfl | omega | assumption | rfl) (by first | exact ⟨fun z => HL_tn (by omega) i5, fun z => HL_tn (by omega) i5⟩ | (rw [eσ6]; exact (fun h9 => ⟨fun z => HL_tn (by omega) h9, fun _ => h9⟩) (HL_step (h' := v7.toNatClampNeg) (i3.2 (by omega)) (by rw [ev7]) (by have := cl_eq (x := x4) (by omega); have := cl_eq (x := v7) (by omega); omega) (by have := cl_eq (x := x4) (by omega); omega)))) H (by omega)
  obtain ⟨U34, U65⟩ := T 60
  have f0 : Fr [110] [] σ0 σ0 := Fr_rf
  have mw := MI_f0 m0
  have H := H0
  unfold F_X12_place at H
  refine s_X12_place_0 C hN ?_
  refine kF_X12_isMower m0  (fun r2 σ1 mσ1 cσ1 plσ1 phσ1 (pσ1_0 : (r2.toInt = 1 ∧ 0 ≤ a1.toInt ∧ a1.toInt < (gi σ0 74 0).toInt) ∨ (r2.toInt = 0 ∧ (a1.toInt < 0 ∨ (gi σ0 74 0).toInt ≤ a1.toInt))) hσ1 => ?_)
  obtain rfl := Fr_nil cσ1
  replace H := f_b hσ1 H
  have t_21 := MI_f0 m0
  refine ⟨?_, ?_⟩
  · intro q_22
    replace H := f_t q_22 H
    have b_23 : r2.toInt = 0 := congrArg Int32.toInt q_22
    have z_24 : (-1 : Int32).toInt = -1 := rfl
    exact h9ret (-1 : Int32) σ0 m0 f0 (by first | assumption | (rw [eσ3]; exact PL_end (i3.1 (by omega)) (by have := cl_eq (x := x2) (by omega); omega))) (H0.trans H.symm)
  · intro q_22
    replace H := f_f q_22 H
    have b_25 : ¬ r2.toInt = 0 := fun h9 => q_22 (Int32.toInt_inj.mp h9)
    have t_26 : ((gi σ0 74 0) - (1 : Int32)).toInt = (gi σ0 74 0).toInt - 1 := i_sub (x := (gi σ0 74 0)) (y := (1 : Int32)) (by show (_ : Int) ≤ (gi σ0 74 0).toInt - 1; omega) (by show (gi σ0 74 0).toInt - 1 ≤ (_ : Int); omega)
    refine kF_X12_in m0  (fun r5 σ4 mσ4 cσ4 plσ4 phσ4 (pσ4_0 : (r5.toInt = 1 ∧ (0 : Int) ≤ a2.toInt ∧ a2.toInt ≤ ((gi σ0 74 0) - (1 : Int32)).toInt) ∨ (r5.toInt = 0 ∧ (a2.toInt < (0 : Int) ∨ ((gi σ0 74 0) - (1 : Int32)).toInt < a2.toInt))) hσ4 => ?_)
    obtain rfl := Fr_nil cσ4
    replace H := f_b hσ4 H
    refine ⟨?_, ?_⟩
    · intro q_27
      replace H := f_f q_27 H
      have b_28 : ¬ r5.toInt = 0 := fun h9 => q_27 (Int32.toInt_inj.mp h9)
      refine kF_X12_placeOf m0 (by omega) (by omega) (by first | with_reducible assumption | with_reducible rfl | omega | assumption | rfl) (by first | with_reducible assumption | with_reducible rfl | omega | assumption | rfl) (fun r8 σ7 mσ7 cσ7 plσ7 phσ7 (pσ7_0 : r8.toInt < (gi σ0 74 0).toInt) (pσ7_1 : gi σ0 110 r8.toNatClampNeg = a1) hσ7 => ?_)
      obtain rfl := Fr_nil cσ7
      replace H := f_b hσ7 H
      exact U34 a1 a2 r8 r8 σ0 m0 f0 (by omega) (by omega) (by omega) (by omega) (by omega) (by omega) (by omega) (by omega) (by first | with_reducible assumption | with_reducible rfl | omega | assumption | rfl) (by first | with_reducible assumption | with_reducible rfl | omega | assumption | rfl) (by first | with_reducible assumption | with_reducible rfl | omega | assumption | rfl) (by first | with_reducible assumption | with_reducible rfl | omega | assumption | rfl) (by first | with_reducible assumption | with_reducible rfl | omega | assumption | rfl) (by first | exact HL_start pre0 pσ7_1 | (rw [eσ4]; exact HL_step i5 (by rw [ev5]) (by have := cl_eq (x := x4) (by omega); have := cl_eq (x := v5) (by omega); omega) (by have := cl_eq (x := x4) (by omega); omega))) H (by omega)
    · intro q_27
      replace H := f_t q_27 H
      have b_29 : r5.toInt = 0 := congrArg Int32.toInt q_27
      have z_30 : (-1 : Int32).toInt = -1 := rfl
      exact h9ret (-1 : Int32) σ0 m0 f0 (by first | assumption | (rw [eσ3]; exact PL_end (i3.1 (by omega)) (by have := cl_eq (x := x2) (by omega); omega))) (H0.trans H.symm)
/-! acts: the bodies that run, what they answer -/
noncomputable def mowV (κ : Nat) (i v x : Int32) : Int32 := if κ = 2 ∨ κ = 5 then x * (3 : Int32) + i else if κ = 4 then -(x + i) else if κ = 6 then (x + i) ^^^ v else x + i
noncomputable def mowB (κ : Nat) : List Int32 := if κ = 2 ∨ κ = 5 then [30, 10] else if κ = 4 then [50, 10] else if κ = 6 then [71, 10] else [10]
noncomputable def whetV (κ : Nat) (i v x : Int32) : Int32 := if κ = 1 then (mowV κ i v x - v) ^^^ (6 : Int32) else if κ = 4 then (mowV κ i v (x + (1 : Int32)) - v) ^^^ (6 : Int32) else if κ = 6 then (mowV κ i v x - v) + ((2 : Int32) + i) else mowV κ i v x - v
noncomputable def whetB (κ : Nat) : List Int32 := if κ = 1 then 20 :: 11 :: mowB κ else if κ = 4 then 51 :: 20 :: 11 :: mowB κ else if κ = 6 then 70 :: 11 :: (mowB κ ++ [10]) else 11 :: mowB κ
noncomputable def tellV (κ : Nat) (i v x : Int32) : Int32 := if κ = 3 ∨ κ = 6 then whetV κ i v x * (2 : Int32) + whetV κ i v 1 else if κ = 5 then whetV κ i v (x - i) * (2 : Int32) else whetV κ i v x * (2 : Int32)
noncomputable def tellB (κ : Nat) : List Int32 := if κ = 3 ∨ κ = 6 then 40 :: 12 :: (whetB κ ++ whetB κ) else if κ = 5 then 60 :: 12 :: whetB κ else 12 :: whetB κ
noncomputable def cls (κ : Nat) : Nat := if κ = 0 then 4 else if κ = 1 then 8 else if κ = 2 then 3 else if κ = 3 then 0 else if κ = 4 then 6 else if κ = 5 then 7 else 10
noncomputable def trX (bs : List Int32) (σ : Sg) : Sg := bs.foldl (fun s b => F_X5_comes 64 b s) σ
noncomputable def trM (bs : List Int32) (σ : Sg) : Sg := bs.foldl (fun s b => F_X12_body b s) σ
theorem trX_app {a b : List Int32} {σ : Sg} : trX (a ++ b) σ = trX b (trX a σ) := List.foldl_append
theorem trM_app {a b : List Int32} {σ : Sg} : trM (a ++ b) σ = trM b (trM a σ) := List.foldl_append
theorem trX_c {b : Int32} {bs : List Int32} {σ : Sg} : trX (b :: bs) σ = trX bs (F_X5_comes 64 b σ) := Eq.trans rfl rfl
theorem trM_c {b : Int32} {bs : List Int32} {σ : Sg} : trM (b :: bs) σ = trM bs (F_X12_body b σ) := Eq.trans rfl rfl
theorem trX_n {σ : Sg} : trX [] σ = σ := Eq.trans rfl rfl
theorem trM_n {σ : Sg} : trM [] σ = σ := Eq.trans rfl rfl
theorem gi_comes64 {b : Int32} {σ : Sg} {a k : Nat} (h1 : a ≠ 64) (h2 : a ≠ 65) : gi (F_X5_comes 64 b σ) a k = gi σ a k := by
  unfold F_X5_comes
  simp only [fl_mk]
  split
  · rw [gi_si_ne (Or.inl h1)]
  · rw [gi_si_ne (Or.inl h1), gi_si_ne (Or.inl (by omega))]
theorem gi_body {b : Int32} {σ : Sg} {a k : Nat} (h1 : a ≠ 74) (h2 : a ≠ 170) : gi (F_X12_body b σ) a k = gi σ a k := by
  unfold F_X12_body
  simp only [fl_mk]
  split
  · rw [gi_si_ne (Or.inl h1)]
  · rw [gi_si_ne (Or.inl h1), gi_si_ne (Or.inl h2)]
theorem gi_trX {bs : List Int32} {σ : Sg} {a k : Nat} (h1 : a ≠ 64) (h2 : a ≠ 65) : gi (trX bs σ) a k = gi σ a k := by
  induction bs generalizing σ with
  | nil => rfl
  | cons b bs ih => rw [trX_c, ih, gi_comes64 h1 h2]
theorem gi_trM {bs : List Int32} {σ : Sg} {a k : Nat} (h1 : a ≠ 74) (h2 : a ≠ 170) : gi (trM bs σ) a k = gi σ a k := by
  induction bs generalizing σ with
  | nil => rfl
  | cons b bs ih => rw [trM_c, ih, gi_body h1 h2]
/-- what ran: the class's row in one state, the model's in another -/
noncomputable def TP (σ τ : Sg) : Prop := gi σ 64 1 = gi τ 74 69 ∧ ∀ k : Nat, k < 20 → gi σ 65 k = gi τ 170 k
theorem TP_b {σ τ : Sg} {b : Int32} (h : TP σ τ) (h0 : 0 ≤ (gi τ 74 69).toInt) : TP (F_X5_comes 64 b σ) (F_X12_body b τ) := by
  obtain ⟨h1, h2⟩ := h
  have e20 : Int32.ofNat (nl 64) = (20 : Int32) := by decide +kernel
  unfold F_X5_comes F_X12_body TP
  simp only [fl_mk]
  rw [e20, h1]
  by_cases c : (20 : Int32) ≤ gi τ 74 69
  · rw [if_pos c, if_pos c]
    refine ⟨by rw [gi_si_eq, gi_si_eq], fun k hk => ?_⟩
    rw [gi_si_ne (Or.inl (by decide +kernel)), gi_si_ne (Or.inl (by decide +kernel))]
    exact h2 k hk
  · rw [if_neg c, if_neg c]
    refine ⟨by rw [gi_si_eq, gi_si_eq, gi_si_ne (Or.inl (by decide +kernel)), gi_si_ne (Or.inl (by decide +kernel)), h1], fun k hk => ?_⟩
    have l1 : ∀ n v, gi (si (si σ (64 + 1) n b) 64 1 v) 65 k = if k = n then b else gi σ 65 k := fun n v => by
      rw [gi_si_ne (Or.inl (by decide +kernel)), gi_si]; simp
    have l2 : ∀ n v, gi (si (si τ 170 n b) 74 69 v) 170 k = if k = n then b else gi τ 170 k := fun n v => by
      rw [gi_si_ne (Or.inl (by decide +kernel)), gi_si]; simp
    rw [l1, l2]
    by_cases e : k = (gi τ 74 69).toNatClampNeg
    · rw [if_pos e, if_pos e]
    · rw [if_neg e, if_neg e]
      exact h2 k hk
theorem body_n {b : Int32} {τ : Sg} (h : 0 ≤ (gi τ 74 69).toInt) (h2 : (gi τ 74 69).toInt ≤ 2000) : (gi (F_X12_body b τ) 74 69).toInt = (gi τ 74 69).toInt + 1 := by
  have e : ((gi τ 74 69) + (1 : Int32)).toInt = (gi τ 74 69).toInt + 1 := i_add (y := (1 : Int32)) (by show (_ : Int) ≤ (gi τ 74 69).toInt + 1; omega) (by show (gi τ 74 69).toInt + 1 ≤ (_ : Int); omega)
  unfold F_X12_body
  simp only [fl_mk]
  split
  · rw [gi_si_eq]; exact e
  · rw [gi_si_eq, gi_si_ne (Or.inl (by decide +kernel))]; exact e
theorem TP_tr {bs : List Int32} {σ τ : Sg} (h : TP σ τ) (h0 : 0 ≤ (gi τ 74 69).toInt) (h1 : (gi τ 74 69).toInt + bs.length ≤ 2000) : TP (trX bs σ) (trM bs τ) := by
  induction bs generalizing σ τ with
  | nil => exact h
  | cons b bs ih =>
    rw [trX_c, trM_c]
    have hl : ((b :: bs).length : Int) = (bs.length : Int) + 1 := by simp
    have hn := body_n (b := b) h0 (by omega)
    exact ih (TP_b h h0) (by omega) (by omega)
section Acts
variable {μ κ : Nat} {x : Int32} {σ : Sg}
theorem X_mow (hk : kd μ = (10 + cls κ, 0)) (hκ : κ < 7) (hμ : 2000 ≤ μ) : F_KD_mowing (cls κ) μ x 64 σ = (mowV κ (gi σ μ 1) (gi σ μ 2) x, trX (mowB κ) σ) := by
  have e : ∀ b s k, gi (F_X5_comes 64 b s) μ k = gi s μ k := fun b s k => gi_comes64 (by omega) (by omega)
  have h : κ = 0 ∨ κ = 1 ∨ κ = 2 ∨ κ = 3 ∨ κ = 4 ∨ κ = 5 ∨ κ = 6 := by omega
  rcases h with rfl | rfl | rfl | rfl | rfl | rfl | rfl <;> simp [F_KD_mowing, cls, F_X4_mowing, F_X3_mowing, F_X6_mowing, F_X10_mowing, fl_mk, fb, mowV, mowB, trX, e]
theorem X_mwhet (hk : kd μ = (10 + cls κ, 0)) (hκ : κ < 7) (hμ : 2000 ≤ μ) : F_X4_whetting μ x 64 σ = (mowV κ (gi σ μ 1) (gi σ μ 2) x - gi σ μ 2, trX (11 :: mowB κ) σ) := by
  unfold F_X4_whetting
  rw [fl_mk, hk, show (10 + cls κ, 0).1 - 10 = cls κ from Nat.add_sub_cancel_left _ _, X_mow hk hκ hμ, fb_mk, gi_trX (by omega) (by omega), gi_comes64 (by omega) (by omega), gi_comes64 (by omega) (by omega)]
  rfl
theorem X_whet (hk : kd μ = (10 + cls κ, 0)) (hκ : κ < 7) (hμ : 2000 ≤ μ) : F_KD_whetting (cls κ) μ x 64 σ = (whetV κ (gi σ μ 1) (gi σ μ 2) x, trX (whetB κ) σ) := by
  have e : ∀ b s k, gi (F_X5_comes 64 b s) μ k = gi s μ k := fun b s k => gi_comes64 (by omega) (by omega)
  have e2 : ∀ bs s k, gi (trX bs s) μ k = gi s μ k := fun b s k => gi_trX (by omega) (by omega)
  have w : ∀ y s, F_X4_whetting μ y 64 s = (mowV κ (gi s μ 1) (gi s μ 2) y - gi s μ 2, trX (11 :: mowB κ) s) := fun y s => X_mwhet hk hκ hμ
  have h : κ = 0 ∨ κ = 1 ∨ κ = 2 ∨ κ = 3 ∨ κ = 4 ∨ κ = 5 ∨ κ = 6 := by omega
  rcases h with rfl | rfl | rfl | rfl | rfl | rfl | rfl
  · rw [show F_KD_whetting (cls _) μ x 64 σ = F_X4_whetting μ x 64 σ by simp [F_KD_whetting, cls]]; rw [w]; simp [whetV, whetB, trX_c, trX_app, trX_n]
  · rw [show F_KD_whetting (cls _) μ x 64 σ = F_X8_whetting μ x 64 σ by simp [F_KD_whetting, cls]]; unfold F_X8_whetting; rw [fl_mk, w, fb_mk, e, e]; simp [whetV, whetB, trX_c, trX_app, trX_n]
  · rw [show F_KD_whetting (cls _) μ x 64 σ = F_X4_whetting μ x 64 σ by simp [F_KD_whetting, cls]]; rw [w]; simp [whetV, whetB, trX_c, trX_app, trX_n]
  · rw [show F_KD_whetting (cls _) μ x 64 σ = F_X4_whetting μ x 64 σ by simp [F_KD_whetting, cls]]; rw [w]; simp [whetV, whetB, trX_c, trX_app, trX_n]
  · rw [show F_KD_whetting (cls _) μ x 64 σ = F_X6_whetting μ x 64 σ by simp [F_KD_whetting, cls]]; unfold F_X6_whetting F_X8_whetting; rw [fl_mk, fl_mk, w, fb_mk, fb_mk, e, e, e, e]; simp [whetV, whetB, trX_c, trX_app, trX_n]
  · rw [show F_KD_whetting (cls _) μ x 64 σ = F_X4_whetting μ x 64 σ by simp [F_KD_whetting, cls]]; rw [w]; simp [whetV, whetB, trX_c, trX_app, trX_n]
  · rw [show F_KD_whetting (cls _) μ x 64 σ = F_X10_whetting μ x 64 σ by simp [F_KD_whetting, cls]]; unfold F_X10_whetting F_X4_mowing; rw [fl_mk, w, fb_mk, fl_mk, fb_mk, e, e, e, e2, e]; simp [whetV, whetB, trX_c, trX_app, trX_n]
theorem X_mtell (hk : kd μ = (10 + cls κ, 0)) (hκ : κ < 7) (hμ : 2000 ≤ μ) : F_X4_telling μ x 64 σ = (whetV κ (gi σ μ 1) (gi σ μ 2) x * (2 : Int32), trX (12 :: whetB κ) σ) := by
  unfold F_X4_telling
  rw [fl_mk, hk, show (10 + cls κ, 0).1 - 10 = cls κ from Nat.add_sub_cancel_left _ _, X_whet hk hκ hμ, fb_mk, gi_comes64 (by omega) (by omega), gi_comes64 (by omega) (by omega)]
  rfl
theorem X_tell (hk : kd μ = (10 + cls κ, 0)) (hκ : κ < 7) (hμ : 2000 ≤ μ) : F_KD_telling (cls κ) μ x 64 σ = (tellV κ (gi σ μ 1) (gi σ μ 2) x, trX (tellB κ) σ) := by
  have e : ∀ b s k, gi (F_X5_comes 64 b s) μ k = gi s μ k := fun b s k => gi_comes64 (by omega) (by omega)
  have e2 : ∀ bs s k, gi (trX bs s) μ k = gi s μ k := fun b s k => gi_trX (by omega) (by omega)
  have w : ∀ y s, F_X4_telling μ y 64 s = (whetV κ (gi s μ 1) (gi s μ 2) y * (2 : Int32), trX (12 :: whetB κ) s) := fun y s => X_mtell hk hκ hμ
  have v : ∀ y s, F_KD_whetting ((kd μ).1 - 10) μ y 64 s = (whetV κ (gi s μ 1) (gi s μ 2) y, trX (whetB κ) s) := fun y s => by
    rw [hk, show (10 + cls κ, 0).1 - 10 = cls κ from Nat.add_sub_cancel_left _ _]; exact X_whet hk hκ hμ
  have h : κ = 0 ∨ κ = 1 ∨ κ = 2 ∨ κ = 3 ∨ κ = 4 ∨ κ = 5 ∨ κ = 6 := by omega
  rcases h with rfl | rfl | rfl | rfl | rfl | rfl | rfl
  · rw [show F_KD_telling (cls _) μ x 64 σ = F_X4_telling μ x 64 σ by simp [F_KD_telling, cls]]; rw [w]; simp [tellV, tellB, trX_c]
  · rw [show F_KD_telling (cls _) μ x 64 σ = F_X4_telling μ x 64 σ by simp [F_KD_telling, cls]]; rw [w]; simp [tellV, tellB, trX_c]
  · rw [show F_KD_telling (cls _) μ x 64 σ = F_X4_telling μ x 64 σ by simp [F_KD_telling, cls]]; rw [w]; simp [tellV, tellB, trX_c]
  · rw [show F_KD_telling (cls _) μ x 64 σ = F_X0_telling μ x 64 σ by simp [F_KD_telling, cls]]; unfold F_X0_telling; rw [fl_mk, w, fb_mk, v, fb_mk, e, e, e2, e2, e, e]; simp [tellV, tellB, trX_c, trX_app, trX_n]
  · rw [show F_KD_telling (cls _) μ x 64 σ = F_X4_telling μ x 64 σ by simp [F_KD_telling, cls]]; rw [w]; simp [tellV, tellB, trX_c]
  · rw [show F_KD_telling (cls _) μ x 64 σ = F_X7_telling μ x 64 σ by simp [F_KD_telling, cls]]; unfold F_X7_telling; rw [fl_mk, w, fb_mk, e, e]; simp [tellV, tellB, trX_c]
  · rw [show F_KD_telling (cls _) μ x 64 σ = F_X0_telling μ x 64 σ by simp [F_KD_telling, cls]]; unfold F_X0_telling; rw [fl_mk, w, fb_mk, v, fb_mk, e, e, e2, e2, e, e]; simp [tellV, tellB, trX_c, trX_app, trX_n]
end Acts
section ActsM
variable {a : Int32} {κ : Nat} {x : Int32} {τ : Sg}
theorem M_mow (hk : (gi τ 103 a.toNatClampNeg).toInt = (κ : Int)) (hκ : κ < 7) : F_X12_mowsAct a x τ = (mowV κ a (gi τ 104 a.toNatClampNeg) x, trM (mowB κ) τ) := by
  have e : ∀ b s k, gi (F_X12_body b s) 104 k = gi s 104 k := fun b s k => gi_body (by decide +kernel) (by decide +kernel)
  have l : ∀ y s, LF_X12_mowsAct 9 a y s = LB_X12_mowsAct_40 (LF_X12_mowsAct 8) a y s := fun y s => rfl
  have h : κ = 0 ∨ κ = 1 ∨ κ = 2 ∨ κ = 3 ∨ κ = 4 ∨ κ = 5 ∨ κ = 6 := by omega
  unfold F_X12_mowsAct
  rw [hk, l]
  rcases h with rfl | rfl | rfl | rfl | rfl | rfl | rfl <;> simp [F_X12_mowerMows, LB_X12_mowsAct_40, fl_mk, fb, mowV, mowB, trM, e]
theorem M_mwhet (hk : (gi τ 103 a.toNatClampNeg).toInt = (κ : Int)) (hκ : κ < 7) : F_X12_mowerWhets a x τ = (mowV κ a (gi τ 104 a.toNatClampNeg) x - gi τ 104 a.toNatClampNeg, trM (11 :: mowB κ) τ) := by
  unfold F_X12_mowerWhets
  rw [fl_mk, M_mow (by rw [gi_body (by decide +kernel) (by decide +kernel)]; exact hk) hκ, fb_mk, gi_trM (by decide +kernel) (by decide +kernel), gi_body (by decide +kernel) (by decide +kernel)]
  rfl
theorem M_whet (hk : (gi τ 103 a.toNatClampNeg).toInt = (κ : Int)) (hκ : κ < 7) : F_X12_whetsAct a x τ = (whetV κ a (gi τ 104 a.toNatClampNeg) x, trM (whetB κ) τ) := by
  have e : ∀ b s k, gi (F_X12_body b s) 104 k = gi s 104 k := fun b s k => gi_body (by decide +kernel) (by decide +kernel)
  have e3 : ∀ b s k, gi (F_X12_body b s) 103 k = gi s 103 k := fun b s k => gi_body (by decide +kernel) (by decide +kernel)
  have h : κ = 0 ∨ κ = 1 ∨ κ = 2 ∨ κ = 3 ∨ κ = 4 ∨ κ = 5 ∨ κ = 6 := by omega
  have w : ∀ y s, gi s 103 a.toNatClampNeg = gi τ 103 a.toNatClampNeg → F_X12_mowerWhets a y s = (mowV κ a (gi s 104 a.toNatClampNeg) y - gi s 104 a.toNatClampNeg, trM (11 :: mowB κ) s) := fun y s q => M_mwhet (by rw [q]; exact hk) hκ
  unfold F_X12_whetsAct F_X12_steadyWhets F_X12_mowerMows
  rw [hk]
  simp only [fl_mk]
  rw [w _ _ rfl, w _ (F_X12_body (20 : Int32) τ) (e3 _ _ _), w _ (F_X12_body (20 : Int32) (F_X12_body (51 : Int32) τ)) (by rw [e3, e3]), w _ (F_X12_body (70 : Int32) τ) (e3 _ _ _)]
  simp only [fb_mk, e]
  rcases h with rfl | rfl | rfl | rfl | rfl | rfl | rfl
  all_goals simp [whetV, whetB, trM_c, trM_app, trM_n]
theorem M_mtell (hk : (gi τ 103 a.toNatClampNeg).toInt = (κ : Int)) (hκ : κ < 7) : F_X12_mowerTells a x τ = (whetV κ a (gi τ 104 a.toNatClampNeg) x * (2 : Int32), trM (12 :: whetB κ) τ) := by
  unfold F_X12_mowerTells
  rw [fl_mk, M_whet (by rw [gi_body (by decide +kernel) (by decide +kernel)]; exact hk) hκ, fb_mk, gi_body (by decide +kernel) (by decide +kernel)]
  rfl
end ActsM
theorem M_tell {a : Int32} {κ : Nat} {x : Int32} {τ : Sg} (hk : (gi τ 103 a.toNatClampNeg).toInt = (κ : Int)) (hκ : κ < 7) : F_X12_tellsAct a x τ = (tellV κ a (gi τ 104 a.toNatClampNeg) x, trM (tellB κ) τ) := by
  have e : ∀ b s k, gi (F_X12_body b s) 104 k = gi s 104 k := fun b s k => gi_body (by decide +kernel) (by decide +kernel)
  have e3 : ∀ b s k, gi (F_X12_body b s) 103 k = gi s 103 k := fun b s k => gi_body (by decide +kernel) (by decide +kernel)
  have e2 : ∀ bs s k, gi (trM bs s) 104 k = gi s 104 k := fun b s k => gi_trM (by decide +kernel) (by decide +kernel)
  have e4 : ∀ bs s k, gi (trM bs s) 103 k = gi s 103 k := fun b s k => gi_trM (by decide +kernel) (by decide +kernel)
  have l : ∀ y s, LF_X12_tellsAct 9 a y s = LB_X12_tellsAct_36 (LF_X12_tellsAct 8) a y s := fun y s => rfl
  have w : ∀ y s, gi s 103 a.toNatClampNeg = gi τ 103 a.toNatClampNeg → F_X12_mowerTells a y s = (whetV κ a (gi s 104 a.toNatClampNeg) y * (2 : Int32), trM (12 :: whetB κ) s) := fun y s q => M_mtell (by rw [q]; exact hk) hκ
  have v : ∀ y s, gi s 103 a.toNatClampNeg = gi τ 103 a.toNatClampNeg → F_X12_whetsAct a y s = (whetV κ a (gi s 104 a.toNatClampNeg) y, trM (whetB κ) s) := fun y s q => M_whet (by rw [q]; exact hk) hκ
  have h : κ = 0 ∨ κ = 1 ∨ κ = 2 ∨ κ = 3 ∨ κ = 4 ∨ κ = 5 ∨ κ = 6 := by omega
  unfold F_X12_tellsAct
  rw [hk, l]
  unfold LB_X12_tellsAct_36
  simp only [fl_mk]
  rw [w _ τ rfl, w _ (F_X12_body (60 : Int32) τ) (e3 _ _ _), w _ (F_X12_body (40 : Int32) τ) (e3 _ _ _)]
  simp only [fb_mk]
  rw [v _ (trM (12 :: whetB κ) (F_X12_body (40 : Int32) τ)) (by rw [e4, e3])]
  simp only [fb_mk, e, e2]
  rcases h with rfl | rfl | rfl | rfl | rfl | rfl | rfl
  all_goals simp [tellV, tellB, trM_c, trM_app, trM_n]
/-- the mowers of a course: what the class's objects say, the model's numbers say -/
noncomputable def RK (σ : Sg) (c cn a b : Nat) : Prop := ∀ m : Nat, (m : Int) < (gi σ cn 1).toInt → ∃ μ κ : Nat, gr σ c m = some μ ∧ κ < 7 ∧ 2000 ≤ μ ∧ kd μ = (10 + cls κ, 0) ∧ (gi σ a m).toInt = (κ : Int) ∧ (gi σ μ 0).toInt = (κ : Int) ∧ (gi σ μ 1).toInt = (m : Int) ∧ gi σ μ 2 = gi σ b m
theorem F_isMower {a1 : Int32} {σ : Sg} : F_X11_isMower a1 σ = (if 0 ≤ a1.toInt ∧ a1.toInt < (gi σ 1 1).toInt then (1 : Int32) else 0, σ) := by
  unfold F_X11_isMower
  by_cases c1 : a1.toInt < 0
  · rw [if_pos (i_lt0 c1), if_neg (by omega)]
  rw [if_neg (i_nlt0 (by omega))]
  by_cases c2 : (gi σ 1 1).toInt ≤ a1.toInt
  · rw [if_pos (i_le c2), if_neg (by omega)]
  · rw [if_neg (i_nle (by omega)), if_pos (by omega)]
theorem F_misMower {a1 : Int32} {σ : Sg} (h0 : 0 ≤ (gi σ 74 0).toInt) : F_X12_isMower a1 σ = (if 0 ≤ a1.toInt ∧ a1.toInt < (gi σ 74 0).toInt then (1 : Int32) else 0, σ) := by
  unfold F_X12_isMower
  have e : ((gi σ 74 0) - (1 : Int32)).toInt = (gi σ 74 0).toInt - 1 := i_sub (y := (1 : Int32)) (by show (_ : Int) ≤ (gi σ 74 0).toInt - 1; omega) (by show (gi σ 74 0).toInt - 1 ≤ (_ : Int); have := Int32.toInt_lt (gi σ 74 0); omega)
  have z : (0 : Int32).toInt = 0 := rfl
  rw [F_in, fb_mk, e, z]
  by_cases c : 0 ≤ a1.toInt ∧ a1.toInt < (gi σ 74 0).toInt
  · rw [if_pos c, if_pos (by omega)]
  · rw [if_neg c, if_neg (by omega)]
theorem fm_mk {β : Type} {o : Option Nat} {a ci z : Nat} {A : β} {f : Nat → Nat → β} (e : o = some a) (hk : kd a = (10 + ci, z)) : fm o A f = f a ci := (f_m e hk rfl).symm
theorem N_xact {a1 a2 a3 : Int32} {σ : Sg} (hR : RK σ 2 1 103 104) : ∀ m κ μ : Nat, (0 ≤ a1.toInt ∧ a1.toInt < (gi σ 1 1).toInt) → a1.toNatClampNeg = m → gr σ 2 m = some μ → κ < 7 → 2000 ≤ μ → kd μ = (10 + cls κ, 0) → F_X11_act a1 a2 a3 σ = (if a2.toInt = 0 then (mowV κ (gi σ μ 1) (gi σ μ 2) a3, trX (mowB κ) (si σ 64 1 0)) else if a2.toInt = 1 then (whetV κ (gi σ μ 1) (gi σ μ 2) a3, trX (whetB κ) (si σ 64 1 0)) else if a2.toInt = 2 then (tellV κ (gi σ μ 1) (gi σ μ 2) a3, trX (tellB κ) (si σ 64 1 0)) else ((0 : Int32), si σ 64 1 0)) := by
  intro m κ μ hc hm hg hκ hμ hk
  have e : ∀ k, gi (si σ 64 1 0) μ k = gi σ μ k := fun k => gi_si_ne (Or.inl (by omega))
  unfold F_X11_act
  rw [fl_mk, F_isMower, fb_mk, ite_10, gi_si_ne (Or.inl (by decide +kernel)), if_pos hc, gr_si, hm, fm_mk hg hk, X_mow hk hκ hμ, X_whet hk hκ hμ, X_tell hk hκ hμ]
  simp only [fb_mk, e]
theorem N_mact {a1 a2 a3 : Int32} {τ : Sg} {κ : Nat} (h0 : 0 ≤ (gi τ 74 0).toInt) (hc : 0 ≤ a1.toInt ∧ a1.toInt < (gi τ 74 0).toInt) (hκ : κ < 7) (hk : (gi τ 103 a1.toNatClampNeg).toInt = (κ : Int)) : F_X12_act a1 a2 a3 τ = (if a2.toInt = 0 then (mowV κ a1 (gi τ 104 a1.toNatClampNeg) a3, trM (mowB κ) (si τ 74 69 0)) else if a2.toInt = 1 then (whetV κ a1 (gi τ 104 a1.toNatClampNeg) a3, trM (whetB κ) (si τ 74 69 0)) else if a2.toInt = 2 then (tellV κ a1 (gi τ 104 a1.toNatClampNeg) a3, trM (tellB κ) (si τ 74 69 0)) else ((0 : Int32), si τ 74 69 0)) := by
  have e : ∀ k, gi (si τ 74 69 0) 104 k = gi τ 104 k := fun k => gi_si_ne (Or.inl (by decide +kernel))
  have e3 : ∀ k, gi (si τ 74 69 0) 103 k = gi τ 103 k := fun k => gi_si_ne (Or.inl (by decide +kernel))
  have e0 : gi (si τ 74 69 0) 74 0 = gi τ 74 0 := gi_si_ne (Or.inr (by decide +kernel))
  unfold F_X12_act
  rw [fl_mk, F_misMower (by rw [e0]; exact h0), fb_mk, ite_10, e0, if_pos hc, F_in, fb_mk, ite_10, M_mow (by rw [e3]; exact hk) hκ, M_whet (by rw [e3]; exact hk) hκ, M_tell (by rw [e3]; exact hk) hκ]
  simp only [fb_mk, e]
  have z0 : (0 : Int32).toInt = 0 := rfl
  have z2 : (2 : Int32).toInt = 2 := rfl
  by_cases c0 : a2.toInt = 0
  · rw [if_pos (by omega), if_pos (i_eq (b := (0 : Int32)) c0), if_pos c0]
  rw [if_neg c0]
  by_cases c1 : a2.toInt = 1
  · rw [if_pos (by omega), if_neg (i_ne (b := (0 : Int32)) c0), if_pos (i_eq (b := (1 : Int32)) c1), if_pos c1]
  rw [if_neg c1]
  by_cases c2 : a2.toInt = 2
  · rw [if_pos (by omega), if_neg (i_ne (b := (0 : Int32)) c0), if_neg (i_ne (b := (1 : Int32)) c1), if_pos c2]
  · rw [if_neg (by omega), if_neg c2]
theorem bs_len (κ : Nat) (h : κ < 7) : (mowB κ).length ≤ 100 ∧ (whetB κ).length ≤ 100 ∧ (tellB κ).length ≤ 100 := by
  have h : κ = 0 ∨ κ = 1 ∨ κ = 2 ∨ κ = 3 ∨ κ = 4 ∨ κ = 5 ∨ κ = 6 := by omega
  rcases h with rfl | rfl | rfl | rfl | rfl | rfl | rfl <;> decide
theorem TP_end {σ : Sg} {bs : List Int32} (q : TP σ σ) (hl : bs.length ≤ 100) : TP (trM bs (si (trX bs (si σ 64 1 0)) 74 69 0)) (trM bs (si (trX bs (si σ 64 1 0)) 74 69 0)) := by
  have h0 : TP (si σ 64 1 0) (si (trX bs (si σ 64 1 0)) 74 69 0) := by
    refine ⟨by rw [gi_si_eq, gi_si_eq], fun k hk => ?_⟩
    rw [gi_si_ne (Or.inl (by decide +kernel)), gi_si_ne (Or.inl (by decide +kernel)), gi_trX (by decide +kernel) (by decide +kernel), gi_si_ne (Or.inl (by decide +kernel))]
    exact q.2 k hk
  have h1 := TP_tr (bs := bs) h0 (by rw [gi_si_eq]; decide) (by rw [gi_si_eq]; show (0 : Int) + _ ≤ 2000; omega)
  refine ⟨?_, fun k hk => ?_⟩
  · rw [gi_trM (by decide +kernel) (by decide +kernel), gi_si_ne (Or.inl (by decide +kernel))]; exact h1.1
  · rw [gi_trM (a := 65) (by decide +kernel) (by decide +kernel), gi_si_ne (Or.inl (by decide +kernel))]; exact h1.2 k hk
/-- act: both answer alike, and what ran is alike -/
theorem TRC_act {a1 a2 a3 r1 r2 : Int32} {σ σ1 σ2 : Sg} (hc : (gi σ 1 1).toInt = (gi σ 74 0).toInt) (h0 : 0 ≤ (gi σ 74 0).toInt) (hR : RK σ 2 1 103 104) (q : TP σ σ) (h1 : F_X11_act a1 a2 a3 σ = (r1, σ1)) (h2 : F_X12_act a1 a2 a3 σ1 = (r2, σ2)) : TP σ2 σ2 ∧ r1 = r2 := by
  by_cases c : 0 ≤ a1.toInt ∧ a1.toInt < (gi σ 1 1).toInt
  · have ec := cl_eq c.1
    obtain ⟨μ, κ, hg, hκ, hμ, hk, k1, k2, k3, k4⟩ := hR a1.toNatClampNeg (by omega)
    rw [N_xact hR _ κ μ c rfl hg hκ hμ hk] at h1
    have ei : gi σ μ 1 = a1 := i_eq (by omega)
    rw [ei, k4] at h1
    obtain ⟨l1, l2, l3⟩ := bs_len κ hκ
    have fr : ∀ bs k, gi (trX bs (si σ 64 1 0)) 103 k = gi σ 103 k ∧ gi (trX bs (si σ 64 1 0)) 104 k = gi σ 104 k ∧ gi (trX bs (si σ 64 1 0)) 74 0 = gi σ 74 0 := fun bs k =>
      ⟨by rw [gi_trX (by decide +kernel) (by decide +kernel), gi_si_ne (Or.inl (by decide +kernel))], by rw [gi_trX (by decide +kernel) (by decide +kernel), gi_si_ne (Or.inl (by decide +kernel))], by rw [gi_trX (by decide +kernel) (by decide +kernel), gi_si_ne (Or.inl (by decide +kernel))]⟩
    have fin : ∀ bs : List Int32, σ1 = trX bs (si σ 64 1 0) → F_X12_act a1 a2 a3 σ1 = (if a2.toInt = 0 then (mowV κ a1 (gi σ 104 a1.toNatClampNeg) a3, trM (mowB κ) (si σ1 74 69 0)) else if a2.toInt = 1 then (whetV κ a1 (gi σ 104 a1.toNatClampNeg) a3, trM (whetB κ) (si σ1 74 69 0)) else if a2.toInt = 2 then (tellV κ a1 (gi σ 104 a1.toNatClampNeg) a3, trM (tellB κ) (si σ1 74 69 0)) else ((0 : Int32), si σ1 74 69 0)) := fun bs e => by
      have f1 := fr bs a1.toNatClampNeg
      rw [← e] at f1
      rw [N_mact (κ := κ) (by rw [f1.2.2]; exact h0) (by rw [f1.2.2, ← hc]; exact c) hκ (by rw [f1.1]; exact k1), f1.2.1]
    by_cases c0 : a2.toInt = 0
    · rw [if_pos c0] at h1
      obtain ⟨rfl, e⟩ := Prod.mk.inj h1
      rw [fin _ e.symm, if_pos c0] at h2
      obtain ⟨rfl, rfl⟩ := Prod.mk.inj h2
      rw [← e]
      exact ⟨TP_end q l1, rfl⟩
    rw [if_neg c0] at h1
    by_cases c1 : a2.toInt = 1
    · rw [if_pos c1] at h1
      obtain ⟨rfl, e⟩ := Prod.mk.inj h1
      rw [fin _ e.symm, if_neg c0, if_pos c1] at h2
      obtain ⟨rfl, rfl⟩ := Prod.mk.inj h2
      rw [← e]
      exact ⟨TP_end q l2, rfl⟩
    rw [if_neg c1] at h1
    by_cases c2 : a2.toInt = 2
    · rw [if_pos c2] at h1
      obtain ⟨rfl, e⟩ := Prod.mk.inj h1
      rw [fin _ e.symm, if_neg c0, if_neg c1, if_pos c2] at h2
      obtain ⟨rfl, rfl⟩ := Prod.mk.inj h2
      rw [← e]
      exact ⟨TP_end q l3, rfl⟩
    · rw [if_neg c2] at h1
      obtain ⟨rfl, e⟩ := Prod.mk.inj h1
      rw [fin [] e.symm, if_neg c0, if_neg c1, if_neg c2] at h2
      obtain ⟨rfl, rfl⟩ := Prod.mk.inj h2
      rw [← e]
      exact ⟨TP_end (bs := []) q (by decide +kernel), rfl⟩
  · unfold F_X11_act at h1
    rw [fl_mk, F_isMower, fb_mk, ite_10, gi_si_ne (Or.inl (by decide +kernel)), if_neg c] at h1
    obtain ⟨rfl, e⟩ := Prod.mk.inj h1
    have e0 : gi (si σ1 74 69 0) 74 0 = gi σ 74 0 := by rw [gi_si_ne (Or.inr (by decide +kernel)), ← e, gi_si_ne (Or.inl (by decide +kernel))]
    unfold F_X12_act at h2
    rw [fl_mk, F_misMower (by rw [e0]; exact h0), fb_mk, ite_10, e0, ← hc, if_neg c] at h2
    obtain ⟨rfl, rfl⟩ := Prod.mk.inj h2
    rw [← e]
    exact ⟨TP_end (bs := []) q (by decide +kernel), rfl⟩
theorem TRC_trace {a1 r1 r2 : Int32} {σ σ1 σ2 : Sg} (q : TP σ σ) (h1 : F_X11_trace a1 σ = (r1, σ1)) (h2 : F_X12_trace a1 σ1 = (r2, σ2)) : r1 = r2 := by
  have e20 : Int32.ofNat (nl 64) = (20 : Int32) := by decide +kernel
  have z0 : (0 : Int32).toInt = 0 := rfl
  have z19 : (19 : Int32).toInt = 19 := rfl
  have z20 : (20 : Int32).toInt = 20 := rfl
  unfold F_X11_trace F_X5_has at h1
  unfold F_X12_trace at h2
  rw [F_in, fb_mk, ite_10] at h2
  rw [e20] at h1
  by_cases c1 : a1.toInt < 0
  · rw [if_pos (i_lt0 c1), fb_mk, if_pos rfl] at h1
    rw [if_neg (by omega)] at h2
    rw [← (Prod.mk.inj h1).1, ← (Prod.mk.inj h2).1]
  rw [if_neg (i_nlt0 (by omega))] at h1
  by_cases c2 : (gi σ 64 1).toInt ≤ a1.toInt
  · rw [if_pos (i_le c2), fb_mk, if_pos rfl] at h1
    obtain ⟨rfl, rfl⟩ := Prod.mk.inj h1
    rw [q.1] at c2
    by_cases c3 : a1.toInt ≤ 19
    · rw [if_pos (by omega), if_pos (i_le c2)] at h2
      exact (Prod.mk.inj h2).1
    · rw [if_neg (by omega)] at h2
      exact (Prod.mk.inj h2).1
  rw [if_neg (i_nle (by omega))] at h1
  by_cases c3 : (20 : Int) ≤ a1.toInt
  · rw [if_pos (i_le (a := (20 : Int32)) c3), fb_mk, if_pos rfl] at h1
    rw [if_neg (by omega)] at h2
    rw [← (Prod.mk.inj h1).1, ← (Prod.mk.inj h2).1]
  · rw [if_neg (i_nle (a := (20 : Int32)) (by show a1.toInt < 20; omega)), fb_mk, if_neg (by decide +kernel)] at h1
    obtain ⟨rfl, rfl⟩ := Prod.mk.inj h1
    rw [q.1] at c2
    have ec := cl_eq (x := a1) (by omega)
    rw [if_pos (by omega), if_neg (i_nle (by omega)), ← q.2 _ (by omega)] at h2
    exact (Prod.mk.inj h2).1
theorem N_isOfKind {μ κ : Nat} {a2 : Int32} {σ : Sg} (hk : kd μ = (10 + cls κ, 0)) (hκ : κ < 7) (h0 : 0 ≤ a2.toInt) (h6 : a2.toInt ≤ 6) : F_X11_isOfKind μ a2 σ = (if a2.toInt = 0 ∨ a2.toInt = (κ : Int) ∨ (a2.toInt = 1 ∧ κ = 4) ∨ (a2.toInt = 2 ∧ κ = 5) ∨ (a2.toInt = 3 ∧ κ = 6) then (1 : Int32) else 0, σ) := by
  have h : κ = 0 ∨ κ = 1 ∨ κ = 2 ∨ κ = 3 ∨ κ = 4 ∨ κ = 5 ∨ κ = 6 := by omega
  have g : a2.toInt = 0 ∨ a2.toInt = 1 ∨ a2.toInt = 2 ∨ a2.toInt = 3 ∨ a2.toInt = 4 ∨ a2.toInt = 5 ∨ a2.toInt = 6 := by omega
  unfold F_X11_isOfKind
  rw [hk, show (10 + cls κ, 0).1 - 10 = cls κ from Nat.add_sub_cancel_left _ _]
  rcases g with g | g | g | g | g | g | g <;> rw [g] <;> rcases h with rfl | rfl | rfl | rfl | rfl | rfl | rfl <;> simp [cls, msub, fl_mk]
theorem KND_taken {a1 a2 r1 r2 : Int32} {σ σ1 σ2 : Sg} (hc : (gi σ 1 1).toInt = (gi σ 74 0).toInt) (h0 : 0 ≤ (gi σ 74 0).toInt) (hR : RK σ 2 1 103 104) (h1 : F_X11_taken a1 a2 σ = (r1, σ1)) (h2 : F_X12_taken a1 a2 σ1 = (r2, σ2)) : r1 = r2 := by
  have z0 : (0 : Int32).toInt = 0 := rfl
  have z6 : (6 : Int32).toInt = 6 := rfl
  unfold F_X11_taken at h1
  unfold F_X12_taken at h2
  rw [F_in, fb_mk, ite_10] at h2
  by_cases c1 : a2.toInt < 0
  · rw [if_pos (i_lt0 c1)] at h1
    rw [if_neg (by omega)] at h2
    rw [← (Prod.mk.inj h1).1, ← (Prod.mk.inj h2).1]
  rw [if_neg (i_nlt0 (by omega))] at h1
  by_cases c2 : (6 : Int) < a2.toInt
  · rw [if_neg (i_nle (b := (6 : Int32)) c2)] at h1
    rw [if_neg (by omega)] at h2
    rw [← (Prod.mk.inj h1).1, ← (Prod.mk.inj h2).1]
  rw [if_pos (i_le (b := (6 : Int32)) (by show a2.toInt ≤ 6; omega)), F_isMower, fb_mk, ite_10] at h1
  rw [if_pos (by omega)] at h2
  by_cases c : 0 ≤ a1.toInt ∧ a1.toInt < (gi σ 1 1).toInt
  · have ec := cl_eq c.1
    obtain ⟨μ, κ, hg, hκ, hμ, hk, k1, k2, k3, k4⟩ := hR a1.toNatClampNeg (by omega)
    rw [if_pos c, fm_mk hg hk, N_isOfKind hk hκ (by omega) (by omega), fb_mk, ite_10, fm_mk hg hk] at h1
    have es : σ1 = σ := by
      split at h1
      · exact (Prod.mk.inj h1).2.symm
      · exact (Prod.mk.inj h1).2.symm
    subst es
    rw [F_misMower h0, fb_mk, ite_10, ← hc, if_pos c, fl_mk] at h2
    have ek : gi σ1 μ 0 = gi σ1 103 a1.toNatClampNeg := i_eq (by omega)
    have z1 : (1 : Int32).toInt = 1 := rfl
    have z2 : (2 : Int32).toInt = 2 := rfl
    have z3 : (3 : Int32).toInt = 3 := rfl
    have z4 : (4 : Int32).toInt = 4 := rfl
    have z5 : (5 : Int32).toInt = 5 := rfl
    have l5 : ∀ y z, LF_X12_taken 9 0 y z σ1 = LB_X12_taken_51 (LF_X12_taken 8) y z σ1 := fun y z => rfl
    have l6 : ∀ y z, LF_X12_taken 8 1 y z σ1 = LB_X12_taken_61 (LF_X12_taken 7) y z σ1 := fun y z => rfl
    rw [l5] at h2
    unfold LB_X12_taken_51 at h2
    rw [l6] at h2
    unfold LB_X12_taken_61 at h2
    rw [ek] at h1
    simp only [← Int32.toInt_inj] at h2
    by_cases d : a2.toInt = 0 ∨ a2.toInt = (κ : Int) ∨ (a2.toInt = 1 ∧ κ = 4) ∨ (a2.toInt = 2 ∧ κ = 5) ∨ (a2.toInt = 3 ∧ κ = 6)
    · rw [if_pos d] at h1
      rw [← (Prod.mk.inj h1).1]
      (repeat' split at h2) <;> first | exact (Prod.mk.inj h2).1 | (exfalso; omega)
    · rw [if_neg d] at h1
      rw [← (Prod.mk.inj h1).1]
      (repeat' split at h2) <;> first | exact (Prod.mk.inj h2).1 | (exfalso; omega)
  · rw [if_neg c] at h1
    obtain ⟨rfl, rfl⟩ := Prod.mk.inj h1
    rw [F_misMower h0, fb_mk, ite_10, ← hc, if_neg c] at h2
    exact (Prod.mk.inj h2).1
/-- the told ones' rows -/
noncomputable def RT (σ : Sg) (c cn m : Nat) : Prop := (∀ k : Nat, k < 24 → gi σ c k = gi σ m k) ∧ ∀ k : Nat, k < 24 → 4 * (gi σ cn 1).toInt ≤ (k : Int) → gi σ c k = 0
theorem TLD_row {a1 a2 a3 r1 r2 : Int32} {σ σ1 σ2 : Sg} (hc : (gi σ 1 1).toInt = (gi σ 74 0).toInt) (h0 : 0 ≤ (gi σ 74 0).toInt) (h6 : (gi σ 74 0).toInt ≤ 6) (hR : RK σ 2 1 103 104) (q : RT σ 8 1 109) (h1 : F_X11_row a1 a2 a3 σ = (r1, σ1)) (h2 : F_X12_row a1 a2 a3 σ1 = (r2, σ2)) : RT σ2 8 1 109 ∧ r1 = r2 := by
  have z0 : (0 : Int32).toInt = 0 := rfl
  have z3 : (3 : Int32).toInt = 3 := rfl
  have z9 : (9 : Int32).toInt = 9 := rfl
  unfold F_X11_row at h1
  unfold F_X12_row at h2
  rw [F_isMower, fb_mk, ite_10] at h1
  by_cases c : 0 ≤ a1.toInt ∧ a1.toInt < (gi σ 1 1).toInt
  · have ec := cl_eq c.1
    obtain ⟨μ, κ, hg, hκ, hμ, hk, k1, k2, k3, k4⟩ := hR a1.toNatClampNeg (by omega)
    rw [if_pos c, fm_mk hg hk, fl_mk] at h1
    have hm : (msub (cls κ) 10 = true ↔ κ = 6) := by
      have h : κ = 0 ∨ κ = 1 ∨ κ = 2 ∨ κ = 3 ∨ κ = 4 ∨ κ = 5 ∨ κ = 6 := by omega
      rcases h with rfl | rfl | rfl | rfl | rfl | rfl | rfl <;> decide
    by_cases c2 : 0 ≤ a2.toInt ∧ a2.toInt ≤ 3
    · by_cases c3 : 0 ≤ a3.toInt ∧ a3.toInt ≤ 9
      · rw [if_neg (i_nlt0 c2.1), if_pos (i_le (b := (3 : Int32)) c2.2), if_neg (i_nlt0 c3.1), if_pos (i_le (b := (9 : Int32)) c3.2)] at h1
        have i1 : ((4 : Int32) * a1).toInt = 4 * a1.toInt := i_mull rfl (by omega) (by omega)
        have i2 : (((4 : Int32) * a1) + a2).toInt = ((4 : Int32) * a1).toInt + a2.toInt := i_add (by show (_ : Int) ≤ ((4 : Int32) * a1).toInt + a2.toInt; omega) (by show ((4 : Int32) * a1).toInt + a2.toInt ≤ (_ : Int); omega)
        have i3 := cl_eq (x := ((4 : Int32) * a1) + a2) (by omega)
        by_cases c4 : κ = 6
        · rw [if_pos (hm.mpr c4), if_neg (by decide +kernel), fl_mk, fl_mk] at h1
          obtain ⟨rfl, rfl⟩ := Prod.mk.inj h1
          rw [F_misMower (by rw [gi_si_ne (Or.inl (by decide +kernel))]; exact h0), fb_mk, ite_10, gi_si_ne (Or.inl (by decide +kernel)), ← hc, if_pos c, F_in, fb_mk, ite_10, if_pos (by omega), F_in, fb_mk, ite_10, if_pos (by omega), gi_si_ne (Or.inl (by decide +kernel)), if_pos (i_eq (b := (6 : Int32)) (by rw [k1, c4]; rfl)), fl_mk, fl_mk, gi_si_ne (Or.inl (by decide +kernel))] at h2
          obtain ⟨rfl, rfl⟩ := Prod.mk.inj h2
          refine ⟨⟨fun k hk => ?_, fun k hk h8 => ?_⟩, q.1 _ (by omega)⟩
          · rw [gi_si_ne (Or.inl (by decide +kernel)), gi_si, gi_si]
            by_cases e : k = (((4 : Int32) * a1) + a2).toNatClampNeg
            · rw [if_pos ⟨rfl, e⟩, if_pos ⟨rfl, e⟩]
            · rw [if_neg (fun z => e z.2), if_neg (fun z => e z.2), gi_si_ne (Or.inl (by decide +kernel))]; exact q.1 k hk
          · rw [gi_si_ne (Or.inl (by decide +kernel)), gi_si_ne (Or.inl (by decide +kernel))] at h8
            rw [gi_si_ne (Or.inl (by decide +kernel)), gi_si_ne (Or.inr (by omega))]
            exact q.2 k hk h8
        · rw [if_neg (fun h => c4 (hm.mp h)), if_pos rfl] at h1
          obtain ⟨rfl, rfl⟩ := Prod.mk.inj h1
          rw [F_misMower h0, fb_mk, ite_10, ← hc, if_pos c, F_in, fb_mk, ite_10, if_pos (by omega), F_in, fb_mk, ite_10, if_pos (by omega), if_neg (i_ne (b := (6 : Int32)) (by rw [k1]; show ¬ (κ : Int) = 6; omega))] at h2
          obtain ⟨rfl, rfl⟩ := Prod.mk.inj h2
          exact ⟨q, rfl⟩
      · rw [if_neg (i_nlt0 c2.1), if_pos (i_le (b := (3 : Int32)) c2.2)] at h1
        have h1 : ((-2 : Int32), σ) = (r1, σ1) := by
          by_cases d : a3.toInt < 0
          · rw [if_pos (i_lt0 d)] at h1; exact h1
          · rw [if_neg (i_nlt0 (by omega)), if_neg (i_nle (b := (9 : Int32)) (by show (9 : Int) < a3.toInt; omega))] at h1; exact h1
        obtain ⟨rfl, rfl⟩ := Prod.mk.inj h1
        rw [F_misMower h0, fb_mk, ite_10, ← hc, if_pos c, F_in, fb_mk, ite_10, if_pos (by omega), F_in, fb_mk, ite_10, if_neg (by omega)] at h2
        obtain ⟨rfl, rfl⟩ := Prod.mk.inj h2
        exact ⟨q, rfl⟩
    · have h1 : ((-1 : Int32), σ) = (r1, σ1) := by
        by_cases d : a2.toInt < 0
        · rw [if_pos (i_lt0 d)] at h1; exact h1
        · rw [if_neg (i_nlt0 (by omega)), if_neg (i_nle (b := (3 : Int32)) (by show (3 : Int) < a2.toInt; omega))] at h1; exact h1
      obtain ⟨rfl, rfl⟩ := Prod.mk.inj h1
      rw [F_misMower h0, fb_mk, ite_10, ← hc, if_pos c, F_in, fb_mk, ite_10, if_neg (by omega)] at h2
      obtain ⟨rfl, rfl⟩ := Prod.mk.inj h2
      exact ⟨q, rfl⟩
  · rw [if_neg c] at h1
    obtain ⟨rfl, rfl⟩ := Prod.mk.inj h1
    rw [F_misMower h0, fb_mk, ite_10, ← hc, if_neg c] at h2
    obtain ⟨rfl, rfl⟩ := Prod.mk.inj h2
    exact ⟨q, rfl⟩
/-! the row: who has which place -/
noncomputable def MV (f : Nat → Int32) (b k : Nat) (a : Int32) : Nat → Int32 := fun j => if j = k then a else if k < j ∧ j ≤ b then f (j - 1) else if b ≤ j ∧ j < k then f (j + 1) else f j
theorem sia_self {σ : Sg} {a : Nat} {g : Nat → Int32} (h : ∀ j, g j = gi σ a j) : sia σ a g = σ := by
  have e : va_up σ.1 a g = σ.1 := by
    funext b
    unfold va_up
    by_cases q : b = a
    · rw [if_pos q, q]; funext j; exact h j
    · rw [if_neg q]
  show (va_up σ.1 a g, σ.2) = σ
  rw [e]
theorem sia_sia {σ : Sg} {a : Nat} {g h : Nat → Int32} : sia (sia σ a g) a h = sia σ a h := by
  have e : va_up (va_up σ.1 a g) a h = va_up σ.1 a h := by
    funext b
    unfold va_up
    by_cases q : b = a
    · rw [if_pos q, if_pos q]
    · rw [if_neg q, if_neg q, if_neg q]
  show (va_up (va_up σ.1 a g) a h, σ.2) = _
  rw [e]
  rfl
theorem sia_ext {σ : Sg} {a : Nat} {g h : Nat → Int32} (e : ∀ j, g j = h j) : sia σ a g = sia σ a h := by rw [funext e]
theorem si_sia {σ : Sg} {a k : Nat} {v : Int32} : si σ a k v = sia σ a (fun j => if j = k then v else gi σ a j) := rfl
theorem nI_sub1 {n : Nat} (h : 0 < n) : nI n - (1 : Int32) = nI (n - 1) := by
  obtain ⟨m, rfl⟩ : ∃ m, n = m + 1 := ⟨n - 1, by omega⟩
  exact nI_pred m
theorem least_of {P : Nat → Prop} : ∀ n k : Nat, k < n → P k → ∃ j, j ≤ k ∧ P j ∧ ∀ i, i < j → ¬ P i := by
  intro n
  induction n with
  | zero => intro k h; omega
  | succ n ih =>
    intro k hk hp
    by_cases c : ∃ i, i < k ∧ P i
    · obtain ⟨i, hi, hpi⟩ := c
      obtain ⟨j, h1, h2, h3⟩ := ih i (by omega) hpi
      exact ⟨j, by omega, h2, h3⟩
    · exact ⟨k, Nat.le_refl _, hp, fun i hi hpi => c ⟨i, hi, hpi⟩⟩
theorem LF_xplaceOf {c : Nat} {a : Int32} {σ : Sg} {p0 : Nat} (hl : (p0 : Int) < (gi σ c 3).toInt) (h6 : (gi σ c 3).toInt ≤ 6) (hp : gi σ (c + 2) p0 = a) (hm : ∀ j, j < p0 → gi σ (c + 2) j ≠ a) : ∀ (n i : Nat), i ≤ p0 → p0 - i < n → LF_X1_placeOf c n a (nI i) σ = (nI p0, σ) := by
  intro n
  induction n with
  | zero => intro i _ h; exact absurd h (Nat.not_lt_zero _)
  | succ n ih =>
    intro i hi hn
    show LB_X1_placeOf_2 c (LF_X1_placeOf c n) a (nI i) σ = _
    have e : ((gi σ c 3) - (1 : Int32)).toInt = (gi σ c 3).toInt - 1 := i_sub (y := (1 : Int32)) (by show (_ : Int) ≤ (gi σ c 3).toInt - 1; omega) (by show (gi σ c 3).toInt - 1 ≤ (_ : Int); omega)
    have ei := nI_toInt (n := i) (by omega)
    unfold LB_X1_placeOf_2
    rw [nI_clamp (n := i) (by omega), fl_mk]
    by_cases c0 : i = p0
    · subst c0
      rw [if_pos hp]
      split <;> rfl
    · rw [if_neg (i_nle (by omega)), if_neg (hm i (by omega)), ← nI_succ]
      exact ih (i + 1) (by omega) (by omega)
theorem LF_mplaceOf {a : Int32} {σ : Sg} {p0 : Nat} (h6 : p0 < 6) (hp : gi σ 110 p0 = a) (hm : ∀ j, j < p0 → gi σ 110 j ≠ a) : ∀ (n i : Nat), i ≤ p0 → p0 - i < n → LF_X12_placeOf n a (nI i) σ = (nI p0, σ) := by
  intro n
  induction n with
  | zero => intro i _ h; exact absurd h (Nat.not_lt_zero _)
  | succ n ih =>
    intro i hi hn
    show LB_X12_placeOf_2 (LF_X12_placeOf n) a (nI i) σ = _
    unfold LB_X12_placeOf_2
    rw [nI_clamp (n := i) (by omega), fl_mk]
    by_cases c0 : i = p0
    · subst c0
      rw [if_pos hp]
    · rw [if_neg (hm i (by omega)), ← nI_succ]
      exact ih (i + 1) (by omega) (by omega)
theorem LF_xmoves1 {c : Nat} {a x3 : Int32} {k : Nat} (hk : k < 6) : ∀ (n p : Nat) (σ : Sg), p < 7 → k - p < n → LF_X1_moves c n 1 a (nI k) x3 (nI p) σ = (x3, sia σ (c + 2) (fun j => if j = k then a else if p ≤ j ∧ j < k then gi σ (c + 2) (j + 1) else gi σ (c + 2) j)) := by
  intro n
  induction n with
  | zero => intro p σ _ h; exact absurd h (Nat.not_lt_zero _)
  | succ n ih =>
    intro p σ hp hn
    show LB_X1_moves_40 c (LF_X1_moves c n) a (nI k) x3 (nI p) σ = _
    unfold LB_X1_moves_40
    rw [← nI_succ, nI_clamp (n := p) (by omega), nI_clamp (n := k) (by omega), nI_clamp (n := p + 1) (by omega)]
    simp only [fl_mk]
    by_cases c0 : k ≤ p
    · rw [if_pos (nI_le c0 (by omega)), si_sia]
      congr 1
      refine sia_ext (fun j => ?_)
      by_cases q : j = k
      · rw [if_pos q, if_pos q]
      · rw [if_neg q, if_neg q, if_neg (by omega)]
    · rw [if_neg (nI_ge (by omega) (by omega)), ih (p + 1) _ (by omega) (by omega), si_sia, sia_sia]
      congr 1
      refine sia_ext (fun j => ?_)
      rw [gi_sia, if_pos rfl, gi_sia, if_pos rfl]
      by_cases q : j = k
      · rw [if_pos q, if_pos q]
      · rw [if_neg q, if_neg q]
        by_cases q2 : p ≤ j ∧ j < k
        · rw [if_pos q2]
          by_cases q3 : j = p
          · rw [if_neg (show ¬ (p + 1 ≤ j ∧ j < k) by omega), if_pos q3, q3]
          · rw [if_pos (show p + 1 ≤ j ∧ j < k by omega), if_neg (show ¬ j + 1 = p by omega)]
        · rw [if_neg q2, if_neg (show ¬ (p + 1 ≤ j ∧ j < k) by omega), if_neg (show ¬ j = p by omega)]
theorem LF_xmoves0 {c : Nat} {a : Int32} {k b : Nat} (hk : k < 6) (hb : b < 6) : ∀ (n p : Nat) (σ : Sg), p ≤ b → (p - k) + 20 < n → LF_X1_moves c n 0 a (nI k) (nI b) (nI p) σ = (nI b, sia σ (c + 2) (fun j => if j = k then a else if b ≤ j ∧ j < k then gi σ (c + 2) (j + 1) else if k < j ∧ j ≤ p then gi σ (c + 2) (j - 1) else gi σ (c + 2) j)) := by
  intro n
  induction n with
  | zero => intro p σ _ h; exact absurd h (Nat.not_lt_zero _)
  | succ n ih =>
    intro p σ hp hn
    show LB_X1_moves_9 c (LF_X1_moves c n) a (nI k) (nI b) (nI p) σ = _
    unfold LB_X1_moves_9
    by_cases c0 : p ≤ k
    · rw [if_pos (nI_le c0 (by omega)), LF_xmoves1 hk n b σ (by omega) (by omega)]
      congr 1
      refine sia_ext (fun j => ?_)
      by_cases q : j = k
      · rw [if_pos q, if_pos q]
      · rw [if_neg q, if_neg q]
        by_cases q2 : b ≤ j ∧ j < k
        · rw [if_pos q2, if_pos q2]
        · rw [if_neg q2, if_neg q2, if_neg (by omega)]
    · rw [if_neg (nI_ge (by omega) (by omega)), nI_sub1 (by omega), nI_clamp (n := p) (by omega), nI_clamp (n := p - 1) (by omega)]
      simp only [fl_mk]
      rw [ih (p - 1) _ (by omega) (by omega), si_sia, sia_sia]
      congr 1
      refine sia_ext (fun j => ?_)
      simp only [gi_sia, if_true]
      by_cases q : j = k
      · rw [if_pos q, if_pos q]
      · rw [if_neg q, if_neg q]
        by_cases q2 : b ≤ j ∧ j < k
        · rw [if_pos q2, if_pos q2, if_neg (show ¬ j + 1 = p by omega)]
        · rw [if_neg q2, if_neg q2]
          by_cases q3 : k < j ∧ j ≤ p
          · rw [if_pos q3]
            by_cases q4 : j = p
            · rw [if_neg (show ¬ (k < j ∧ j ≤ p - 1) by omega), if_pos q4, q4]
            · rw [if_pos (show k < j ∧ j ≤ p - 1 by omega), if_neg (show ¬ j - 1 = p by omega)]
          · rw [if_neg q3, if_neg (show ¬ (k < j ∧ j ≤ p - 1) by omega), if_neg (show ¬ j = p by omega)]
theorem LF_mplace1 {a x3 : Int32} {k : Nat} (hk : k < 6) : ∀ (n p : Nat) (σ : Sg), p < 7 → p - k < n → LF_X12_place n 1 a (nI k) x3 (nI p) σ = (x3, sia σ 110 (fun j => if j = k then a else if k < j ∧ j ≤ p then gi σ 110 (j - 1) else gi σ 110 j)) := by
  intro n
  induction n with
  | zero => intro p σ _ h; exact absurd h (Nat.not_lt_zero _)
  | succ n ih =>
    intro p σ hp hn
    show LB_X12_place_65 (LF_X12_place n) a (nI k) x3 (nI p) σ = _
    unfold LB_X12_place_65
    by_cases c0 : p ≤ k
    · rw [if_pos (nI_le c0 (by omega)), nI_clamp (n := k) (by omega)]
      simp only [fl_mk]
      rw [si_sia]
      congr 1
      refine sia_ext (fun j => ?_)
      by_cases q : j = k
      · rw [if_pos q, if_pos q]
      · rw [if_neg q, if_neg q, if_neg (by omega)]
    · rw [if_neg (nI_ge (by omega) (by omega)), nI_sub1 (by omega), nI_clamp (n := p) (by omega), nI_clamp (n := p - 1) (by omega)]
      simp only [fl_mk]
      rw [ih (p - 1) _ (by omega) (by omega), si_sia, sia_sia]
      congr 1
      refine sia_ext (fun j => ?_)
      simp only [gi_sia, if_true]
      by_cases q : j = k
      · rw [if_pos q, if_pos q]
      · rw [if_neg q, if_neg q]
        by_cases q3 : k < j ∧ j ≤ p
        · rw [if_pos q3]
          by_cases q4 : j = p
          · rw [if_neg (show ¬ (k < j ∧ j ≤ p - 1) by omega), if_pos q4, q4]
          · rw [if_pos (show k < j ∧ j ≤ p - 1 by omega), if_neg (show ¬ j - 1 = p by omega)]
        · rw [if_neg q3, if_neg (show ¬ (k < j ∧ j ≤ p - 1) by omega), if_neg (show ¬ j = p by omega)]
theorem LF_mplace0 {a : Int32} {k b : Nat} (hk : k < 6) (hb : b < 6) : ∀ (n p : Nat) (σ : Sg), b ≤ p → p < 7 → (k - p) + 20 < n → LF_X12_place n 0 a (nI k) (nI b) (nI p) σ = (nI b, sia σ 110 (fun j => if j = k then a else if k < j ∧ j ≤ b then gi σ 110 (j - 1) else if p ≤ j ∧ j < k then gi σ 110 (j + 1) else gi σ 110 j)) := by
  intro n
  induction n with
  | zero => intro p σ _ _ h; exact absurd h (Nat.not_lt_zero _)
  | succ n ih =>
    intro p σ hp h7 hn
    show LB_X12_place_34 (LF_X12_place n) a (nI k) (nI b) (nI p) σ = _
    unfold LB_X12_place_34
    by_cases c0 : k ≤ p
    · rw [if_pos (nI_le c0 (by omega)), LF_mplace1 hk n b σ (by omega) (by omega)]
      congr 1
      refine sia_ext (fun j => ?_)
      by_cases q : j = k
      · rw [if_pos q, if_pos q]
      · rw [if_neg q, if_neg q]
        by_cases q2 : k < j ∧ j ≤ b
        · rw [if_pos q2, if_pos q2]
        · rw [if_neg q2, if_neg q2, if_neg (by omega)]
    · rw [if_neg (nI_ge (by omega) (by omega)), ← nI_succ, nI_clamp (n := p) (by omega), nI_clamp (n := p + 1) (by omega)]
      simp only [fl_mk]
      rw [ih (p + 1) _ (by omega) (by omega) (by omega), si_sia, sia_sia]
      congr 1
      refine sia_ext (fun j => ?_)
      simp only [gi_sia, if_true]
      by_cases q : j = k
      · rw [if_pos q, if_pos q]
      · rw [if_neg q, if_neg q]
        by_cases q2 : k < j ∧ j ≤ b
        · rw [if_pos q2, if_pos q2, if_neg (show ¬ j - 1 = p by omega)]
        · rw [if_neg q2, if_neg q2]
          by_cases q3 : p ≤ j ∧ j < k
          · rw [if_pos q3]
            by_cases q4 : j = p
            · rw [if_neg (show ¬ (p + 1 ≤ j ∧ j < k) by omega), if_pos q4, q4]
            · rw [if_pos (show p + 1 ≤ j ∧ j < k by omega), if_neg (show ¬ j + 1 = p by omega)]
          · rw [if_neg q3, if_neg (show ¬ (p + 1 ≤ j ∧ j < k) by omega), if_neg (show ¬ j = p by omega)]
theorem MV_x {f : Nat → Int32} {b k : Nat} {a : Int32} (j : Nat) : (if j = k then a else if b ≤ j ∧ j < k then f (j + 1) else if k < j ∧ j ≤ b then f (j - 1) else f j) = MV f b k a j := by
  unfold MV
  by_cases q : j = k
  · rw [if_pos q, if_pos q]
  · rw [if_neg q, if_neg q]
    by_cases q2 : b ≤ j ∧ j < k
    · rw [if_pos q2, if_neg (show ¬ (k < j ∧ j ≤ b) by omega), if_pos q2]
    · rw [if_neg q2, if_neg q2]
theorem nI_ofI {x : Int32} (h : 0 ≤ x.toInt) : x = nI x.toNatClampNeg := by
  have e := cl_eq h
  have l := Int32.toInt_lt x
  exact i_eq (by rw [nI_toInt (by omega)]; omega)
/-- the row of a course, on both sides -/
noncomputable def RLn (σ : Sg) (c a : Nat) : Prop := ∀ p : Nat, p < 6 → gi σ c p = gi σ a p
theorem LIN_place {a1 a2 r1 r2 : Int32} {σ σ1 σ2 : Sg} (hc : (gi σ 1 1).toInt = (gi σ 74 0).toInt) (h0 : 0 ≤ (gi σ 74 0).toInt) (h6 : (gi σ 74 0).toInt ≤ 6) (hl : (gi σ 1 3).toInt = (gi σ 1 1).toInt) (hP : PL σ) (q : RLn σ 3 110) (h1 : F_X11_place a1 a2 σ = (r1, σ1)) (h2 : F_X12_place a1 a2 σ1 = (r2, σ2)) : RLn σ2 3 110 ∧ r1 = r2 := by
  have z0 : (0 : Int32).toInt = 0 := rfl
  have n0 : nI 0 = 0 := nI_0
  unfold F_X11_place at h1
  unfold F_X12_place at h2
  rw [F_isMower, fb_mk, ite_10] at h1
  have em : ∀ s : Sg, gi s 74 0 = gi σ 74 0 → ((gi s 74 0) - (1 : Int32)).toInt = (gi σ 74 0).toInt - 1 := fun s e => by
    rw [e]; exact i_sub (y := (1 : Int32)) (by show (_ : Int) ≤ (gi σ 74 0).toInt - 1; omega) (by show (gi σ 74 0).toInt - 1 ≤ (_ : Int); omega)
  by_cases c : 0 ≤ a1.toInt ∧ a1.toInt < (gi σ 1 1).toInt
  · have ec := cl_eq c.1
    rw [if_pos c] at h1
    by_cases c2 : 0 ≤ a2.toInt ∧ a2.toInt < (gi σ 1 1).toInt
    · have ek := cl_eq c2.1
      rw [if_neg (i_nlt0 c2.1), if_pos (i_lt c2.2)] at h1
      obtain ⟨k, hk6, hk⟩ : ∃ k : Nat, k < 6 ∧ a2 = nI k := ⟨a2.toNatClampNeg, by omega, nI_ofI c2.1⟩
      obtain ⟨k0, hk0, hk1⟩ := hP a1.toNatClampNeg (by omega)
      have hk1 : gi σ 110 k0 = a1 := by rw [hk1]; exact (nI_ofI c.1).symm
      obtain ⟨p0, hp0, hp1, hp2⟩ := least_of (P := fun j => gi σ 110 j = a1) (k0 + 1) k0 (by omega) hk1
      have hx : F_X1_placeOf 1 a1 σ = (nI p0, σ) := by
        unfold F_X1_placeOf
        rw [← n0]
        exact LF_xplaceOf (by omega) (by omega) (by rw [q p0 (by omega)]; exact hp1) (fun j hj => by rw [q j (by omega)]; exact hp2 j hj) 9 0 (Nat.zero_le _) (by omega)
      have hmv : F_X1_moves 1 a1 a2 σ = (nI p0, sia σ 3 (MV (gi σ 3) p0 k a1)) := by
        unfold F_X1_moves
        rw [hx, fb_mk, hk, LF_xmoves0 hk6 (by omega) 300 p0 σ (Nat.le_refl _) (by omega)]
        congr 1
        exact sia_ext (fun j => MV_x j)
      rw [hmv, fb_mk] at h1
      obtain ⟨rfl, e⟩ := Prod.mk.inj h1
      have g74 : gi σ1 74 0 = gi σ 74 0 := by rw [← e, gi_sia, if_neg (by decide +kernel)]
      have g110 : ∀ j, gi σ1 110 j = gi σ 110 j := fun j => by rw [← e, gi_sia, if_neg (by decide +kernel)]
      have hm : F_X12_placeOf a1 σ1 = (nI p0, σ1) := by
        unfold F_X12_placeOf
        rw [← n0]
        exact LF_mplaceOf (by omega) (by rw [g110]; exact hp1) (fun j hj => by rw [g110]; exact hp2 j hj) 9 0 (Nat.zero_le _) (by omega)
      have hl2 : LF_X12_place 60 0 a1 a2 (nI p0) (nI p0) σ1 = (nI p0, sia σ1 110 (fun j => if j = k then a1 else if k < j ∧ j ≤ p0 then gi σ1 110 (j - 1) else if p0 ≤ j ∧ j < k then gi σ1 110 (j + 1) else gi σ1 110 j)) := by
        rw [hk]
        exact LF_mplace0 hk6 (by omega) 60 p0 σ1 (Nat.le_refl _) (by omega) (by omega)
      rw [F_misMower (by rw [g74]; exact h0), fb_mk, ite_10, g74, ← hc, if_pos c, F_in, fb_mk, ite_10, em σ rfl, if_pos (by omega), hm, fb_mk, hl2] at h2
      obtain ⟨rfl, e2⟩ := Prod.mk.inj h2
      refine ⟨fun p hp => ?_, rfl⟩
      rw [← e2, gi_sia, if_neg (show ¬ (3 : Nat) = 110 by decide +kernel), gi_sia, if_pos (rfl : 110 = 110), ← e, gi_sia, if_pos (rfl : 3 = 3)]
      have gg : ∀ j, gi (sia σ 3 (MV (gi σ 3) p0 k a1)) 110 j = gi σ 110 j := fun j => by rw [gi_sia, if_neg (by decide +kernel)]
      simp only [gg]
      unfold MV
      by_cases q1 : p = k
      · rw [if_pos q1, if_pos q1]
      · rw [if_neg q1, if_neg q1]
        by_cases q2 : k < p ∧ p ≤ p0
        · rw [if_pos q2, if_pos q2]; exact q _ (by omega)
        · rw [if_neg q2, if_neg q2]
          by_cases q3 : p0 ≤ p ∧ p < k
          · rw [if_pos q3, if_pos q3]; exact q _ (by omega)
          · rw [if_neg q3, if_neg q3]; exact q _ hp
    · have h1 : ((-1 : Int32), σ) = (r1, σ1) := by
        by_cases d : a2.toInt < 0
        · rw [if_pos (i_lt0 d)] at h1; exact h1
        · rw [if_neg (i_nlt0 (by omega)), if_neg (i_nlt (by omega))] at h1; exact h1
      obtain ⟨rfl, rfl⟩ := Prod.mk.inj h1
      rw [F_misMower h0, fb_mk, ite_10, ← hc, if_pos c, F_in, fb_mk, ite_10, em σ rfl, if_neg (by omega)] at h2
      obtain ⟨rfl, rfl⟩ := Prod.mk.inj h2
      exact ⟨q, rfl⟩
  · rw [if_neg c] at h1
    obtain ⟨rfl, rfl⟩ := Prod.mk.inj h1
    rw [F_misMower h0, fb_mk, ite_10, ← hc, if_neg c] at h2
    obtain ⟨rfl, rfl⟩ := Prod.mk.inj h2
    exact ⟨q, rfl⟩
/-! copying, on the model's side -/
/-- a row copied from its place x on -/
noncomputable def CL (σ : Sg) (d s x N : Nat) : Sg := sia σ d (fun j => if x ≤ j ∧ j < N then gi σ s j else gi σ d j)
theorem CL_end {σ : Sg} {d s x N : Nat} (h : N ≤ x) : CL σ d s x N = σ := sia_self (fun j => by rw [if_neg (by omega)])
theorem CL_step {σ : Sg} {d s x N : Nat} (h : x < N) (hd : s ≠ d) : CL (si σ d x (gi σ s x)) d s (x + 1) N = CL σ d s x N := by
  unfold CL
  rw [si_sia, sia_sia]
  refine sia_ext (fun j => ?_)
  simp only [gi_sia, if_true, if_neg hd]
  by_cases q : x + 1 ≤ j ∧ j < N
  · rw [if_pos q, if_pos (show x ≤ j ∧ j < N by omega)]
  · rw [if_neg q]
    by_cases q2 : j = x
    · rw [if_pos q2, if_pos (show x ≤ j ∧ j < N by omega), q2]
    · rw [if_neg q2, if_neg (show ¬ (x ≤ j ∧ j < N) by omega)]
theorem gi_CL {σ : Sg} {d s x N a k : Nat} : gi (CL σ d s x N) a k = if a = d then (if x ≤ k ∧ k < N then gi σ s k else gi σ d k) else gi σ a k := gi_sia
theorem fl_el {α β : Type} {P : β → Prop} {a : α} {f : α → β} (h : ∀ t, t = a → P (f t)) : P (fl a f) := h a rfl
theorem nI6 : (6 : Int32) = nI 6 := rfl
theorem nI24 : (24 : Int32) = nI 24 := rfl
theorem nI10 : (10 : Int32) = nI 10 := rfl
theorem nI8 : (8 : Int32) = nI 8 := rfl
theorem LF_X12_image_3 : ∀ (n x : Nat) (σ : Sg), x ≤ 8 → (8 - x) + 5 < n → LF_X12_image n 3 (nI x) σ = (gi σ 74 0, CL σ 168 148 x 8) := by
  intro n
  induction n with
  | zero => intro x σ _ h; exact absurd h (Nat.not_lt_zero _)
  | succ n ih =>
    intro x σ hx hn
    show LB_X12_image_241 (LF_X12_image n) (nI x) σ = _
    unfold LB_X12_image_241
    rw [nI8]
    by_cases c : 8 ≤ x
    · rw [if_pos (nI_le c (by omega)), CL_end c]
    · rw [if_neg (nI_ge (by omega) (by omega)), nI_clamp (n := x) (by omega), ← nI_succ]
      simp only [fl_mk]
      rw [ih (x + 1) _ (by omega) (by omega), CL_step (by omega) (by decide +kernel), gi_si_ne (Or.inl (by decide +kernel))]
theorem LF_X12_image_2 : ∀ (n x : Nat) (σ : Sg), x ≤ 10 → (10 - x) + 20 < n → LF_X12_image n 2 (nI x) σ = (gi (CL σ 167 147 x 10) 74 0, CL (CL σ 167 147 x 10) 168 148 0 8) := by
  intro n
  induction n with
  | zero => intro x σ _ h; exact absurd h (Nat.not_lt_zero _)
  | succ n ih =>
    intro x σ hx hn
    show LB_X12_image_215 (LF_X12_image n) (nI x) σ = _
    unfold LB_X12_image_215
    rw [nI10]
    by_cases c : 10 ≤ x
    · rw [if_pos (nI_le c (by omega)), CL_end c, ← nI_0, LF_X12_image_3 n 0 σ (by omega) (by omega)]
    · rw [if_neg (nI_ge (by omega) (by omega)), nI_clamp (n := x) (by omega), ← nI_succ]
      simp only [fl_mk]
      rw [ih (x + 1) _ (by omega) (by omega), CL_step (by omega) (by decide +kernel)]
theorem LF_X12_image_1 : ∀ (n x : Nat) (σ : Sg), x ≤ 24 → (24 - x) + 60 < n → LF_X12_image n 1 (nI x) σ = (gi (CL σ 163 109 x 24) 74 0, CL (CL (CL σ 163 109 x 24) 167 147 0 10) 168 148 0 8) := by
  intro n
  induction n with
  | zero => intro x σ _ h; exact absurd h (Nat.not_lt_zero _)
  | succ n ih =>
    intro x σ hx hn
    show LB_X12_image_189 (LF_X12_image n) (nI x) σ = _
    unfold LB_X12_image_189
    rw [nI24]
    by_cases c : 24 ≤ x
    · rw [if_pos (nI_le c (by omega)), CL_end c, ← nI_0, LF_X12_image_2 n 0 σ (by omega) (by omega)]
      rw [gi_CL, if_neg (show ¬ (74 : Nat) = 167 by decide +kernel)]
    · rw [if_neg (nI_ge (by omega) (by omega)), nI_clamp (n := x) (by omega), ← nI_succ]
      simp only [fl_mk]
      rw [ih (x + 1) _ (by omega) (by omega), CL_step (by omega) (by decide +kernel)]
noncomputable def C_image (σ0 σ : Sg) (x : Nat) : Prop := (∀ k, k < x → gi σ 156 k = gi σ0 103 k ∧ gi σ 157 k = gi σ0 104 k ∧ gi σ 158 k = gi σ0 105 k ∧ gi σ 159 k = gi σ0 106 k ∧ gi σ 160 k = gi σ0 107 k ∧ gi σ 161 k = gi σ0 108 k ∧ gi σ 162 k = gi σ0 110 k ∧ gi σ 164 k = gi σ0 142 k ∧ gi σ 165 k = gi σ0 143 k ∧ gi σ 166 k = gi σ0 144 k) ∧ (∀ a k, ¬ (a = 156 ∨ a = 157 ∨ a = 158 ∨ a = 159 ∨ a = 160 ∨ a = 161 ∨ a = 162 ∨ a = 164 ∨ a = 165 ∨ a = 166) → gi σ a k = gi σ0 a k)
theorem C_image_0 {σ : Sg} : C_image σ σ 0 := ⟨fun k h => absurd h (Nat.not_lt_zero _), fun _ _ _ => rfl⟩
theorem C_image_s {σ0 σ t1 t2 t3 t4 t5 t6 t7 t8 t9 t10 : Sg} {x : Nat} (h : C_image σ0 σ x) (e1 : t1 = si σ 156 x (gi σ 103 x)) (e2 : t2 = si t1 157 x (gi t1 104 x)) (e3 : t3 = si t2 158 x (gi t2 105 x)) (e4 : t4 = si t3 159 x (gi t3 106 x)) (e5 : t5 = si t4 160 x (gi t4 107 x)) (e6 : t6 = si t5 161 x (gi t5 108 x)) (e7 : t7 = si t6 162 x (gi t6 110 x)) (e8 : t8 = si t7 164 x (gi t7 142 x)) (e9 : t9 = si t8 165 x (gi t8 143 x)) (e10 : t10 = si t9 166 x (gi t9 144 x)) : C_image σ0 t10 (x + 1) := by
  obtain ⟨h1, h2⟩ := h
  have g1 : ∀ b k, b ≠ 156 → gi t1 b k = gi σ b k := fun b k hb => by rw [e1, gi_si_ne (Or.inl hb)]
  have s1 : ∀ k, gi t1 156 k = if k = x then gi σ 103 x else gi σ 156 k := fun k => by rw [e1, gi_si]; simp
  have g2 : ∀ b k, b ≠ 157 → gi t2 b k = gi t1 b k := fun b k hb => by rw [e2, gi_si_ne (Or.inl hb)]
  have s2 : ∀ k, gi t2 157 k = if k = x then gi t1 104 x else gi t1 157 k := fun k => by rw [e2, gi_si]; simp
  have g3 : ∀ b k, b ≠ 158 → gi t3 b k = gi t2 b k := fun b k hb => by rw [e3, gi_si_ne (Or.inl hb)]
  have s3 : ∀ k, gi t3 158 k = if k = x then gi t2 105 x else gi t2 158 k := fun k => by rw [e3, gi_si]; simp
  have g4 : ∀ b k, b ≠ 159 → gi t4 b k = gi t3 b k := fun b k hb => by rw [e4, gi_si_ne (Or.inl hb)]
  have s4 : ∀ k, gi t4 159 k = if k = x then gi t3 106 x else gi t3 159 k := fun k => by rw [e4, gi_si]; simp
  have g5 : ∀ b k, b ≠ 160 → gi t5 b k = gi t4 b k := fun b k hb => by rw [e5, gi_si_ne (Or.inl hb)]
  have s5 : ∀ k, gi t5 160 k = if k = x then gi t4 107 x else gi t4 160 k := fun k => by rw [e5, gi_si]; simp
  have g6 : ∀ b k, b ≠ 161 → gi t6 b k = gi t5 b k := fun b k hb => by rw [e6, gi_si_ne (Or.inl hb)]
  have s6 : ∀ k, gi t6 161 k = if k = x then gi t5 108 x else gi t5 161 k := fun k => by rw [e6, gi_si]; simp
  have g7 : ∀ b k, b ≠ 162 → gi t7 b k = gi t6 b k := fun b k hb => by rw [e7, gi_si_ne (Or.inl hb)]
  have s7 : ∀ k, gi t7 162 k = if k = x then gi t6 110 x else gi t6 162 k := fun k => by rw [e7, gi_si]; simp
  have g8 : ∀ b k, b ≠ 164 → gi t8 b k = gi t7 b k := fun b k hb => by rw [e8, gi_si_ne (Or.inl hb)]
  have s8 : ∀ k, gi t8 164 k = if k = x then gi t7 142 x else gi t7 164 k := fun k => by rw [e8, gi_si]; simp
  have g9 : ∀ b k, b ≠ 165 → gi t9 b k = gi t8 b k := fun b k hb => by rw [e9, gi_si_ne (Or.inl hb)]
  have s9 : ∀ k, gi t9 165 k = if k = x then gi t8 143 x else gi t8 165 k := fun k => by rw [e9, gi_si]; simp
  have g10 : ∀ b k, b ≠ 166 → gi t10 b k = gi t9 b k := fun b k hb => by rw [e10, gi_si_ne (Or.inl hb)]
  have s10 : ∀ k, gi t10 166 k = if k = x then gi t9 144 x else gi t9 166 k := fun k => by rw [e10, gi_si]; simp
  have f1 : ∀ k, k < x + 1 → gi t10 156 k = gi σ0 103 k := fun k hk => by
    rw [g10 _ _ (by decide +kernel)]; rw [g9 _ _ (by decide +kernel)]; rw [g8 _ _ (by decide +kernel)]; rw [g7 _ _ (by decide +kernel)]; rw [g6 _ _ (by decide +kernel)]; rw [g5 _ _ (by decide +kernel)]; rw [g4 _ _ (by decide +kernel)]; rw [g3 _ _ (by decide +kernel)]; rw [g2 _ _ (by decide +kernel)]
    rw [s1]
    by_cases q : k = x
    · rw [if_pos q]; rw [q]; exact h2 103 x (by decide +kernel)
    · rw [if_neg q]; exact (h1 k (by omega)).1
  have f2 : ∀ k, k < x + 1 → gi t10 157 k = gi σ0 104 k := fun k hk => by
    rw [g10 _ _ (by decide +kernel)]; rw [g9 _ _ (by decide +kernel)]; rw [g8 _ _ (by decide +kernel)]; rw [g7 _ _ (by decide +kernel)]; rw [g6 _ _ (by decide +kernel)]; rw [g5 _ _ (by decide +kernel)]; rw [g4 _ _ (by decide +kernel)]; rw [g3 _ _ (by decide +kernel)]
    rw [s2]
    by_cases q : k = x
    · rw [if_pos q]; rw [g1 104 _ (by decide +kernel)]; rw [q]; exact h2 104 x (by decide +kernel)
    · rw [if_neg q]; rw [g1 157 _ (by decide +kernel)]; exact (h1 k (by omega)).2.1
  have f3 : ∀ k, k < x + 1 → gi t10 158 k = gi σ0 105 k := fun k hk => by
    rw [g10 _ _ (by decide +kernel)]; rw [g9 _ _ (by decide +kernel)]; rw [g8 _ _ (by decide +kernel)]; rw [g7 _ _ (by decide +kernel)]; rw [g6 _ _ (by decide +kernel)]; rw [g5 _ _ (by decide +kernel)]; rw [g4 _ _ (by decide +kernel)]
    rw [s3]
    by_cases q : k = x
    · rw [if_pos q]; rw [g2 105 _ (by decide +kernel)]; rw [g1 105 _ (by decide +kernel)]; rw [q]; exact h2 105 x (by decide +kernel)
    · rw [if_neg q]; rw [g2 158 _ (by decide +kernel)]; rw [g1 158 _ (by decide +kernel)]; exact (h1 k (by omega)).2.2.1
  have f4 : ∀ k, k < x + 1 → gi t10 159 k = gi σ0 106 k := fun k hk => by
    rw [g10 _ _ (by decide +kernel)]; rw [g9 _ _ (by decide +kernel)]; rw [g8 _ _ (by decide +kernel)]; rw [g7 _ _ (by decide +kernel)]; rw [g6 _ _ (by decide +kernel)]; rw [g5 _ _ (by decide +kernel)]
    rw [s4]
    by_cases q : k = x
    · rw [if_pos q]; rw [g3 106 _ (by decide +kernel)]; rw [g2 106 _ (by decide +kernel)]; rw [g1 106 _ (by decide +kernel)]; rw [q]; exact h2 106 x (by decide +kernel)
    · rw [if_neg q]; rw [g3 159 _ (by decide +kernel)]; rw [g2 159 _ (by decide +kernel)]; rw [g1 159 _ (by decide +kernel)]; exact (h1 k (by omega)).2.2.2.1
  have f5 : ∀ k, k < x + 1 → gi t10 160 k = gi σ0 107 k := fun k hk => by
    rw [g10 _ _ (by decide +kernel)]; rw [g9 _ _ (by decide +kernel)]; rw [g8 _ _ (by decide +kernel)]; rw [g7 _ _ (by decide +kernel)]; rw [g6 _ _ (by decide +kernel)]
    rw [s5]
    by_cases q : k = x
    · rw [if_pos q]; rw [g4 107 _ (by decide +kernel)]; rw [g3 107 _ (by decide +kernel)]; rw [g2 107 _ (by decide +kernel)]; rw [g1 107 _ (by decide +kernel)]; rw [q]; exact h2 107 x (by decide +kernel)
    · rw [if_neg q]; rw [g4 160 _ (by decide +kernel)]; rw [g3 160 _ (by decide +kernel)]; rw [g2 160 _ (by decide +kernel)]; rw [g1 160 _ (by decide +kernel)]; exact (h1 k (by omega)).2.2.2.2.1
  have f6 : ∀ k, k < x + 1 → gi t10 161 k = gi σ0 108 k := fun k hk => by
    rw [g10 _ _ (by decide +kernel)]; rw [g9 _ _ (by decide +kernel)]; rw [g8 _ _ (by decide +kernel)]; rw [g7 _ _ (by decide +kernel)]
    rw [s6]
    by_cases q : k = x
    · rw [if_pos q]; rw [g5 108 _ (by decide +kernel)]; rw [g4 108 _ (by decide +kernel)]; rw [g3 108 _ (by decide +kernel)]; rw [g2 108 _ (by decide +kernel)]; rw [g1 108 _ (by decide +kernel)]; rw [q]; exact h2 108 x (by decide +kernel)
    · rw [if_neg q]; rw [g5 161 _ (by decide +kernel)]; rw [g4 161 _ (by decide +kernel)]; rw [g3 161 _ (by decide +kernel)]; rw [g2 161 _ (by decide +kernel)]; rw [g1 161 _ (by decide +kernel)]; exact (h1 k (by omega)).2.2.2.2.2.1
  have f7 : ∀ k, k < x + 1 → gi t10 162 k = gi σ0 110 k := fun k hk => by
    rw [g10 _ _ (by decide +kernel)]; rw [g9 _ _ (by decide +kernel)]; rw [g8 _ _ (by decide +kernel)]
    rw [s7]
    by_cases q : k = x
    · rw [if_pos q]; rw [g6 110 _ (by decide +kernel)]; rw [g5 110 _ (by decide +kernel)]; rw [g4 110 _ (by decide +kernel)]; rw [g3 110 _ (by decide +kernel)]; rw [g2 110 _ (by decide +kernel)]; rw [g1 110 _ (by decide +kernel)]; rw [q]; exact h2 110 x (by decide +kernel)
    · rw [if_neg q]; rw [g6 162 _ (by decide +kernel)]; rw [g5 162 _ (by decide +kernel)]; rw [g4 162 _ (by decide +kernel)]; rw [g3 162 _ (by decide +kernel)]; rw [g2 162 _ (by decide +kernel)]; rw [g1 162 _ (by decide +kernel)]; exact (h1 k (by omega)).2.2.2.2.2.2.1
  have f8 : ∀ k, k < x + 1 → gi t10 164 k = gi σ0 142 k := fun k hk => by
    rw [g10 _ _ (by decide +kernel)]; rw [g9 _ _ (by decide +kernel)]
    rw [s8]
    by_cases q : k = x
    · rw [if_pos q]; rw [g7 142 _ (by decide +kernel)]; rw [g6 142 _ (by decide +kernel)]; rw [g5 142 _ (by decide +kernel)]; rw [g4 142 _ (by decide +kernel)]; rw [g3 142 _ (by decide +kernel)]; rw [g2 142 _ (by decide +kernel)]; rw [g1 142 _ (by decide +kernel)]; rw [q]; exact h2 142 x (by decide +kernel)
    · rw [if_neg q]; rw [g7 164 _ (by decide +kernel)]; rw [g6 164 _ (by decide +kernel)]; rw [g5 164 _ (by decide +kernel)]; rw [g4 164 _ (by decide +kernel)]; rw [g3 164 _ (by decide +kernel)]; rw [g2 164 _ (by decide +kernel)]; rw [g1 164 _ (by decide +kernel)]; exact (h1 k (by omega)).2.2.2.2.2.2.2.1
  have f9 : ∀ k, k < x + 1 → gi t10 165 k = gi σ0 143 k := fun k hk => by
    rw [g10 _ _ (by decide +kernel)]
    rw [s9]
    by_cases q : k = x
    · rw [if_pos q]; rw [g8 143 _ (by decide +kernel)]; rw [g7 143 _ (by decide +kernel)]; rw [g6 143 _ (by decide +kernel)]; rw [g5 143 _ (by decide +kernel)]; rw [g4 143 _ (by decide +kernel)]; rw [g3 143 _ (by decide +kernel)]; rw [g2 143 _ (by decide +kernel)]; rw [g1 143 _ (by decide +kernel)]; rw [q]; exact h2 143 x (by decide +kernel)
    · rw [if_neg q]; rw [g8 165 _ (by decide +kernel)]; rw [g7 165 _ (by decide +kernel)]; rw [g6 165 _ (by decide +kernel)]; rw [g5 165 _ (by decide +kernel)]; rw [g4 165 _ (by decide +kernel)]; rw [g3 165 _ (by decide +kernel)]; rw [g2 165 _ (by decide +kernel)]; rw [g1 165 _ (by decide +kernel)]; exact (h1 k (by omega)).2.2.2.2.2.2.2.2.1
  have f10 : ∀ k, k < x + 1 → gi t10 166 k = gi σ0 144 k := fun k hk => by
    rw [s10]
    by_cases q : k = x
    · rw [if_pos q]; rw [g9 144 _ (by decide +kernel)]; rw [g8 144 _ (by decide +kernel)]; rw [g7 144 _ (by decide +kernel)]; rw [g6 144 _ (by decide +kernel)]; rw [g5 144 _ (by decide +kernel)]; rw [g4 144 _ (by decide +kernel)]; rw [g3 144 _ (by decide +kernel)]; rw [g2 144 _ (by decide +kernel)]; rw [g1 144 _ (by decide +kernel)]; rw [q]; exact h2 144 x (by decide +kernel)
    · rw [if_neg q]; rw [g9 166 _ (by decide +kernel)]; rw [g8 166 _ (by decide +kernel)]; rw [g7 166 _ (by decide +kernel)]; rw [g6 166 _ (by decide +kernel)]; rw [g5 166 _ (by decide +kernel)]; rw [g4 166 _ (by decide +kernel)]; rw [g3 166 _ (by decide +kernel)]; rw [g2 166 _ (by decide +kernel)]; rw [g1 166 _ (by decide +kernel)]; exact (h1 k (by omega)).2.2.2.2.2.2.2.2.2
  refine ⟨fun k hk => ⟨f1 k hk, f2 k hk, f3 k hk, f4 k hk, f5 k hk, f6 k hk, f7 k hk, f8 k hk, f9 k hk, f10 k hk⟩, fun a k ha => ?_⟩
  rw [g10 _ _ (fun e => ha (by omega))]; rw [g9 _ _ (fun e => ha (by omega))]; rw [g8 _ _ (fun e => ha (by omega))]; rw [g7 _ _ (fun e => ha (by omega))]; rw [g6 _ _ (fun e => ha (by omega))]; rw [g5 _ _ (fun e => ha (by omega))]; rw [g4 _ _ (fun e => ha (by omega))]; rw [g3 _ _ (fun e => ha (by omega))]; rw [g2 _ _ (fun e => ha (by omega))]; rw [g1 _ _ (fun e => ha (by omega))]
  exact h2 a k ha
noncomputable def Q_image (σ0 : Sg) (p : Int32 × Sg) : Prop := ∃ σ1, C_image σ0 σ1 6 ∧ p = (gi (CL σ1 163 109 0 24) 74 0, CL (CL (CL (σ1) 163 109 0 24) 167 147 0 10) 168 148 0 8)
theorem LF_X12_image_0 {σ0 : Sg} : ∀ (n x : Nat) (σ : Sg), x ≤ 6 → (6 - x) + 120 < n → C_image σ0 σ x → Q_image σ0 (LF_X12_image n 0 (nI x) σ) := by
  intro n
  induction n with
  | zero => intro x σ _ h; exact absurd h (Nat.not_lt_zero _)
  | succ n ih =>
    intro x σ hx hn h
    show Q_image σ0 (LB_X12_image_55 (LF_X12_image n) (nI x) σ)
    unfold LB_X12_image_55
    rw [nI6]
    by_cases c : 6 ≤ x
    · rw [if_pos (nI_le c (by omega)), ← nI_0, LF_X12_image_1 n 0 σ (by omega) (by omega)]
      have e : x = 6 := by omega
      rw [e] at h
      exact ⟨σ, h, rfl⟩
    · rw [if_neg (nI_ge (by omega) (by omega)), nI_clamp (n := x) (by omega), ← nI_succ]
      refine fl_el (P := Q_image σ0) (fun t1 e1 => ?_)
      refine fl_el (P := Q_image σ0) (fun t2 e2 => ?_)
      refine fl_el (P := Q_image σ0) (fun t3 e3 => ?_)
      refine fl_el (P := Q_image σ0) (fun t4 e4 => ?_)
      refine fl_el (P := Q_image σ0) (fun t5 e5 => ?_)
      refine fl_el (P := Q_image σ0) (fun t6 e6 => ?_)
      refine fl_el (P := Q_image σ0) (fun t7 e7 => ?_)
      refine fl_el (P := Q_image σ0) (fun t8 e8 => ?_)
      refine fl_el (P := Q_image σ0) (fun t9 e9 => ?_)
      refine fl_el (P := Q_image σ0) (fun t10 e10 => ?_)
      rw [fl_mk]
      exact ih (x + 1) t10 (by omega) (by omega) (C_image_s h e1 e2 e3 e4 e5 e6 e7 e8 e9 e10)
theorem N_mimage {σ σ' : Sg} {r : Int32} (hf : F_X12_image σ = (r, σ')) : (∀ k, k < 6 → gi σ' 156 k = gi σ 103 k ∧ gi σ' 157 k = gi σ 104 k ∧ gi σ' 158 k = gi σ 105 k ∧ gi σ' 159 k = gi σ 106 k ∧ gi σ' 160 k = gi σ 107 k ∧ gi σ' 161 k = gi σ 108 k ∧ gi σ' 162 k = gi σ 110 k ∧ gi σ' 164 k = gi σ 142 k ∧ gi σ' 165 k = gi σ 143 k ∧ gi σ' 166 k = gi σ 144 k) ∧ (∀ k, k < 24 → gi σ' 163 k = gi σ 109 k) ∧ (∀ k, k < 10 → gi σ' 167 k = gi σ 147 k) ∧ (∀ k, k < 8 → gi σ' 168 k = gi σ 148 k) ∧ (∀ a k, ¬ (a = 156 ∨ a = 157 ∨ a = 158 ∨ a = 159 ∨ a = 160 ∨ a = 161 ∨ a = 162 ∨ a = 164 ∨ a = 165 ∨ a = 166 ∨ a = 163 ∨ a = 167 ∨ a = 168 ∨ a = 74) → gi σ' a k = gi σ a k) := by
  unfold F_X12_image at hf
  obtain ⟨b0, eb0⟩ : ∃ s, s = si σ 74 49 ((1 : Int32)) := ⟨_, rfl⟩
  replace hf := f_l eb0 hf
  have gb0 : ∀ a k, a ≠ 74 → gi b0 a k = gi σ a k := fun a k ha => by rw [eb0, gi_si_ne (Or.inl ha)]
  obtain ⟨b1, eb1⟩ : ∃ s, s = si b0 74 50 (gi b0 74 12) := ⟨_, rfl⟩
  replace hf := f_l eb1 hf
  have gb1 : ∀ a k, a ≠ 74 → gi b1 a k = gi b0 a k := fun a k ha => by rw [eb1, gi_si_ne (Or.inl ha)]
  obtain ⟨b2, eb2⟩ : ∃ s, s = si b1 74 51 (gi b1 74 0) := ⟨_, rfl⟩
  replace hf := f_l eb2 hf
  have gb2 : ∀ a k, a ≠ 74 → gi b2 a k = gi b1 a k := fun a k ha => by rw [eb2, gi_si_ne (Or.inl ha)]
  obtain ⟨b3, eb3⟩ : ∃ s, s = si b2 74 52 (gi b2 74 1) := ⟨_, rfl⟩
  replace hf := f_l eb3 hf
  have gb3 : ∀ a k, a ≠ 74 → gi b3 a k = gi b2 a k := fun a k ha => by rw [eb3, gi_si_ne (Or.inl ha)]
  obtain ⟨b4, eb4⟩ : ∃ s, s = si b3 74 53 (gi b3 74 41) := ⟨_, rfl⟩
  replace hf := f_l eb4 hf
  have gb4 : ∀ a k, a ≠ 74 → gi b4 a k = gi b3 a k := fun a k ha => by rw [eb4, gi_si_ne (Or.inl ha)]
  obtain ⟨b5, eb5⟩ : ∃ s, s = si b4 74 54 (gi b4 74 45) := ⟨_, rfl⟩
  replace hf := f_l eb5 hf
  have gb5 : ∀ a k, a ≠ 74 → gi b5 a k = gi b4 a k := fun a k ha => by rw [eb5, gi_si_ne (Or.inl ha)]
  obtain ⟨b6, eb6⟩ : ∃ s, s = si b5 74 55 (gi b5 74 46) := ⟨_, rfl⟩
  replace hf := f_l eb6 hf
  have gb6 : ∀ a k, a ≠ 74 → gi b6 a k = gi b5 a k := fun a k ha => by rw [eb6, gi_si_ne (Or.inl ha)]
  have g0 : ∀ a k, a ≠ 74 → gi b6 a k = gi σ a k := fun a k ha => by rw [gb6 a k ha, gb5 a k ha, gb4 a k ha, gb3 a k ha, gb2 a k ha, gb1 a k ha, gb0 a k ha]
  rw [← nI_0] at hf
  have hz0 : LF_X12_image 900 0 (nI 0) b6 = (r, σ') := hf
  obtain ⟨s, ⟨c1, c2⟩, e⟩ := LF_X12_image_0 (σ0 := b6) 900 0 b6 (by decide +kernel) (by decide +kernel) C_image_0
  rw [e] at hz0
  obtain ⟨-, rfl⟩ := Prod.mk.inj hz0
  have q1 : ∀ a k, gi (CL (CL (CL s 163 109 0 24) 167 147 0 10) 168 148 0 8) a k = if a = 168 then (if 0 ≤ k ∧ k < 8 then gi s 148 k else gi s 168 k) else if a = 167 then (if 0 ≤ k ∧ k < 10 then gi s 147 k else gi s 167 k) else if a = 163 then (if 0 ≤ k ∧ k < 24 then gi s 109 k else gi s 163 k) else gi s a k := fun a k => by
    simp only [gi_CL]; simp
  refine ⟨fun k hk => ?_, fun k hk => ?_, fun k hk => ?_, fun k hk => ?_, fun a k ha => ?_⟩
  · obtain ⟨d0, d1, d2, d3, d4, d5, d6, d7, d8, d9⟩ := c1 k hk
    refine ⟨?_, ?_, ?_, ?_, ?_, ?_, ?_, ?_, ?_, ?_⟩ <;> (rw [q1]; simp)
    · rw [d0]; exact g0 _ _ (by decide +kernel)
    · rw [d1]; exact g0 _ _ (by decide +kernel)
    · rw [d2]; exact g0 _ _ (by decide +kernel)
    · rw [d3]; exact g0 _ _ (by decide +kernel)
    · rw [d4]; exact g0 _ _ (by decide +kernel)
    · rw [d5]; exact g0 _ _ (by decide +kernel)
    · rw [d6]; exact g0 _ _ (by decide +kernel)
    · rw [d7]; exact g0 _ _ (by decide +kernel)
    · rw [d8]; exact g0 _ _ (by decide +kernel)
    · rw [d9]; exact g0 _ _ (by decide +kernel)
  · rw [q1]; simp [hk]; rw [c2 _ _ (by decide +kernel)]; exact g0 _ _ (by decide +kernel)
  · rw [q1]; simp [hk]; rw [c2 _ _ (by decide +kernel)]; exact g0 _ _ (by decide +kernel)
  · rw [q1]; simp [hk]; rw [c2 _ _ (by decide +kernel)]; exact g0 _ _ (by decide +kernel)
  · rw [q1, if_neg (fun e => ha (by omega)), if_neg (fun e => ha (by omega)), if_neg (fun e => ha (by omega)), c2 _ _ (fun e => ha (by omega))]; exact g0 _ _ (fun e => ha (by omega))
theorem LF_X12_undo_3 : ∀ (n x : Nat) (σ : Sg), x ≤ 8 → (8 - x) + 5 < n → LF_X12_undo n 3 (nI x) σ = (gi σ 74 0, CL σ 148 168 x 8) := by
  intro n
  induction n with
  | zero => intro x σ _ h; exact absurd h (Nat.not_lt_zero _)
  | succ n ih =>
    intro x σ hx hn
    show LB_X12_undo_254 (LF_X12_undo n) (nI x) σ = _
    unfold LB_X12_undo_254
    rw [nI8]
    by_cases c : 8 ≤ x
    · rw [if_pos (nI_le c (by omega)), CL_end c]
    · rw [if_neg (nI_ge (by omega) (by omega)), nI_clamp (n := x) (by omega), ← nI_succ]
      simp only [fl_mk]
      rw [ih (x + 1) _ (by omega) (by omega), CL_step (by omega) (by decide +kernel), gi_si_ne (Or.inl (by decide +kernel))]
theorem LF_X12_undo_2 : ∀ (n x : Nat) (σ : Sg), x ≤ 10 → (10 - x) + 20 < n → LF_X12_undo n 2 (nI x) σ = (gi (CL σ 147 167 x 10) 74 0, CL (CL σ 147 167 x 10) 148 168 0 8) := by
  intro n
  induction n with
  | zero => intro x σ _ h; exact absurd h (Nat.not_lt_zero _)
  | succ n ih =>
    intro x σ hx hn
    show LB_X12_undo_228 (LF_X12_undo n) (nI x) σ = _
    unfold LB_X12_undo_228
    rw [nI10]
    by_cases c : 10 ≤ x
    · rw [if_pos (nI_le c (by omega)), CL_end c, ← nI_0, LF_X12_undo_3 n 0 σ (by omega) (by omega)]
    · rw [if_neg (nI_ge (by omega) (by omega)), nI_clamp (n := x) (by omega), ← nI_succ]
      simp only [fl_mk]
      rw [ih (x + 1) _ (by omega) (by omega), CL_step (by omega) (by decide +kernel)]
theorem LF_X12_undo_1 : ∀ (n x : Nat) (σ : Sg), x ≤ 24 → (24 - x) + 60 < n → LF_X12_undo n 1 (nI x) σ = (gi (CL σ 109 163 x 24) 74 0, CL (CL (CL σ 109 163 x 24) 147 167 0 10) 148 168 0 8) := by
  intro n
  induction n with
  | zero => intro x σ _ h; exact absurd h (Nat.not_lt_zero _)
  | succ n ih =>
    intro x σ hx hn
    show LB_X12_undo_202 (LF_X12_undo n) (nI x) σ = _
    unfold LB_X12_undo_202
    rw [nI24]
    by_cases c : 24 ≤ x
    · rw [if_pos (nI_le c (by omega)), CL_end c, ← nI_0, LF_X12_undo_2 n 0 σ (by omega) (by omega)]
      rw [gi_CL, if_neg (show ¬ (74 : Nat) = 147 by decide +kernel)]
    · rw [if_neg (nI_ge (by omega) (by omega)), nI_clamp (n := x) (by omega), ← nI_succ]
      simp only [fl_mk]
      rw [ih (x + 1) _ (by omega) (by omega), CL_step (by omega) (by decide +kernel)]
noncomputable def C_undo (σ0 σ : Sg) (x : Nat) : Prop := (∀ k, k < x → gi σ 103 k = gi σ0 156 k ∧ gi σ 104 k = gi σ0 157 k ∧ gi σ 105 k = gi σ0 158 k ∧ gi σ 106 k = gi σ0 159 k ∧ gi σ 107 k = gi σ0 160 k ∧ gi σ 108 k = gi σ0 161 k ∧ gi σ 110 k = gi σ0 162 k ∧ gi σ 142 k = gi σ0 164 k ∧ gi σ 143 k = gi σ0 165 k ∧ gi σ 144 k = gi σ0 166 k) ∧ (∀ a k, ¬ (a = 103 ∨ a = 104 ∨ a = 105 ∨ a = 106 ∨ a = 107 ∨ a = 108 ∨ a = 110 ∨ a = 142 ∨ a = 143 ∨ a = 144) → gi σ a k = gi σ0 a k)
theorem C_undo_0 {σ : Sg} : C_undo σ σ 0 := ⟨fun k h => absurd h (Nat.not_lt_zero _), fun _ _ _ => rfl⟩
theorem C_undo_s {σ0 σ t1 t2 t3 t4 t5 t6 t7 t8 t9 t10 : Sg} {x : Nat} (h : C_undo σ0 σ x) (e1 : t1 = si σ 103 x (gi σ 156 x)) (e2 : t2 = si t1 104 x (gi t1 157 x)) (e3 : t3 = si t2 105 x (gi t2 158 x)) (e4 : t4 = si t3 106 x (gi t3 159 x)) (e5 : t5 = si t4 107 x (gi t4 160 x)) (e6 : t6 = si t5 108 x (gi t5 161 x)) (e7 : t7 = si t6 110 x (gi t6 162 x)) (e8 : t8 = si t7 142 x (gi t7 164 x)) (e9 : t9 = si t8 143 x (gi t8 165 x)) (e10 : t10 = si t9 144 x (gi t9 166 x)) : C_undo σ0 t10 (x + 1) := by
  obtain ⟨h1, h2⟩ := h
  have g1 : ∀ b k, b ≠ 103 → gi t1 b k = gi σ b k := fun b k hb => by rw [e1, gi_si_ne (Or.inl hb)]
  have s1 : ∀ k, gi t1 103 k = if k = x then gi σ 156 x else gi σ 103 k := fun k => by rw [e1, gi_si]; simp
  have g2 : ∀ b k, b ≠ 104 → gi t2 b k = gi t1 b k := fun b k hb => by rw [e2, gi_si_ne (Or.inl hb)]
  have s2 : ∀ k, gi t2 104 k = if k = x then gi t1 157 x else gi t1 104 k := fun k => by rw [e2, gi_si]; simp
  have g3 : ∀ b k, b ≠ 105 → gi t3 b k = gi t2 b k := fun b k hb => by rw [e3, gi_si_ne (Or.inl hb)]
  have s3 : ∀ k, gi t3 105 k = if k = x then gi t2 158 x else gi t2 105 k := fun k => by rw [e3, gi_si]; simp
  have g4 : ∀ b k, b ≠ 106 → gi t4 b k = gi t3 b k := fun b k hb => by rw [e4, gi_si_ne (Or.inl hb)]
  have s4 : ∀ k, gi t4 106 k = if k = x then gi t3 159 x else gi t3 106 k := fun k => by rw [e4, gi_si]; simp
  have g5 : ∀ b k, b ≠ 107 → gi t5 b k = gi t4 b k := fun b k hb => by rw [e5, gi_si_ne (Or.inl hb)]
  have s5 : ∀ k, gi t5 107 k = if k = x then gi t4 160 x else gi t4 107 k := fun k => by rw [e5, gi_si]; simp
  have g6 : ∀ b k, b ≠ 108 → gi t6 b k = gi t5 b k := fun b k hb => by rw [e6, gi_si_ne (Or.inl hb)]
  have s6 : ∀ k, gi t6 108 k = if k = x then gi t5 161 x else gi t5 108 k := fun k => by rw [e6, gi_si]; simp
  have g7 : ∀ b k, b ≠ 110 → gi t7 b k = gi t6 b k := fun b k hb => by rw [e7, gi_si_ne (Or.inl hb)]
  have s7 : ∀ k, gi t7 110 k = if k = x then gi t6 162 x else gi t6 110 k := fun k => by rw [e7, gi_si]; simp
  have g8 : ∀ b k, b ≠ 142 → gi t8 b k = gi t7 b k := fun b k hb => by rw [e8, gi_si_ne (Or.inl hb)]
  have s8 : ∀ k, gi t8 142 k = if k = x then gi t7 164 x else gi t7 142 k := fun k => by rw [e8, gi_si]; simp
  have g9 : ∀ b k, b ≠ 143 → gi t9 b k = gi t8 b k := fun b k hb => by rw [e9, gi_si_ne (Or.inl hb)]
  have s9 : ∀ k, gi t9 143 k = if k = x then gi t8 165 x else gi t8 143 k := fun k => by rw [e9, gi_si]; simp
  have g10 : ∀ b k, b ≠ 144 → gi t10 b k = gi t9 b k := fun b k hb => by rw [e10, gi_si_ne (Or.inl hb)]
  have s10 : ∀ k, gi t10 144 k = if k = x then gi t9 166 x else gi t9 144 k := fun k => by rw [e10, gi_si]; simp
  have f1 : ∀ k, k < x + 1 → gi t10 103 k = gi σ0 156 k := fun k hk => by
    rw [g10 _ _ (by decide +kernel)]; rw [g9 _ _ (by decide +kernel)]; rw [g8 _ _ (by decide +kernel)]; rw [g7 _ _ (by decide +kernel)]; rw [g6 _ _ (by decide +kernel)]; rw [g5 _ _ (by decide +kernel)]; rw [g4 _ _ (by decide +kernel)]; rw [g3 _ _ (by decide +kernel)]; rw [g2 _ _ (by decide +kernel)]
    rw [s1]
    by_cases q : k = x
    · rw [if_pos q]; rw [q]; exact h2 156 x (by decide +kernel)
    · rw [if_neg q]; exact (h1 k (by omega)).1
  have f2 : ∀ k, k < x + 1 → gi t10 104 k = gi σ0 157 k := fun k hk => by
    rw [g10 _ _ (by decide +kernel)]; rw [g9 _ _ (by decide +kernel)]; rw [g8 _ _ (by decide +kernel)]; rw [g7 _ _ (by decide +kernel)]; rw [g6 _ _ (by decide +kernel)]; rw [g5 _ _ (by decide +kernel)]; rw [g4 _ _ (by decide +kernel)]; rw [g3 _ _ (by decide +kernel)]
    rw [s2]
    by_cases q : k = x
    · rw [if_pos q]; rw [g1 157 _ (by decide +kernel)]; rw [q]; exact h2 157 x (by decide +kernel)
    · rw [if_neg q]; rw [g1 104 _ (by decide +kernel)]; exact (h1 k (by omega)).2.1
  have f3 : ∀ k, k < x + 1 → gi t10 105 k = gi σ0 158 k := fun k hk => by
    rw [g10 _ _ (by decide +kernel)]; rw [g9 _ _ (by decide +kernel)]; rw [g8 _ _ (by decide +kernel)]; rw [g7 _ _ (by decide +kernel)]; rw [g6 _ _ (by decide +kernel)]; rw [g5 _ _ (by decide +kernel)]; rw [g4 _ _ (by decide +kernel)]
    rw [s3]
    by_cases q : k = x
    · rw [if_pos q]; rw [g2 158 _ (by decide +kernel)]; rw [g1 158 _ (by decide +kernel)]; rw [q]; exact h2 158 x (by decide +kernel)
    · rw [if_neg q]; rw [g2 105 _ (by decide +kernel)]; rw [g1 105 _ (by decide +kernel)]; exact (h1 k (by omega)).2.2.1
  have f4 : ∀ k, k < x + 1 → gi t10 106 k = gi σ0 159 k := fun k hk => by
    rw [g10 _ _ (by decide +kernel)]; rw [g9 _ _ (by decide +kernel)]; rw [g8 _ _ (by decide +kernel)]; rw [g7 _ _ (by decide +kernel)]; rw [g6 _ _ (by decide +kernel)]; rw [g5 _ _ (by decide +kernel)]
    rw [s4]
    by_cases q : k = x
    · rw [if_pos q]; rw [g3 159 _ (by decide +kernel)]; rw [g2 159 _ (by decide +kernel)]; rw [g1 159 _ (by decide +kernel)]; rw [q]; exact h2 159 x (by decide +kernel)
    · rw [if_neg q]; rw [g3 106 _ (by decide +kernel)]; rw [g2 106 _ (by decide +kernel)]; rw [g1 106 _ (by decide +kernel)]; exact (h1 k (by omega)).2.2.2.1
  have f5 : ∀ k, k < x + 1 → gi t10 107 k = gi σ0 160 k := fun k hk => by
    rw [g10 _ _ (by decide +kernel)]; rw [g9 _ _ (by decide +kernel)]; rw [g8 _ _ (by decide +kernel)]; rw [g7 _ _ (by decide +kernel)]; rw [g6 _ _ (by decide +kernel)]
    rw [s5]
    by_cases q : k = x
    · rw [if_pos q]; rw [g4 160 _ (by decide +kernel)]; rw [g3 160 _ (by decide +kernel)]; rw [g2 160 _ (by decide +kernel)]; rw [g1 160 _ (by decide +kernel)]; rw [q]; exact h2 160 x (by decide +kernel)
    · rw [if_neg q]; rw [g4 107 _ (by decide +kernel)]; rw [g3 107 _ (by decide +kernel)]; rw [g2 107 _ (by decide +kernel)]; rw [g1 107 _ (by decide +kernel)]; exact (h1 k (by omega)).2.2.2.2.1
  have f6 : ∀ k, k < x + 1 → gi t10 108 k = gi σ0 161 k := fun k hk => by
    rw [g10 _ _ (by decide +kernel)]; rw [g9 _ _ (by decide +kernel)]; rw [g8 _ _ (by decide +kernel)]; rw [g7 _ _ (by decide +kernel)]
    rw [s6]
    by_cases q : k = x
    · rw [if_pos q]; rw [g5 161 _ (by decide +kernel)]; rw [g4 161 _ (by decide +kernel)]; rw [g3 161 _ (by decide +kernel)]; rw [g2 161 _ (by decide +kernel)]; rw [g1 161 _ (by decide +kernel)]; rw [q]; exact h2 161 x (by decide +kernel)
    · rw [if_neg q]; rw [g5 108 _ (by decide +kernel)]; rw [g4 108 _ (by decide +kernel)]; rw [g3 108 _ (by decide +kernel)]; rw [g2 108 _ (by decide +kernel)]; rw [g1 108 _ (by decide +kernel)]; exact (h1 k (by omega)).2.2.2.2.2.1
  have f7 : ∀ k, k < x + 1 → gi t10 110 k = gi σ0 162 k := fun k hk => by
    rw [g10 _ _ (by decide +kernel)]; rw [g9 _ _ (by decide +kernel)]; rw [g8 _ _ (by decide +kernel)]
    rw [s7]
    by_cases q : k = x
    · rw [if_pos q]; rw [g6 162 _ (by decide +kernel)]; rw [g5 162 _ (by decide +kernel)]; rw [g4 162 _ (by decide +kernel)]; rw [g3 162 _ (by decide +kernel)]; rw [g2 162 _ (by decide +kernel)]; rw [g1 162 _ (by decide +kernel)]; rw [q]; exact h2 162 x (by decide +kernel)
    · rw [if_neg q]; rw [g6 110 _ (by decide +kernel)]; rw [g5 110 _ (by decide +kernel)]; rw [g4 110 _ (by decide +kernel)]; rw [g3 110 _ (by decide +kernel)]; rw [g2 110 _ (by decide +kernel)]; rw [g1 110 _ (by decide +kernel)]; exact (h1 k (by omega)).2.2.2.2.2.2.1
  have f8 : ∀ k, k < x + 1 → gi t10 142 k = gi σ0 164 k := fun k hk => by
    rw [g10 _ _ (by decide +kernel)]; rw [g9 _ _ (by decide +kernel)]
    rw [s8]
    by_cases q : k = x
    · rw [if_pos q]; rw [g7 164 _ (by decide +kernel)]; rw [g6 164 _ (by decide +kernel)]; rw [g5 164 _ (by decide +kernel)]; rw [g4 164 _ (by decide +kernel)]; rw [g3 164 _ (by decide +kernel)]; rw [g2 164 _ (by decide +kernel)]; rw [g1 164 _ (by decide +kernel)]; rw [q]; exact h2 164 x (by decide +kernel)
    · rw [if_neg q]; rw [g7 142 _ (by decide +kernel)]; rw [g6 142 _ (by decide +kernel)]; rw [g5 142 _ (by decide +kernel)]; rw [g4 142 _ (by decide +kernel)]; rw [g3 142 _ (by decide +kernel)]; rw [g2 142 _ (by decide +kernel)]; rw [g1 142 _ (by decide +kernel)]; exact (h1 k (by omega)).2.2.2.2.2.2.2.1
  have f9 : ∀ k, k < x + 1 → gi t10 143 k = gi σ0 165 k := fun k hk => by
    rw [g10 _ _ (by decide +kernel)]
    rw [s9]
    by_cases q : k = x
    · rw [if_pos q]; rw [g8 165 _ (by decide +kernel)]; rw [g7 165 _ (by decide +kernel)]; rw [g6 165 _ (by decide +kernel)]; rw [g5 165 _ (by decide +kernel)]; rw [g4 165 _ (by decide +kernel)]; rw [g3 165 _ (by decide +kernel)]; rw [g2 165 _ (by decide +kernel)]; rw [g1 165 _ (by decide +kernel)]; rw [q]; exact h2 165 x (by decide +kernel)
    · rw [if_neg q]; rw [g8 143 _ (by decide +kernel)]; rw [g7 143 _ (by decide +kernel)]; rw [g6 143 _ (by decide +kernel)]; rw [g5 143 _ (by decide +kernel)]; rw [g4 143 _ (by decide +kernel)]; rw [g3 143 _ (by decide +kernel)]; rw [g2 143 _ (by decide +kernel)]; rw [g1 143 _ (by decide +kernel)]; exact (h1 k (by omega)).2.2.2.2.2.2.2.2.1
  have f10 : ∀ k, k < x + 1 → gi t10 144 k = gi σ0 166 k := fun k hk => by
    rw [s10]
    by_cases q : k = x
    · rw [if_pos q]; rw [g9 166 _ (by decide +kernel)]; rw [g8 166 _ (by decide +kernel)]; rw [g7 166 _ (by decide +kernel)]; rw [g6 166 _ (by decide +kernel)]; rw [g5 166 _ (by decide +kernel)]; rw [g4 166 _ (by decide +kernel)]; rw [g3 166 _ (by decide +kernel)]; rw [g2 166 _ (by decide +kernel)]; rw [g1 166 _ (by decide +kernel)]; rw [q]; exact h2 166 x (by decide +kernel)
    · rw [if_neg q]; rw [g9 144 _ (by decide +kernel)]; rw [g8 144 _ (by decide +kernel)]; rw [g7 144 _ (by decide +kernel)]; rw [g6 144 _ (by decide +kernel)]; rw [g5 144 _ (by decide +kernel)]; rw [g4 144 _ (by decide +kernel)]; rw [g3 144 _ (by decide +kernel)]; rw [g2 144 _ (by decide +kernel)]; rw [g1 144 _ (by decide +kernel)]; exact (h1 k (by omega)).2.2.2.2.2.2.2.2.2
  refine ⟨fun k hk => ⟨f1 k hk, f2 k hk, f3 k hk, f4 k hk, f5 k hk, f6 k hk, f7 k hk, f8 k hk, f9 k hk, f10 k hk⟩, fun a k ha => ?_⟩
  rw [g10 _ _ (fun e => ha (by omega))]; rw [g9 _ _ (fun e => ha (by omega))]; rw [g8 _ _ (fun e => ha (by omega))]; rw [g7 _ _ (fun e => ha (by omega))]; rw [g6 _ _ (fun e => ha (by omega))]; rw [g5 _ _ (fun e => ha (by omega))]; rw [g4 _ _ (fun e => ha (by omega))]; rw [g3 _ _ (fun e => ha (by omega))]; rw [g2 _ _ (fun e => ha (by omega))]; rw [g1 _ _ (fun e => ha (by omega))]
  exact h2 a k ha
noncomputable def Q_undo (σ0 : Sg) (p : Int32 × Sg) : Prop := ∃ σ1, C_undo σ0 σ1 6 ∧ p = (gi (CL σ1 109 163 0 24) 74 0, CL (CL (CL (σ1) 109 163 0 24) 147 167 0 10) 148 168 0 8)
theorem LF_X12_undo_0 {σ0 : Sg} : ∀ (n x : Nat) (σ : Sg), x ≤ 6 → (6 - x) + 120 < n → C_undo σ0 σ x → Q_undo σ0 (LF_X12_undo n 0 (nI x) σ) := by
  intro n
  induction n with
  | zero => intro x σ _ h; exact absurd h (Nat.not_lt_zero _)
  | succ n ih =>
    intro x σ hx hn h
    show Q_undo σ0 (LB_X12_undo_68 (LF_X12_undo n) (nI x) σ)
    unfold LB_X12_undo_68
    rw [nI6]
    by_cases c : 6 ≤ x
    · rw [if_pos (nI_le c (by omega)), ← nI_0, LF_X12_undo_1 n 0 σ (by omega) (by omega)]
      have e : x = 6 := by omega
      rw [e] at h
      exact ⟨σ, h, rfl⟩
    · rw [if_neg (nI_ge (by omega) (by omega)), nI_clamp (n := x) (by omega), ← nI_succ]
      refine fl_el (P := Q_undo σ0) (fun t1 e1 => ?_)
      refine fl_el (P := Q_undo σ0) (fun t2 e2 => ?_)
      refine fl_el (P := Q_undo σ0) (fun t3 e3 => ?_)
      refine fl_el (P := Q_undo σ0) (fun t4 e4 => ?_)
      refine fl_el (P := Q_undo σ0) (fun t5 e5 => ?_)
      refine fl_el (P := Q_undo σ0) (fun t6 e6 => ?_)
      refine fl_el (P := Q_undo σ0) (fun t7 e7 => ?_)
      refine fl_el (P := Q_undo σ0) (fun t8 e8 => ?_)
      refine fl_el (P := Q_undo σ0) (fun t9 e9 => ?_)
      refine fl_el (P := Q_undo σ0) (fun t10 e10 => ?_)
      rw [fl_mk]
      exact ih (x + 1) t10 (by omega) (by omega) (C_undo_s h e1 e2 e3 e4 e5 e6 e7 e8 e9 e10)
theorem N_mundo {σ σ' : Sg} {r : Int32} (hf : F_X12_undo σ = (r, σ')) (hz : ¬ gi σ 74 49 = 0) : (∀ k, k < 6 → gi σ' 103 k = gi σ 156 k ∧ gi σ' 104 k = gi σ 157 k ∧ gi σ' 105 k = gi σ 158 k ∧ gi σ' 106 k = gi σ 159 k ∧ gi σ' 107 k = gi σ 160 k ∧ gi σ' 108 k = gi σ 161 k ∧ gi σ' 110 k = gi σ 162 k ∧ gi σ' 142 k = gi σ 164 k ∧ gi σ' 143 k = gi σ 165 k ∧ gi σ' 144 k = gi σ 166 k) ∧ (∀ k, k < 24 → gi σ' 109 k = gi σ 163 k) ∧ (∀ k, k < 10 → gi σ' 147 k = gi σ 167 k) ∧ (∀ k, k < 8 → gi σ' 148 k = gi σ 168 k) ∧ (∀ a k, ¬ (a = 103 ∨ a = 104 ∨ a = 105 ∨ a = 106 ∨ a = 107 ∨ a = 108 ∨ a = 110 ∨ a = 142 ∨ a = 143 ∨ a = 144 ∨ a = 109 ∨ a = 147 ∨ a = 148 ∨ a = 74) → gi σ' a k = gi σ a k) := by
  unfold F_X12_undo at hf
  rw [if_neg hz] at hf
  obtain ⟨b0, eb0⟩ : ∃ s, s = si σ 74 12 (gi σ 74 50) := ⟨_, rfl⟩
  replace hf := f_l eb0 hf
  have gb0 : ∀ a k, a ≠ 74 → gi b0 a k = gi σ a k := fun a k ha => by rw [eb0, gi_si_ne (Or.inl ha)]
  obtain ⟨b1, eb1⟩ : ∃ s, s = si b0 74 0 (gi b0 74 51) := ⟨_, rfl⟩
  replace hf := f_l eb1 hf
  have gb1 : ∀ a k, a ≠ 74 → gi b1 a k = gi b0 a k := fun a k ha => by rw [eb1, gi_si_ne (Or.inl ha)]
  obtain ⟨b2, eb2⟩ : ∃ s, s = si b1 74 2 (gi b1 74 51) := ⟨_, rfl⟩
  replace hf := f_l eb2 hf
  have gb2 : ∀ a k, a ≠ 74 → gi b2 a k = gi b1 a k := fun a k ha => by rw [eb2, gi_si_ne (Or.inl ha)]
  obtain ⟨b3, eb3⟩ : ∃ s, s = si b2 74 1 (gi b2 74 52) := ⟨_, rfl⟩
  replace hf := f_l eb3 hf
  have gb3 : ∀ a k, a ≠ 74 → gi b3 a k = gi b2 a k := fun a k ha => by rw [eb3, gi_si_ne (Or.inl ha)]
  obtain ⟨b4, eb4⟩ : ∃ s, s = si b3 74 41 (gi b3 74 53) := ⟨_, rfl⟩
  replace hf := f_l eb4 hf
  have gb4 : ∀ a k, a ≠ 74 → gi b4 a k = gi b3 a k := fun a k ha => by rw [eb4, gi_si_ne (Or.inl ha)]
  obtain ⟨b5, eb5⟩ : ∃ s, s = si b4 74 45 (gi b4 74 54) := ⟨_, rfl⟩
  replace hf := f_l eb5 hf
  have gb5 : ∀ a k, a ≠ 74 → gi b5 a k = gi b4 a k := fun a k ha => by rw [eb5, gi_si_ne (Or.inl ha)]
  obtain ⟨b6, eb6⟩ : ∃ s, s = si b5 74 46 (gi b5 74 55) := ⟨_, rfl⟩
  replace hf := f_l eb6 hf
  have gb6 : ∀ a k, a ≠ 74 → gi b6 a k = gi b5 a k := fun a k ha => by rw [eb6, gi_si_ne (Or.inl ha)]
  have g0 : ∀ a k, a ≠ 74 → gi b6 a k = gi σ a k := fun a k ha => by rw [gb6 a k ha, gb5 a k ha, gb4 a k ha, gb3 a k ha, gb2 a k ha, gb1 a k ha, gb0 a k ha]
  rw [← nI_0] at hf
  have hz0 : LF_X12_undo 900 0 (nI 0) b6 = (r, σ') := hf
  obtain ⟨s, ⟨c1, c2⟩, e⟩ := LF_X12_undo_0 (σ0 := b6) 900 0 b6 (by decide +kernel) (by decide +kernel) C_undo_0
  rw [e] at hz0
  obtain ⟨-, rfl⟩ := Prod.mk.inj hz0
  have q1 : ∀ a k, gi (CL (CL (CL s 109 163 0 24) 147 167 0 10) 148 168 0 8) a k = if a = 148 then (if 0 ≤ k ∧ k < 8 then gi s 168 k else gi s 148 k) else if a = 147 then (if 0 ≤ k ∧ k < 10 then gi s 167 k else gi s 147 k) else if a = 109 then (if 0 ≤ k ∧ k < 24 then gi s 163 k else gi s 109 k) else gi s a k := fun a k => by
    simp only [gi_CL]; simp
  refine ⟨fun k hk => ?_, fun k hk => ?_, fun k hk => ?_, fun k hk => ?_, fun a k ha => ?_⟩
  · obtain ⟨d0, d1, d2, d3, d4, d5, d6, d7, d8, d9⟩ := c1 k hk
    refine ⟨?_, ?_, ?_, ?_, ?_, ?_, ?_, ?_, ?_, ?_⟩ <;> (rw [q1]; simp)
    · rw [d0]; exact g0 _ _ (by decide +kernel)
    · rw [d1]; exact g0 _ _ (by decide +kernel)
    · rw [d2]; exact g0 _ _ (by decide +kernel)
    · rw [d3]; exact g0 _ _ (by decide +kernel)
    · rw [d4]; exact g0 _ _ (by decide +kernel)
    · rw [d5]; exact g0 _ _ (by decide +kernel)
    · rw [d6]; exact g0 _ _ (by decide +kernel)
    · rw [d7]; exact g0 _ _ (by decide +kernel)
    · rw [d8]; exact g0 _ _ (by decide +kernel)
    · rw [d9]; exact g0 _ _ (by decide +kernel)
  · rw [q1]; simp [hk]; rw [c2 _ _ (by decide +kernel)]; exact g0 _ _ (by decide +kernel)
  · rw [q1]; simp [hk]; rw [c2 _ _ (by decide +kernel)]; exact g0 _ _ (by decide +kernel)
  · rw [q1]; simp [hk]; rw [c2 _ _ (by decide +kernel)]; exact g0 _ _ (by decide +kernel)
  · rw [q1, if_neg (fun e => ha (by omega)), if_neg (fun e => ha (by omega)), if_neg (fun e => ha (by omega)), c2 _ _ (fun e => ha (by omega))]; exact g0 _ _ (fun e => ha (by omega))
/-! the class's mower, with all that it makes -/
noncomputable def NEWM (V : Vx) (a1 a2 : Int32) (σ σ' : Sg) : Prop := σ' = σ ∨ ∃ μ : Nat, 2000 ≤ μ ∧ μ ∉ ids V ∧ kd μ = (10 + kci a1, 0) ∧ gi σ' μ 0 = a1 ∧ gi σ' μ 1 = gi σ 1 1 ∧ gi σ' μ 2 = a2 ∧ (gi σ' 1 1).toInt = (gi σ 1 1).toInt + 1 ∧ (∀ k, gr σ' 2 k = if k = (gi σ 1 1).toNatClampNeg then some μ else gr σ 2 k) ∧ (∀ k, gi σ' 3 k = if k = (gi σ 1 1).toNatClampNeg then gi σ 1 1 else gi σ 3 k) ∧ (∀ k, gi σ' 5 k = if k = (gi σ 1 1).toNatClampNeg then (10 : Int32) else gi σ 5 k) ∧ ∀ id k, id ≠ μ → 2000 ≤ id → gi σ' id k = gi σ id k
set_option maxRecDepth 100000 in
set_option maxHeartbeats 4000000 in
theorem kn_X1_comes {l : Launch} {V : Vx} {c0 a1 : Nat} {σ0 : Sg} {Qk : Int32 → Sg → Prop} (hc0 : isC c0) {ci1 : Nat} (sa1 : isMc ci1) (ha1 : kd a1 = (10 + ci1, 0)) (la1 : a1 ∈ ids V) (m0 : XI V σ0) (n0 : NN σ0 c0) (e1 : gi σ0 a1 1 = gi σ0 c0 1) (hlt : (gi σ0 c0 1).toInt ≤ 5) (heq : (gi σ0 c0 3).toInt = (gi σ0 c0 1).toInt)
    (h9 : ∀ (r : Int32) (σ' : Sg), XI V σ' → FX (fun id => id = c0 + 1 ∨ id = c0 + 2 ∨ id = c0 + 4) (fun id k => id = c0 ∧ (k = 1 ∨ k = 3)) σ0 σ' → NN σ' c0 → (gi σ' c0 1).toInt = (gi σ0 c0 1).toInt + 1 → (gi σ' c0 3).toInt = (gi σ' c0 1).toInt → r = gi σ0 c0 1 → (∀ k, gr σ' (c0 + 1) k = if k = (gi σ0 c0 1).toNatClampNeg then some a1 else gr σ0 (c0 + 1) k) → (∀ k, gi σ' (c0 + 2) k = if k = (gi σ0 c0 1).toNatClampNeg then gi σ0 c0 1 else gi σ0 (c0 + 2) k) → (∀ k, gi σ' (c0 + 4) k = if k = (gi σ0 c0 1).toNatClampNeg then (10 : Int32) else gi σ0 (c0 + 4) k) → (∀ id k, id ≠ c0 → id ≠ c0 + 2 → id ≠ c0 + 4 → gi σ' id k = gi σ0 id k) → Qk r σ') : K_X1_comes l V c0 a1 σ0 Qk := by
  refine e_X1_comes (fun M hl hV hN C => ?_)
  subst hl
  subst hV
  have b1 := XI_c1 m0 (lim_C0_1 hc0)
  have ec := cl_eq b1.1
  refine s_X1_comes_0 C hN hc0 sa1 ha1 la1 ?_
  intro v1 ev1
  have ev : v1 = gi σ0 c0 1 := ev1.trans e1
  have hv1 : vp_in v1 6 := by rw [ev]; exact vp_in_iff.mpr ⟨by omega, by omega⟩
  refine ⟨hv1, ?_⟩
  intro σ3 eσ3
  have m3 : XI (mV M) σ3 := by
    rw [eσ3]
    refine XIs_r m0 (fun c hc e _ => ?_) (fun c hc e μ hμ => ?_) (fun e => ?_) (fun e _ => ?_)
    · exfalso; rcases hc0 with rfl | rfl | rfl <;> rcases hc with rfl | rfl | rfl <;> omega
    · obtain rfl : a1 = μ := Option.some.inj hμ
      exact ⟨ci1, sa1, ha1, la1⟩
    · exfalso; rcases hc0 with rfl | rfl | rfl <;> omega
    · rw [kdC_1 hc0] at e; cases e
  refine ⟨hv1, ?_⟩
  intro σ5 eσ5
  have m5 : XI (mV M) σ5 := by rw [eσ5]; exact XIs_n m3 (lim_C4 hc0 _)
  have c5 : gi σ5 c0 1 = gi σ0 c0 1 := by rw [eσ5, gi_si_ne (Or.inl (by omega)), eσ3, gi_sr]
  refine ⟨by rw [c5, ← ev]; exact hv1, ?_⟩
  intro σ7 eσ7
  have m7 : XI (mV M) σ7 := by rw [eσ7]; exact XIs_b m5 (lim_C2 hc0 _) (by rw [ev]; omega) (by rw [ev]; omega)
  have c7 : gi σ7 c0 1 = gi σ0 c0 1 := by rw [eσ7, gi_si_ne (Or.inl (by omega))]; exact c5
  intro σ8 eσ8
  have s8 : ((gi σ7 c0 1) + (1 : Int32)).toInt = (gi σ0 c0 1).toInt + 1 := by rw [c7]; exact i_add (y := (1 : Int32)) (by show _ ≤ (gi σ0 c0 1).toInt + 1; omega) (by show (gi σ0 c0 1).toInt + 1 ≤ _; omega)
  have m8 : XI (mV M) σ8 := by rw [eσ8]; exact XIs_b m7 (lim_C0_1 hc0) (by omega) (by omega)
  have c8 : gi σ8 c0 1 = (gi σ7 c0 1) + (1 : Int32) := by rw [eσ8, gi_si_eq]
  intro σ9 eσ9
  have m9 : XI (mV M) σ9 := by rw [eσ9]; exact XIs_b m8 (lim_C0_3 hc0) (by rw [c8]; omega) (by rw [c8]; omega)
  have c91 : gi σ9 c0 1 = (gi σ7 c0 1) + (1 : Int32) := by rw [eσ9, gi_si_ne (Or.inr (by decide +kernel))]; exact c8
  have c93 : gi σ9 c0 3 = (gi σ7 c0 1) + (1 : Int32) := by rw [eσ9, gi_si_eq]; exact c8
  have g2 : ∀ p, gi σ9 (c0 + 2) p = if p = v1.toNatClampNeg then v1 else gi σ0 (c0 + 2) p := fun p => by
    rw [eσ9, gi_si_ne (Or.inl (by omega)), eσ8, gi_si_ne (Or.inl (by omega)), eσ7, c5, ← ev]
    by_cases z : p = v1.toNatClampNeg
    · rw [if_pos z, z, gi_si_eq]
    · rw [if_neg z, gi_si_ne (Or.inr z), eσ5, gi_si_ne (Or.inl (by omega)), eσ3, gi_sr]
  have g1 : ∀ p, gr σ9 (c0 + 1) p = if p = v1.toNatClampNeg then some a1 else gr σ0 (c0 + 1) p := fun p => by
    rw [eσ9, gr_si, eσ8, gr_si, eσ7, gr_si, eσ5, gr_si, eσ3, gr_sr]
    by_cases z : p = v1.toNatClampNeg
    · rw [if_pos ⟨rfl, z⟩, if_pos z]
    · rw [if_neg (fun h => z h.2), if_neg z]
  have g4 : ∀ p, gi σ9 (c0 + 4) p = if p = v1.toNatClampNeg then (10 : Int32) else gi σ0 (c0 + 4) p := fun p => by
    rw [eσ9, gi_si_ne (Or.inl (by omega)), eσ8, gi_si_ne (Or.inl (by omega)), eσ7, gi_si_ne (Or.inl (by omega)), eσ5, gi_si, eσ3, gi_sr]
    by_cases z : p = v1.toNatClampNeg
    · rw [if_pos ⟨rfl, z⟩, if_pos z]
    · rw [if_neg (fun h => z h.2), if_neg z]
  have gO : ∀ id k, id ≠ c0 → id ≠ c0 + 2 → id ≠ c0 + 4 → gi σ9 id k = gi σ0 id k := fun id k h1 h2 h3 => by
    rw [eσ9, gi_si_ne (Or.inl h1), eσ8, gi_si_ne (Or.inl h1), eσ7, gi_si_ne (Or.inl h2), eσ5, gi_si_ne (Or.inl h3), eσ3, gi_sr]
  have evn : v1.toNatClampNeg = (gi σ0 c0 1).toNatClampNeg := by rw [ev]
  refine h9 v1 σ9 m9 ?_ ⟨fun p hp => ?_, fun m hm => ?_⟩ (by rw [c91]; exact s8) (by rw [c93, c91]) ev (by intro k; rw [← ev]; exact g1 k) (by intro k; rw [← ev]; exact g2 k) (by intro k; rw [← ev]; exact g4 k) gO
  · rw [eσ9, eσ8, eσ7, eσ5, eσ3]
    exact FX_si (FX_si (FX_si (FX_si (FX_sr FX_rf (Or.inl (Or.inl rfl))) (Or.inl (Or.inr (Or.inr rfl)))) (Or.inl (Or.inr (Or.inl rfl)))) (Or.inr ⟨rfl, Or.inl rfl⟩)) (Or.inr ⟨rfl, Or.inr rfl⟩)
  · rw [c93, s8] at hp
    rw [c91, s8, g2]
    by_cases z : p = v1.toNatClampNeg
    · rw [if_pos z, ev]; omega
    · rw [if_neg z]
      have := n0.1 p (by omega)
      omega
  · rw [c91, s8] at hm
    rw [g1]
    by_cases z : m = v1.toNatClampNeg
    · rw [if_pos z]; simp
    · rw [if_neg z]
      exact n0.2 m (by omega)
set_option maxRecDepth 100000 in
set_option maxHeartbeats 4000000 in
theorem kn_X11_mower {l : Launch} {V : Vx} {a1 a2 : Int32} {σ0 : Sg} {Qk : Int32 → Vx → Sg → Prop} (hU : UPV V) (hw : wfd V) (m0 : XI V σ0) (n0 : NN σ0 1) (heq : (gi σ0 1 3).toInt = (gi σ0 1 1).toInt)
    (h9 : ∀ (r : Int32) (V' : Vx) (σ' : Sg), VR V V' → (∀ id ∈ ids V', id ∈ ids V ∨ 2000 ≤ id) → wfd V' → XI V' σ' → NN σ' 1 → FX (fun id => id = 2 ∨ id = 3 ∨ id = 5 ∨ 2000 ≤ id) (fun id k => id = 1 ∧ (k = 1 ∨ k = 3)) σ0 σ' → (gi σ' 1 3).toInt = (gi σ' 1 1).toInt → MWA r a1 a2 (gi σ0 1 1).toInt (gi σ' 1 1).toInt → NEWM V a1 a2 σ0 σ' → Qk r V' σ') : K_X11_mower l V a1 a2 σ0 Qk := by
  refine Ka_of (by decide +kernel) rfl rfl (Nat.le_of_ble_eq_true rfl) (fun M hl hV hN C => ?_)
  subst hl
  subst hV
  have b1 := XI_c1 m0 (lim_C0_1 (c := 1) (Or.inl rfl))
  have stay : ∀ r, MWA r a1 a2 (gi σ0 1 1).toInt (gi σ0 1 1).toInt → Qk r (mV M) σ0 := fun r h8 => h9 r _ _ VR_rf (fun _ h => Or.inl h) hw m0 n0 FX_rf heq h8 (Or.inl rfl)
  have out : ∀ (pc : Nat) (x : Int32), decode cX11_mower pc = .ok (.ireturn, 1) → MWA x a1 a2 (gi σ0 1 1).toInt (gi σ0 1 1).toInt → PS M pc [(0, .ref 0), (1, .int a1), (2, .int a2)] [.int x] σ0 (0, 0) := fun pc x hd h8 => P_iretW C rfl (Nat.zero_le _) (Nat.zero_le _) hd (stay x h8)
  have no1 : (a1.toInt < 0 ∨ 6 < a1.toInt) → PS M 10 [(0, .ref 0), (1, .int a1), (2, .int a2)] [] σ0 (0, 0) := fun h8 => P_iconst C dX11_mower_10 (v := (-1 : Int32)) rfl (out 11 _ dX11_mower_11 (MWA_1 h8))
  have no2 : (0 ≤ a1.toInt ∧ a1.toInt ≤ 6 ∧ (a2.toInt < 0 ∨ 9 < a2.toInt)) → PS M 22 [(0, .ref 0), (1, .int a1), (2, .int a2)] [] σ0 (0, 0) := fun h8 => P_bipush C dX11_mower_22 (v := (-2 : Int32)) rfl (out 24 _ dX11_mower_24 (MWA_2 h8))
  show PS M 0 [(0, .ref 0), (1, .int a1), (2, .int a2)] [] σ0 (0, 0)
  refine P_iload_n C dX11_mower_0 1 rfl ?_
  refine P_if_lt C dX11_mower_1 (tgt := 10) (by decide +kernel) (fun q => no1 (Or.inl (Int32.lt_iff_toInt_lt.mp q))) (fun q1 => ?_)
  refine P_iload_n C dX11_mower_4 1 rfl ?_
  refine P_bipush C dX11_mower_5 (v := (6 : Int32)) rfl ?_
  refine P_icmp_le C dX11_mower_7 (tgt := 12) (by decide +kernel) (fun q2 => ?_) (fun q => no1 (Or.inr (Int.not_le.mp (fun z => q (Int32.le_iff_toInt_le.mpr z)))))
  refine P_iload_n C dX11_mower_12 2 rfl ?_
  refine P_if_lt C dX11_mower_13 (tgt := 22) (by decide +kernel) (fun q => no2 ⟨Int.not_lt.mp (fun z => q1 (Int32.lt_iff_toInt_lt.mpr z)), Int32.le_iff_toInt_le.mp q2, Or.inl (Int32.lt_iff_toInt_lt.mp q)⟩) (fun q3 => ?_)
  refine P_iload_n C dX11_mower_16 2 rfl ?_
  refine P_bipush C dX11_mower_17 (v := (9 : Int32)) rfl ?_
  refine P_icmp_le C dX11_mower_19 (tgt := 25) (by decide +kernel) (fun q4 => ?_) (fun q => no2 ⟨Int.not_lt.mp (fun z => q1 (Int32.lt_iff_toInt_lt.mpr z)), Int32.le_iff_toInt_le.mp q2, Or.inr (Int.not_le.mp (fun z => q (Int32.le_iff_toInt_le.mpr z)))⟩)
  refine P_aload_n C dX11_mower_25 0 rfl ?_
  refine P_getS C (e := 1) fa_X11_mower_12 kd_0 (d := 1) rfl (fxl fx_0) rfl dX11_mower_26 ?_
  refine P_getI C fa_X11_mower_76 kd_1 rfl (fxl fx_1) dX11_mower_29 ?_
  refine P_bipush C dX11_mower_32 (v := (6 : Int32)) rfl ?_
  refine P_icmp_lt C dX11_mower_34 (tgt := 40) (by decide +kernel) (fun q5 => ?_) (fun q => P_bipush C dX11_mower_37 (v := (-4 : Int32)) rfl (out 39 _ dX11_mower_39 (MWA_4 ⟨Int.not_lt.mp (fun z => q1 (Int32.lt_iff_toInt_lt.mpr z)), Int32.le_iff_toInt_le.mp q2, Int.not_lt.mp (fun z => q3 (Int32.lt_iff_toInt_lt.mpr z)), Int32.le_iff_toInt_le.mp q4, Int.not_lt.mp (fun z => q (Int32.lt_iff_toInt_lt.mpr z))⟩)))
  refine P_aload_n C dX11_mower_40 0 rfl ?_
  refine P_getS C (e := 1) fa_X11_mower_12 kd_0 (d := 1) rfl (fxl fx_0) rfl dX11_mower_41 ?_
  refine P_iload_n C dX11_mower_44 1 rfl ?_
  refine P_aload_n C dX11_mower_45 0 rfl ?_
  refine P_getS C (e := 1) fa_X11_mower_12 kd_0 (d := 1) rfl (fxl fx_0) rfl dX11_mower_46 ?_
  refine P_getI C fa_X11_mower_76 kd_1 rfl (fxl fx_1) dX11_mower_49 ?_
  refine P_iload_n C dX11_mower_52 2 rfl ?_
  have r1 : 0 ≤ a1.toInt := Int.not_lt.mp (fun z => q1 (Int32.lt_iff_toInt_lt.mpr z))
  have r2 : a1.toInt ≤ 6 := Int32.le_iff_toInt_le.mp q2
  have r3 : 0 ≤ a2.toInt := Int.not_lt.mp (fun z => q3 (Int32.lt_iff_toInt_lt.mpr z))
  have r4 : a2.toInt ≤ 9 := Int32.le_iff_toInt_le.mp q4
  have r5 : (gi σ0 1 1).toInt < 6 := Int32.lt_iff_toInt_lt.mp q5
  refine P_made C hU m0 kf_X11_mower (Nat.le_of_ble_eq_true rfl) dX11_mower_53 ⟨Nat.le_of_ble_eq_true rfl, Nat.le_of_ble_eq_true rfl⟩ (fun a h => ?_) (fun a h => ?_) (fun q μ hμ hge hk hwf => ?_)
  · have h : a = 0 := by simpa using h
    subst h; exact fxl fx_0
  · have h : a = 1 := by simpa using h
    subst h; exact fxl fx_1
  have hvr : VR (mV M) (vext (mV M) [(μ, q)]) := VR_ext (fun y hy => by
    obtain rfl : y = (μ, q) := by simpa using hy
    exact ⟨hμ, by show 1000 ≤ μ; omega⟩)
  have C' := Cx_vr C hvr hwf
  have eV : mV (mset M (vext (mV M) [(μ, q)])) = vext (mV M) [(μ, q)] := mset_V
  have hin : μ ∈ ids (vext (mV M) [(μ, q)]) := by rw [vext_ids]; exact List.mem_append_right _ (by simp)
  obtain ⟨σ1, e1⟩ : ∃ σ1, σ1 = sia σ0 μ (mvals a1 (gi σ0 1 1) a2) := ⟨_, rfl⟩
  rw [← e1]
  have x1 : XI (vext (mV M) [(μ, q)]) σ1 := by rw [e1]; exact XI_vr hvr (XI_m m0 hge r1 r2 (by omega) (by omega) r3 r4)
  have g1 : ∀ k, gi σ1 1 k = gi σ0 1 k := fun k => by rw [e1, gi_sia, if_neg (by omega)]
  have n1 : NN σ1 1 := by rw [e1]; exact NN_sia n0 (by omega) (by omega)
  have f1 : FX (fun id => id = 2 ∨ id = 3 ∨ id = 5 ∨ 2000 ≤ id) (fun id k => id = 1 ∧ (k = 1 ∨ k = 3)) σ0 σ1 := by rw [e1]; exact FX_sia FX_rf (Or.inr (Or.inr (Or.inr hge)))
  refine P_ci (R_v (ci := 1) C' kv_X11_mower (As := [.ref μ]) rfl kd_1 rfl (fxl fx_1) (Nat.le_of_ble_eq_true rfl) dX11_mower_56 ⟨Nat.le_of_ble_eq_true rfl, Nat.le_of_ble_eq_true rfl⟩ (kn_X1_comes (Qk := fun r σ2 => Qk r (vext (mV M) [(μ, q)]) σ2) (Or.inl rfl) (kci_mc a1) hk (by rw [eV]; exact hin) (by rw [eV]; exact x1) n1 ?_ (by rw [g1]; omega) (by rw [g1, g1]; exact heq) ?_)) (fun r σ2 h => ?_)
  · rw [g1, e1, gi_sia, if_pos rfl]; rfl
  · intro r σ2 y1 y2 y3 y4 y5 y6 y7 y8 y9 y10
    rw [eV] at y1
    refine h9 r _ σ2 hvr (fun id hi => ?_) hwf y1 y3 (FX_tr f1 y2 (fun id hi => ?_) (fun id k hi => Or.inr hi)) y5 (MWA_0 ⟨r1, r2, r3, r4, r5, by rw [y6, g1], by rw [y4, g1]⟩) (Or.inr ⟨μ, hge, hμ, hk, by rw [y10 _ _ (by omega) (by omega) (by omega), e1, gi_sia, if_pos rfl]; rfl, by rw [y10 _ _ (by omega) (by omega) (by omega), e1, gi_sia, if_pos rfl]; rfl, by rw [y10 _ _ (by omega) (by omega) (by omega), e1, gi_sia, if_pos rfl]; rfl, by rw [y4, g1], fun k => by have h8 := y7 k; rw [g1] at h8; rw [e1] at h8; exact h8, fun k => by have h8 := y8 k; rw [g1] at h8; rw [e1, gi_sia, if_neg (show ¬ 1 + 2 = μ by omega)] at h8; exact h8, fun k => by have h8 := y9 k; rw [g1] at h8; rw [e1, gi_sia, if_neg (show ¬ 1 + 4 = μ by omega)] at h8; exact h8, fun id k h8 h7 => by rw [y10 _ _ (by omega) (by omega) (by omega), e1, gi_sia, if_neg h8]⟩)
    · rw [vext_ids] at hi
      rcases List.mem_append.mp hi with hi | hi
      · exact Or.inl hi
      · obtain rfl : id = μ := by simpa using hi
        exact Or.inr hge
    · rcases hi with hi | hi | hi
      · exact Or.inl hi
      · exact Or.inr (Or.inl hi)
      · exact Or.inr (Or.inr (Or.inl hi))
  · exact P_iretW (V0 := mV M) C' (by rw [eV]; rfl) (Nat.le_of_ble_eq_true rfl) (Nat.le_of_ble_eq_true rfl) dX11_mower_59 (by rw [eV]; exact h)
/-! more that both states have alike: what ran, rows, told ones, kinds -/
theorem TP_x {S : Nat → Prop} {F : Nat → Nat → Prop} {σ σ' : Sg} (f : FX S F σ σ') (h1 : ∀ id, id = 64 ∨ id = 65 ∨ id = 74 ∨ id = 170 → ¬ S id) (h2 : ∀ id k, id = 64 ∨ id = 65 ∨ id = 74 ∨ id = 170 → ¬ F id k) (q : TP σ σ) : TP σ' σ' := by
  have e : ∀ id k, id = 64 ∨ id = 65 ∨ id = 74 ∨ id = 170 → gi σ' id k = gi σ id k := fun id k h => f.1 id k (h1 id h) (h2 id k h)
  exact ⟨by rw [e 64 _ (by omega), e 74 _ (by omega)]; exact q.1, fun k hk => by rw [e 65 _ (by omega), e 170 _ (by omega)]; exact q.2 k hk⟩
theorem TP_m {S F : List Nat} {σ σ' : Sg} (f : Fr S F σ σ') (h : ∀ id ∈ S, 74 ≤ id ∧ id ≠ 170) (h2 : 69 ∉ F) (q : TP σ σ) : TP σ' σ' := by
  have e : ∀ id k, id = 64 ∨ id = 65 ∨ id = 170 → gi σ' id k = gi σ id k := fun id k g => congrFun (f.1 id (fun z => by have := h id z; omega)).1 k
  exact ⟨by rw [e 64 _ (by omega), f.2.1 69 h2]; exact q.1, fun k hk => by rw [e 65 _ (by omega), e 170 _ (by omega)]; exact q.2 k hk⟩
theorem RLn_x {S : Nat → Prop} {F : Nat → Nat → Prop} {σ σ' : Sg} {c a : Nat} (f : FX S F σ σ') (h1 : ∀ id, id = c ∨ id = a → ¬ S id) (h2 : ∀ id k, id = c ∨ id = a → ¬ F id k) (q : RLn σ c a) : RLn σ' c a := fun p hp => by
  rw [f.1 c p (h1 c (Or.inl rfl)) (h2 c p (Or.inl rfl)), f.1 a p (h1 a (Or.inr rfl)) (h2 a p (Or.inr rfl))]
  exact q p hp
theorem RLn_m {S F : List Nat} {σ σ' : Sg} {c a : Nat} (f : Fr S F σ σ') (hc : c ∉ S) (ha : a ∉ S) (q : RLn σ c a) : RLn σ' c a := fun p hp => by
  rw [show gi σ' c p = gi σ c p from congrFun (f.1 c hc).1 p, show gi σ' a p = gi σ a p from congrFun (f.1 a ha).1 p]
  exact q p hp
theorem RLn_cd {S F : List Nat} {σ σ' : Sg} {c : Nat} (f : Fr S F σ σ') (hc : c ∉ S) (d : CD σ σ' 110 110 6) (q : RLn σ c 110) : RLn σ' c 110 := fun p hp => by
  rw [show gi σ' c p = gi σ c p from congrFun (f.1 c hc).1 p, d p (by omega)]
  exact q p hp
theorem RT_x {S : Nat → Prop} {F : Nat → Nat → Prop} {σ σ' : Sg} {c cn m : Nat} (f : FX S F σ σ') (h1 : ∀ id, id = c ∨ id = m → ¬ S id) (h2 : ∀ id k, id = c ∨ id = m → ¬ F id k) (e : (gi σ' cn 1).toInt = (gi σ cn 1).toInt) (q : RT σ c cn m) : RT σ' c cn m :=
  ⟨fun k hk => by rw [f.1 c k (h1 c (Or.inl rfl)) (h2 c k (Or.inl rfl)), f.1 m k (h1 m (Or.inr rfl)) (h2 m k (Or.inr rfl))]; exact q.1 k hk, fun k hk h => by rw [f.1 c k (h1 c (Or.inl rfl)) (h2 c k (Or.inl rfl))]; exact q.2 k hk (by rw [← e]; exact h)⟩
theorem RT_m {S F : List Nat} {σ σ' : Sg} {c cn m : Nat} (f : Fr S F σ σ') (hc : c ∉ S) (hm : m ∉ S) (hn : cn ∉ S) (q : RT σ c cn m) : RT σ' c cn m := by
  have e : ∀ k, gi σ' c k = gi σ c k := fun k => congrFun (f.1 c hc).1 k
  have g : ∀ k, gi σ' m k = gi σ m k := fun k => congrFun (f.1 m hm).1 k
  have n : gi σ' cn 1 = gi σ cn 1 := congrFun (f.1 cn hn).1 1
  exact ⟨fun k hk => by rw [e, g]; exact q.1 k hk, fun k hk h => by rw [e]; exact q.2 k hk (by rw [← n]; exact h)⟩
theorem RK_of {σ σ' : Sg} {c cn a b : Nat} (e : (gi σ' cn 1).toInt = (gi σ cn 1).toInt) (r : ∀ k, gr σ' c k = gr σ c k) (ga : ∀ k, gi σ' a k = gi σ a k) (gb : ∀ k, gi σ' b k = gi σ b k) (gm : ∀ id k, 2000 ≤ id → gi σ' id k = gi σ id k) (q : RK σ c cn a b) : RK σ' c cn a b := fun m hm => by
  obtain ⟨μ, κ, h1, h2, h3, h4, h5, h6, h7, h8⟩ := q m (by rw [← e]; exact hm)
  exact ⟨μ, κ, by rw [r]; exact h1, h2, h3, h4, by rw [ga]; exact h5, by rw [gm _ _ h3]; exact h6, by rw [gm _ _ h3]; exact h7, by rw [gm _ _ h3, gb]; exact h8⟩
theorem RK_x {S : Nat → Prop} {F : Nat → Nat → Prop} {σ σ' : Sg} {c cn a b : Nat} (f : FX S F σ σ') (h1 : ∀ id, id = c ∨ id = a ∨ id = b ∨ 2000 ≤ id → ¬ S id) (h2 : ∀ id k, id = c ∨ id = a ∨ id = b ∨ 2000 ≤ id → ¬ F id k) (e : (gi σ' cn 1).toInt = (gi σ cn 1).toInt) (q : RK σ c cn a b) : RK σ' c cn a b :=
  RK_of e (fun k => f.2.2 c k (h1 c (Or.inl rfl)) (h2 c k (Or.inl rfl))) (fun k => f.1 a k (h1 a (Or.inr (Or.inl rfl))) (h2 a k (Or.inr (Or.inl rfl)))) (fun k => f.1 b k (h1 b (Or.inr (Or.inr (Or.inl rfl)))) (h2 b k (Or.inr (Or.inr (Or.inl rfl))))) (fun id k h => f.1 id k (h1 id (Or.inr (Or.inr (Or.inr h)))) (h2 id k (Or.inr (Or.inr (Or.inr h))))) q
theorem RK_m {S F : List Nat} {σ σ' : Sg} {c cn a b : Nat} (f : Fr S F σ σ') (hs : ∀ id ∈ S, 74 ≤ id ∧ id < 1000 ∧ id ≠ a ∧ id ≠ b) (hn : cn < 74) (q : RK σ c cn a b) : RK σ' c cn a b :=
  RK_of (congrArg Int32.toInt (congrFun (f.1 cn (fun z => by have := hs _ z; omega)).1 1)) (fun k => congrFun (congrFun f.2.2 c) k) (fun k => congrFun (f.1 a (fun z => by have := hs _ z; omega)).1 k) (fun k => congrFun (f.1 b (fun z => by have := hs _ z; omega)).1 k) (fun id k h => congrFun (f.1 id (fun z => by have := hs _ z; omega)).1 k) q
/-- the model's mower, as a function: what it makes -/
theorem LF_mmower {n0 : Nat} (h6 : n0 < 6) : ∀ (n x : Nat) (σ : Sg), gi σ 74 0 = nI n0 → x ≤ 4 → 4 - x < n → LF_X12_mower n (nI x) σ = (nI (n0 + 1) - 1, si (si (sia σ 109 (fun j => if 4 * n0 + x ≤ j ∧ j < 4 * n0 + 4 then 0 else gi σ 109 j)) 74 0 (nI (n0 + 1))) 74 2 (nI (n0 + 1))) := by
  intro n
  induction n with
  | zero => intro x σ _ _ h; exact absurd h (Nat.not_lt_zero _)
  | succ n ih =>
    intro x σ h0 hx hn
    show LB_X12_mower_115 (LF_X12_mower n) (nI x) σ = _
    unfold LB_X12_mower_115
    rw [show (4 : Int32) = nI 4 from rfl, h0]
    by_cases c : 4 ≤ x
    · rw [if_pos (nI_le c (by omega)), sia_self (fun j => by rw [if_neg (by omega)])]
      simp only [fl_mk]
      rw [gi_si_eq, gi_si_ne (Or.inr (by decide +kernel)), gi_si_eq, ← nI_succ]
    · rw [if_neg (nI_ge (by omega) (by omega)), ← nI_succ]
      simp only [fl_mk]
      have e4 : (nI 4 * nI n0 + nI x).toNatClampNeg = 4 * n0 + x := by
        have e : nI 4 * nI n0 + nI x = nI (4 * n0 + x) := by
          unfold nI
          rw [← Int32.ofNat_mul, ← Int32.ofNat_add]
        rw [e, nI_clamp (by omega)]
      rw [e4, ih (x + 1) _ (by rw [gi_si_ne (Or.inl (by decide +kernel))]; exact h0) (by omega) (by omega), show si σ 109 (4 * n0 + x) 0 = sia σ 109 (fun j => if j = 4 * n0 + x then 0 else gi σ 109 j) from si_sia, sia_sia]
      congr 1
      have ee : sia σ 109 (fun j => if 4 * n0 + (x + 1) ≤ j ∧ j < 4 * n0 + 4 then 0 else gi (sia σ 109 (fun j => if j = 4 * n0 + x then 0 else gi σ 109 j)) 109 j) = sia σ 109 (fun j => if 4 * n0 + x ≤ j ∧ j < 4 * n0 + 4 then 0 else gi σ 109 j) := by
        refine sia_ext (fun j => ?_)
        rw [gi_sia, if_pos rfl]
        by_cases q : 4 * n0 + x ≤ j ∧ j < 4 * n0 + 4
        · rw [if_pos q]
          by_cases q2 : j = 4 * n0 + x
          · rw [if_neg (by omega), if_pos q2]
          · rw [if_pos (by omega)]
        · rw [if_neg q, if_neg (by omega), if_neg (by omega)]
      rw [ee]
theorem N_mmower {a1 a2 r : Int32} {τ τ' : Sg} {n0 : Nat} (hn : gi τ 74 0 = nI n0) (h6 : n0 ≤ 6) (h : F_X12_mower a1 a2 τ = (r, τ')) : ((¬ (0 ≤ a1.toInt ∧ a1.toInt ≤ 6) ∨ ¬ (0 ≤ a2.toInt ∧ a2.toInt ≤ 9) ∨ n0 = 6) ∧ τ' = τ) ∨ ((0 ≤ a1.toInt ∧ a1.toInt ≤ 6) ∧ (0 ≤ a2.toInt ∧ a2.toInt ≤ 9) ∧ n0 < 6 ∧ (∀ k, gi τ' 103 k = if k = n0 then a1 else gi τ 103 k) ∧ (∀ k, gi τ' 104 k = if k = n0 then a2 else gi τ 104 k) ∧ (∀ k, gi τ' 105 k = if k = n0 then 0 else gi τ 105 k) ∧ (∀ k, gi τ' 106 k = if k = n0 then 10 else gi τ 106 k) ∧ (∀ k, gi τ' 107 k = if k = n0 then 0 else gi τ 107 k) ∧ (∀ k, gi τ' 108 k = if k = n0 then 0 else gi τ 108 k) ∧ (∀ k, gi τ' 110 k = if k = n0 then nI n0 else gi τ 110 k) ∧ (∀ k, gi τ' 109 k = if 4 * n0 ≤ k ∧ k < 4 * n0 + 4 then 0 else gi τ 109 k) ∧ ∀ a k, ¬ (103 ≤ a ∧ a ≤ 110) → a ≠ 74 → gi τ' a k = gi τ a k) := by
  have z0 : (0 : Int32).toInt = 0 := rfl
  have z6 : (6 : Int32).toInt = 6 := rfl
  have z9 : (9 : Int32).toInt = 9 := rfl
  unfold F_X12_mower at h
  rw [F_in, fb_mk, ite_10] at h
  by_cases c1 : 0 ≤ a1.toInt ∧ a1.toInt ≤ 6
  · rw [if_pos (by omega), F_in, fb_mk, ite_10] at h
    by_cases c2 : 0 ≤ a2.toInt ∧ a2.toInt ≤ 9
    · rw [if_pos (by omega), hn] at h
      by_cases c3 : n0 = 6
      · rw [if_pos (by rw [c3]; rfl)] at h
        exact Or.inl ⟨Or.inr (Or.inr c3), (Prod.mk.inj h).2.symm⟩
      · rw [if_neg (fun e => c3 (by have e2 := congrArg Int32.toInt e; rw [nI_toInt (by omega)] at e2; have : (n0 : Int) = 6 := e2; omega))] at h
        have hc : (nI n0).toNatClampNeg = n0 := nI_clamp (by omega)
        simp only [fl_mk] at h
        have g0 : ∀ s b k v, gi (si s b k v) 74 0 = if 74 = b ∧ 0 = k then v else gi s 74 0 := fun s b k v => gi_si
        obtain ⟨t, ht⟩ : ∃ t, t = si (si (si (si (si (si (si τ 103 n0 a1) 104 n0 a2) 105 n0 0) 106 n0 10) 107 n0 0) 108 n0 0) 110 n0 (nI n0) := ⟨_, rfl⟩
        have k74 : gi t 74 0 = nI n0 := by rw [ht]; simp only [gi_si]; simp [hn]
        have ha : LF_X12_mower 20 (nI 0) t = (r, τ') := by
          rw [ht, nI_0]
          rw [← h]
          congr 1
          simp only [gi_si, hn, hc]
          simp [hc, hn]
        rw [LF_mmower (by omega) 20 0 t k74 (by omega) (by omega)] at ha
        obtain ⟨-, rfl⟩ := Prod.mk.inj ha
        refine Or.inr ⟨c1, c2, by omega, fun k => ?_, fun k => ?_, fun k => ?_, fun k => ?_, fun k => ?_, fun k => ?_, fun k => ?_, fun k => ?_, fun a k h1 h2 => ?_⟩
        · simp only [gi_si, gi_sia]; rw [ht]; simp [gi_si]
        · simp only [gi_si, gi_sia]; rw [ht]; simp [gi_si]
        · simp only [gi_si, gi_sia]; rw [ht]; simp [gi_si]
        · simp only [gi_si, gi_sia]; rw [ht]; simp [gi_si]
        · simp only [gi_si, gi_sia]; rw [ht]; simp [gi_si]
        · simp only [gi_si, gi_sia]; rw [ht]; simp [gi_si]
        · simp only [gi_si, gi_sia]; rw [ht]; simp [gi_si]
        · simp only [gi_si, gi_sia]; rw [ht]; simp [gi_si]
        · rw [gi_si_ne (Or.inl h2), gi_si_ne (Or.inl h2), gi_sia, if_neg (by omega), ht]
          rw [gi_si_ne (Or.inl (by omega)), gi_si_ne (Or.inl (by omega)), gi_si_ne (Or.inl (by omega)), gi_si_ne (Or.inl (by omega)), gi_si_ne (Or.inl (by omega)), gi_si_ne (Or.inl (by omega)), gi_si_ne (Or.inl (by omega))]
    · rw [if_neg (by omega)] at h
      exact Or.inl ⟨Or.inr (Or.inl c2), (Prod.mk.inj h).2.symm⟩
  · rw [if_neg (by omega)] at h
    exact Or.inl ⟨Or.inl c1, (Prod.mk.inj h).2.symm⟩
