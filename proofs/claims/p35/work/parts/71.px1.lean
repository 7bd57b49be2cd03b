set_option maxRecDepth 100000 in
set_option maxHeartbeats 4000000 in
theorem k_X5_isFull {l : Launch} {V : Vx} {c0 : Nat} {σ0 : Sg} {Qk : Int32 → Sg → Prop} (hc0 : isN c0) (m0 : XI V σ0) (h9ret : ∀ (r : Int32) (σ' : Sg), XI V σ' → FX (fun id => False) (fun _ _ => False) σ0 σ' → (0 ≤ r.toInt) → (r.toInt ≤ 1) → ((r.toInt = 1 ∧ (nl c0 : Int) ≤ (gi σ0 c0 1).toInt) ∨ (r.toInt = 0 ∧ (gi σ0 c0 1).toInt < (nl c0 : Int))) → Qk r σ') : K_X5_isFull l V c0 σ0 Qk := by
  refine e_X5_isFull (fun M hl hV hN C => ?_)
  subst hl
  subst hV
  have oc0 : c0 = 9 ∨ c0 = 11 ∨ c0 = 13 ∨ c0 = 25 ∨ c0 = 27 ∨ c0 = 29 ∨ c0 = 41 ∨ c0 = 43 ∨ c0 = 45 ∨ c0 = 64 := hc0
  have f0 : FX (fun id => False) (fun _ _ => False) σ0 σ0 := FX_rf
  have t_1 := XI_c1 m0 (lim_N hc0)
  have t_2 := nl_le hc0
  refine s_X5_isFull_0 C hN hc0 ?_
  refine ⟨?_, ?_⟩
  · intro q_3
    have t_4 := ofNat_nl hc0
    have t_5 := nl_le hc0
    have b_6 : (gi σ0 c0 1).toInt < (Int32.ofNat (nl c0)).toInt := Int32.lt_iff_toInt_lt.mp q_3
    have z_7 : (0 : Int32).toInt = 0 := rfl
    exact h9ret (0 : Int32) σ0 m0 f0 (by omega) (by omega) (by first | omega | assumption | rfl)
  · intro q_3
    have t_8 := ofNat_nl hc0
    have t_9 := nl_le hc0
    have b_10 : ¬ (gi σ0 c0 1).toInt < (Int32.ofNat (nl c0)).toInt := fun h9 => q_3 (Int32.lt_iff_toInt_lt.mpr h9)
    have z_11 : (1 : Int32).toInt = 1 := rfl
    exact h9ret (1 : Int32) σ0 m0 f0 (by omega) (by omega) (by first | omega | assumption | rfl)
set_option maxRecDepth 100000 in
set_option maxHeartbeats 4000000 in
theorem k_X5_has {l : Launch} {V : Vx} {c0 : Nat} {a1 : Int32} {σ0 : Sg} {Qk : Int32 → Sg → Prop} (hc0 : isN c0) (m0 : XI V σ0) (h9ret : ∀ (r : Int32) (σ' : Sg), XI V σ' → FX (fun id => False) (fun _ _ => False) σ0 σ' → (0 ≤ r.toInt) → (r.toInt ≤ 1) → ((r.toInt = 1 ∧ 0 ≤ a1.toInt ∧ a1.toInt < (gi σ0 c0 1).toInt ∧ a1.toInt < (nl c0 : Int)) ∨ r.toInt = 0) → Qk r σ') : K_X5_has l V c0 a1 σ0 Qk := by
  refine e_X5_has (fun M hl hV hN C => ?_)
  subst hl
  subst hV
  have oc0 : c0 = 9 ∨ c0 = 11 ∨ c0 = 13 ∨ c0 = 25 ∨ c0 = 27 ∨ c0 = 29 ∨ c0 = 41 ∨ c0 = 43 ∨ c0 = 45 ∨ c0 = 64 := hc0
  have f0 : FX (fun id => False) (fun _ _ => False) σ0 σ0 := FX_rf
  have t_1 := XI_c1 m0 (lim_N hc0)
  have t_2 := nl_le hc0
  refine s_X5_has_0 C hN hc0 ?_
  refine ⟨?_, ?_⟩
  · intro q_3
    have w_4 := Int32.toInt_lt a1
    have w_5 := Int32.le_toInt a1
    have b_6 : a1.toInt < 0 := Int32.lt_iff_toInt_lt.mp q_3
    have z_7 : (0 : Int32).toInt = 0 := rfl
    exact h9ret (0 : Int32) σ0 m0 f0 (by omega) (by omega) (by first | omega | assumption | rfl)
  · intro q_3
    have w_8 := Int32.toInt_lt a1
    have w_9 := Int32.le_toInt a1
    have b_10 : ¬ a1.toInt < 0 := fun h9 => q_3 (Int32.lt_iff_toInt_lt.mpr h9)
    refine ⟨?_, ?_⟩
    · intro q_11
      have b_12 : (gi σ0 c0 1).toInt ≤ a1.toInt := Int32.le_iff_toInt_le.mp q_11
      have z_13 : (0 : Int32).toInt = 0 := rfl
      exact h9ret (0 : Int32) σ0 m0 f0 (by omega) (by omega) (by first | omega | assumption | rfl)
    · intro q_11
      have b_14 : ¬ (gi σ0 c0 1).toInt ≤ a1.toInt := fun h9 => q_11 (Int32.le_iff_toInt_le.mpr h9)
      refine ⟨?_, ?_⟩
      · intro q_15
        have t_16 := ofNat_nl hc0
        have t_17 := nl_le hc0
        have b_18 : (Int32.ofNat (nl c0)).toInt ≤ a1.toInt := Int32.le_iff_toInt_le.mp q_15
        have z_19 : (0 : Int32).toInt = 0 := rfl
        exact h9ret (0 : Int32) σ0 m0 f0 (by omega) (by omega) (by first | omega | assumption | rfl)
      · intro q_15
        have t_20 := ofNat_nl hc0
        have t_21 := nl_le hc0
        have b_22 : ¬ (Int32.ofNat (nl c0)).toInt ≤ a1.toInt := fun h9 => q_15 (Int32.le_iff_toInt_le.mpr h9)
        have z_23 : (1 : Int32).toInt = 1 := rfl
        exact h9ret (1 : Int32) σ0 m0 f0 (by omega) (by omega) (by first | omega | assumption | rfl)
set_option maxRecDepth 100000 in
set_option maxHeartbeats 4000000 in
theorem k_X5_comes {l : Launch} {V : Vx} {c0 : Nat} {a1 : Int32} {σ0 : Sg} {Qk : Sg → Prop} (hc0 : isN c0) (m0 : XI V σ0) (pre0 : (gi σ0 c0 1).toInt + 1 ≤ capI c0) (pre1 : okNum c0 (gi σ0 c0 1) a1) (h9ret : ∀ (σ' : Sg), XI V σ' → FX (fun id => id = c0 + 1) (fun id k => (id = c0 ∧ k = 1)) σ0 σ' → ((gi σ' c0 1).toInt = (gi σ0 c0 1).toInt + 1) → Qk σ') : K_X5_comes l V c0 a1 σ0 Qk := by
  refine e_X5_comes (fun M hl hV hN C => ?_)
  subst hl
  subst hV
  have oc0 : c0 = 9 ∨ c0 = 11 ∨ c0 = 13 ∨ c0 = 25 ∨ c0 = 27 ∨ c0 = 29 ∨ c0 = 41 ∨ c0 = 43 ∨ c0 = 45 ∨ c0 = 64 := hc0
  have f0 : FX (fun id => id = c0 + 1) (fun id k => (id = c0 ∧ k = 1)) σ0 σ0 := FX_rf
  have t_1 := XI_c1 m0 (lim_N hc0)
  have t_2 := nl_le hc0
  have hs := cl_eq (x := gi σ0 c0 1) (by omega)
  refine s_X5_comes_0 C hN hc0 ?_
  refine ⟨?_, ?_⟩
  · intro q_3
    have t_4 := ofNat_nl hc0
    have t_5 := nl_le hc0
    have b_6 : (Int32.ofNat (nl c0)).toInt ≤ (gi σ0 c0 1).toInt := Int32.le_iff_toInt_le.mp q_3
    intro σ2 eσ2
    have t_7 : ((gi σ0 c0 1) + (1 : Int32)).toInt = (gi σ0 c0 1).toInt + 1 := i_add (x := (gi σ0 c0 1)) (y := (1 : Int32)) (by show (_ : Int) ≤ (gi σ0 c0 1).toInt + 1; omega) (by show (gi σ0 c0 1).toInt + 1 ≤ (_ : Int); omega)
    have mσ2 : XI (mV M) σ2 := by rw [eσ2]; exact XIs_b m0 (lim_N hc0) (by omega) (by omega)
    have fσ2 : FX (fun id => id = c0 + 1) (fun id k => (id = c0 ∧ k = 1)) σ0 σ2 := by rw [eσ2]; exact FX_si f0 (Or.inr (by show (c0 = c0 ∧ 1 = 1); omega))
    have k_8 : (gi σ2 c0 1).toInt = ((gi σ0 c0 1) + (1 : Int32)).toInt := by rw [eσ2]; exact congrArg Int32.toInt gi_si_eq
    exact h9ret σ2 mσ2 fσ2 (by first | omega | assumption | rfl)
  · intro q_3
    have t_9 := ofNat_nl hc0
    have t_10 := nl_le hc0
    have b_11 : ¬ (Int32.ofNat (nl c0)).toInt ≤ (gi σ0 c0 1).toInt := fun h9 => q_3 (Int32.le_iff_toInt_le.mpr h9)
    have hv_12 : vp_in (gi σ0 c0 1) (nl c0) := vp_in_iff.mpr ⟨by omega, by omega⟩
    refine ⟨hv_12, ?_⟩
    intro σ4 eσ4
    have mσ4 : XI (mV M) σ4 := by rw [eσ4]; exact XIs_Nr m0 hc0 (okNum_in pre1 hs)
    have fσ4 : FX (fun id => id = c0 + 1) (fun id k => (id = c0 ∧ k = 1)) σ0 σ4 := by rw [eσ4]; exact FX_si f0 (Or.inl (by show c0 + 1 = c0 + 1; omega))
    have k_13 : (gi σ4 c0 1).toInt = (gi σ0 c0 1).toInt := by rw [eσ4]; exact congrArg Int32.toInt (gi_si_ne (Or.inl (by omega)))
    intro σ5 eσ5
    have t_14 := XI_c1 mσ4 (lim_N hc0)
    have t_15 := nl_le hc0
    have t_16 : ((gi σ4 c0 1) + (1 : Int32)).toInt = (gi σ4 c0 1).toInt + 1 := i_add (x := (gi σ4 c0 1)) (y := (1 : Int32)) (by show (_ : Int) ≤ (gi σ4 c0 1).toInt + 1; omega) (by show (gi σ4 c0 1).toInt + 1 ≤ (_ : Int); omega)
    have mσ5 : XI (mV M) σ5 := by rw [eσ5]; exact XIs_b mσ4 (lim_N hc0) (by omega) (by omega)
    have fσ5 : FX (fun id => id = c0 + 1) (fun id k => (id = c0 ∧ k = 1)) σ0 σ5 := by rw [eσ5]; exact FX_si fσ4 (Or.inr (by show (c0 = c0 ∧ 1 = 1); omega))
    have k_17 : (gi σ5 c0 1).toInt = ((gi σ4 c0 1) + (1 : Int32)).toInt := by rw [eσ5]; exact congrArg Int32.toInt gi_si_eq
    exact h9ret σ5 mσ5 fσ5 (by first | omega | assumption | rfl)
theorem lim_Nsame {n m : Nat} (hn : isN n) (hm : isN m) (h : n % 16 = m % 16) (k : Nat) : lim (n + 1) k = lim (m + 1) k := by
  rcases hn with rfl | rfl | rfl | rfl | rfl | rfl | rfl | rfl | rfl | rfl <;> rcases hm with rfl | rfl | rfl | rfl | rfl | rfl | rfl | rfl | rfl | rfl <;> first | rfl | (exfalso; omega)
set_option maxRecDepth 100000 in
set_option maxHeartbeats 4000000 in
theorem k_X5_becomes {l : Launch} {V : Vx} {c0 : Nat} {a1 : Nat} {σ0 : Sg} {Qk : Sg → Prop} (hc0 : isN c0) (ha1 : isN a1) (m0 : XI V σ0) (pre0 : capI c0 = capI a1) (pre1 : c0 % 16 = a1 % 16) (pre2 : c0 ≠ a1) (h9ret : ∀ (σ' : Sg), XI V σ' → FX (fun id => id = c0 + 1) (fun id k => (id = c0 ∧ k = 1)) σ0 σ' → ((gi σ' c0 1).toInt = (gi σ0 a1 1).toInt) → Qk σ') : K_X5_becomes l V c0 a1 σ0 Qk := by
  refine e_X5_becomes (fun M hl hV hN C => ?_)
  subst hl
  subst hV
  refine s_X5_becomes_0 C hN hc0 ha1 ?_
  intro s1 e1
  have b1 := XI_c1 m0 (lim_N ha1)
  have m1 : XI (mV M) s1 := by rw [e1]; exact XIs_b m0 (lim_N hc0) b1.1 (by omega)
  have f1 : FX (fun id => id = c0 + 1) (fun id k => (id = c0 ∧ k = 1)) σ0 s1 := by rw [e1]; exact FX_si FX_rf (Or.inr ⟨rfl, rfl⟩)
  intro v2 e2
  have n1 := ofNat_nl hc0
  have n2 := ofNat_nl ha1
  have n3 := nl_le hc0
  have n4 := nl_le ha1
  have hb := jmin_b (Int32.ofNat (nl c0)) (Int32.ofNat (nl a1))
  rw [← e2] at hb
  have ec := cl_eq (x := v2) (by omega)
  have z0 : (0 : Int32).toNatClampNeg = 0 := by decide
  refine ⟨⟨by decide, by decide, fun h9 => ?_, by rw [z0]; omega, by rw [z0]; omega⟩, ?_⟩
  · have h8 := Int32.lt_iff_toInt_lt.mp h9
    have h7 : (0 : Int32).toInt = 0 := rfl
    omega
  intro s3 e3
  have m3 : XI (mV M) s3 := by
    rw [e3]
    refine XIs_sia m1 (fun k lo hi q => ?_)
    unfold va_cpy
    split
    · exact m1.1 (a1 + 1) _ lo hi (by rw [show (0 : Int32).toNatClampNeg + (k - (0 : Int32).toNatClampNeg) = k from by rw [z0]; omega, ← lim_Nsame hc0 ha1 pre1]; exact q)
    · exact m1.1 (c0 + 1) k lo hi q
  have f3 : FX (fun id => id = c0 + 1) (fun id k => (id = c0 ∧ k = 1)) σ0 s3 := by rw [e3]; exact FX_sia f1 rfl
  refine h9ret s3 m3 f3 ?_
  rw [e3, gi_sia, if_neg (by omega), e1, gi_si_eq]
set_option maxRecDepth 100000 in
set_option maxHeartbeats 4000000 in
theorem k_X9_isEmpty {l : Launch} {V : Vx} {c0 : Nat} {σ0 : Sg} {Qk : Int32 → Sg → Prop} (hc0 : isT c0) (m0 : XI V σ0) (h9ret : ∀ (r : Int32) (σ' : Sg), XI V σ' → FX (fun id => False) (fun _ _ => False) σ0 σ' → (0 ≤ r.toInt) → (r.toInt ≤ 1) → Qk r σ') : K_X9_isEmpty l V c0 σ0 Qk := by
  refine e_X9_isEmpty (fun M hl hV hN C => ?_)
  subst hl
  subst hV
  have oc0 : c0 = 52 ∨ c0 = 54 ∨ c0 = 56 ∨ c0 = 58 ∨ c0 = 60 ∨ c0 = 62 := hc0
  have f0 : FX (fun id => False) (fun _ _ => False) σ0 σ0 := FX_rf
  have t_1 := XI_c1 m0 (k := 1) (lim_T0_1 hc0)
  refine s_X9_isEmpty_0 C hN hc0 ?_
  refine ⟨?_, ?_⟩
  · intro q_2
    have b_3 : (0 : Int) ≤ (gi σ0 c0 1).toInt := Int32.le_iff_toInt_le.mp q_2
    have z_4 : (0 : Int32).toInt = 0 := rfl
    exact h9ret (0 : Int32) σ0 m0 f0 (by omega) (by omega)
  · intro q_2
    have b_5 : ¬ (0 : Int) ≤ (gi σ0 c0 1).toInt := fun h9 => q_2 (Int32.le_iff_toInt_le.mpr h9)
    have z_6 : (1 : Int32).toInt = 1 := rfl
    exact h9ret (1 : Int32) σ0 m0 f0 (by omega) (by omega)
set_option maxRecDepth 100000 in
set_option maxHeartbeats 4000000 in
theorem k_X9_has {l : Launch} {V : Vx} {c0 : Nat} {a1 : Int32} {σ0 : Sg} {Qk : Int32 → Sg → Prop} (hc0 : isT c0) (m0 : XI V σ0) (h9ret : ∀ (r : Int32) (σ' : Sg), XI V σ' → FX (fun id => False) (fun _ _ => False) σ0 σ' → (0 ≤ r.toInt) → (r.toInt ≤ 1) → ((r.toInt = 1 ∧ 0 ≤ a1.toInt ∧ a1.toInt < (gi σ0 c0 2).toInt) ∨ r.toInt = 0) → Qk r σ') : K_X9_has l V c0 a1 σ0 Qk := by
  refine e_X9_has (fun M hl hV hN C => ?_)
  subst hl
  subst hV
  have oc0 : c0 = 52 ∨ c0 = 54 ∨ c0 = 56 ∨ c0 = 58 ∨ c0 = 60 ∨ c0 = 62 := hc0
  have f0 : FX (fun id => False) (fun _ _ => False) σ0 σ0 := FX_rf
  have t_1 := XI_c1 m0 (k := 2) (lim_T0_2 hc0)
  refine s_X9_has_0 C hN hc0 ?_
  refine ⟨?_, ?_⟩
  · intro q_2
    have w_3 := Int32.toInt_lt a1
    have w_4 := Int32.le_toInt a1
    have b_5 : a1.toInt < 0 := Int32.lt_iff_toInt_lt.mp q_2
    have z_6 : (0 : Int32).toInt = 0 := rfl
    exact h9ret (0 : Int32) σ0 m0 f0 (by omega) (by omega) (by first | omega | assumption | rfl)
  · intro q_2
    have w_7 := Int32.toInt_lt a1
    have w_8 := Int32.le_toInt a1
    have b_9 : ¬ a1.toInt < 0 := fun h9 => q_2 (Int32.lt_iff_toInt_lt.mpr h9)
    refine ⟨?_, ?_⟩
    · intro q_10
      have b_11 : (gi σ0 c0 2).toInt ≤ a1.toInt := Int32.le_iff_toInt_le.mp q_10
      have z_12 : (0 : Int32).toInt = 0 := rfl
      exact h9ret (0 : Int32) σ0 m0 f0 (by omega) (by omega) (by first | omega | assumption | rfl)
    · intro q_10
      have b_13 : ¬ (gi σ0 c0 2).toInt ≤ a1.toInt := fun h9 => q_10 (Int32.le_iff_toInt_le.mpr h9)
      have z_14 : (1 : Int32).toInt = 1 := rfl
      exact h9ret (1 : Int32) σ0 m0 f0 (by omega) (by omega) (by first | omega | assumption | rfl)
set_option maxRecDepth 100000 in
set_option maxHeartbeats 4000000 in
theorem k_X9_hasPart {l : Launch} {V : Vx} {c0 : Nat} {a1 : Int32} {a2 : Int32} {σ0 : Sg} {Qk : Int32 → Sg → Prop} (hc0 : isT c0) (m0 : XI V σ0) (h9ret : ∀ (r : Int32) (σ' : Sg), XI V σ' → FX (fun id => False) (fun _ _ => False) σ0 σ' → (0 ≤ r.toInt) → (r.toInt ≤ 1) → ((r.toInt = 1 ∧ 0 ≤ a1.toInt ∧ 0 ≤ a2.toInt ∧ a1.toInt + a2.toInt ≤ (gi σ0 c0 2).toInt) ∨ r.toInt = 0) → Qk r σ') : K_X9_hasPart l V c0 a1 a2 σ0 Qk := by
  refine e_X9_hasPart (fun M hl hV hN C => ?_)
  subst hl
  subst hV
  have oc0 : c0 = 52 ∨ c0 = 54 ∨ c0 = 56 ∨ c0 = 58 ∨ c0 = 60 ∨ c0 = 62 := hc0
  have f0 : FX (fun id => False) (fun _ _ => False) σ0 σ0 := FX_rf
  have t_1 := XI_c1 m0 (k := 2) (lim_T0_2 hc0)
  refine s_X9_hasPart_0 C hN hc0 ?_
  refine ⟨?_, ?_⟩
  · intro q_2
    have w_3 := Int32.toInt_lt a2
    have w_4 := Int32.le_toInt a2
    have b_5 : a2.toInt < 0 := Int32.lt_iff_toInt_lt.mp q_2
    have z_6 : (0 : Int32).toInt = 0 := rfl
    exact h9ret (0 : Int32) σ0 m0 f0 (by omega) (by omega) (by first | omega | assumption | rfl)
  · intro q_2
    have w_7 := Int32.toInt_lt a2
    have w_8 := Int32.le_toInt a2
    have b_9 : ¬ a2.toInt < 0 := fun h9 => q_2 (Int32.lt_iff_toInt_lt.mpr h9)
    refine ⟨?_, ?_⟩
    · intro q_10
      have w_11 := Int32.toInt_lt a1
      have w_12 := Int32.le_toInt a1
      have b_13 : a1.toInt < 0 := Int32.lt_iff_toInt_lt.mp q_10
      have z_14 : (0 : Int32).toInt = 0 := rfl
      exact h9ret (0 : Int32) σ0 m0 f0 (by omega) (by omega) (by first | omega | assumption | rfl)
    · intro q_10
      have w_15 := Int32.toInt_lt a1
      have w_16 := Int32.le_toInt a1
      have b_17 : ¬ a1.toInt < 0 := fun h9 => q_10 (Int32.lt_iff_toInt_lt.mpr h9)
      refine ⟨?_, ?_⟩
      · intro q_18
        have b_19 : (gi σ0 c0 2).toInt < a2.toInt := Int32.lt_iff_toInt_lt.mp q_18
        have z_20 : (0 : Int32).toInt = 0 := rfl
        exact h9ret (0 : Int32) σ0 m0 f0 (by omega) (by omega) (by first | omega | assumption | rfl)
      · intro q_18
        have b_21 : ¬ (gi σ0 c0 2).toInt < a2.toInt := fun h9 => q_18 (Int32.lt_iff_toInt_lt.mpr h9)
        refine ⟨?_, ?_⟩
        · intro q_22
          try have t_23 : ((gi σ0 c0 2) - a2).toInt = (gi σ0 c0 2).toInt - a2.toInt := i_sub (x := (gi σ0 c0 2)) (y := a2) (by show (_ : Int) ≤ (gi σ0 c0 2).toInt - a2.toInt; omega) (by show (gi σ0 c0 2).toInt - a2.toInt ≤ (_ : Int); omega)
          have b_24 : ((gi σ0 c0 2) - a2).toInt < a1.toInt := Int32.lt_iff_toInt_lt.mp q_22
          have z_25 : (0 : Int32).toInt = 0 := rfl
          exact h9ret (0 : Int32) σ0 m0 f0 (by omega) (by omega) (by first | omega | assumption | rfl)
        · intro q_22
          try have t_26 : ((gi σ0 c0 2) - a2).toInt = (gi σ0 c0 2).toInt - a2.toInt := i_sub (x := (gi σ0 c0 2)) (y := a2) (by show (_ : Int) ≤ (gi σ0 c0 2).toInt - a2.toInt; omega) (by show (gi σ0 c0 2).toInt - a2.toInt ≤ (_ : Int); omega)
          have b_27 : ¬ ((gi σ0 c0 2) - a2).toInt < a1.toInt := fun h9 => q_22 (Int32.lt_iff_toInt_lt.mpr h9)
          have z_28 : (1 : Int32).toInt = 1 := rfl
          exact h9ret (1 : Int32) σ0 m0 f0 (by omega) (by omega) (by first | omega | assumption | rfl)
set_option maxRecDepth 100000 in
set_option maxHeartbeats 4000000 in
theorem k_X9_cut {l : Launch} {V : Vx} {c0 : Nat} {a1 : Int64} {σ0 : Sg} {Qk : Int64 → Sg → Prop} (hc0 : isT c0) (m0 : XI V σ0) (h9ret : ∀ (r : Int64) (σ' : Sg), XI V σ' → FX (fun id => False) (fun _ _ => False) σ0 σ' → Qk r σ') : K_X9_cut l V c0 a1 σ0 Qk := by
  refine e_X9_cut (fun M hl hV hN C => ?_)
  subst hl
  subst hV
  have oc0 : c0 = 52 ∨ c0 = 54 ∨ c0 = 56 ∨ c0 = 58 ∨ c0 = 60 ∨ c0 = 62 := hc0
  have f0 : FX (fun id => False) (fun _ _ => False) σ0 σ0 := FX_rf
  have t_1 := XI_c1 m0 (k := 1) (lim_T0_1 hc0)
  refine s_X9_cut_0 C hN hc0 ?_
  refine ⟨?_, ?_, ?_, ?_, ?_, ?_⟩
  · intro q_2
    exact h9ret a1 σ0 m0 f0
  · intro q_2
    exact h9ret a1.toInt32.toInt8.toInt32.toInt64 σ0 m0 f0
  · intro q_2
    exact h9ret a1.toInt32.toInt16.toInt32.toInt64 σ0 m0 f0
  · intro q_2
    exact h9ret a1.toInt32.toInt64 σ0 m0 f0
  · intro q_2
    exact h9ret a1 σ0 m0 f0
  · intro q_2
    refine ⟨?_, ?_⟩
    · intro q_3
      exact h9ret (0 : Int64) σ0 m0 f0
    · intro q_3
      exact h9ret (1 : Int64) σ0 m0 f0
set_option maxRecDepth 100000 in
set_option maxHeartbeats 4000000 in
theorem k_J7_fill_d0a16 {l : Launch} {V : Vx} {a1 : Nat} {a2 : Int64} {σ0 : Sg} {Qk : Sg → Prop} {na1 : Nat} (ha1 : kd a1 = (3, na1)) (la1 : a1 ∈ ids (V)) (m0 : XI V σ0) (pre0 : na1 = 60) (h9ret : ∀ (σ' : Sg), XI V σ' → FX (fun id => id = a1) (fun _ _ => False) σ0 σ' → Qk σ') : K_J7_fill_d0a16 l V a1 a2 σ0 Qk := by
  refine e_J7_fill_d0a16 (fun M hl hV hN C => ?_)
  subst hl
  subst hV
  have T : ∀ n : Nat, (∀ (x1 : Int64) (x3 : Int32) (x4 : Int32) (σ : Sg), XI (mV M) σ → FX (fun id => id = a1) (fun _ _ => False) σ0 σ → (0 ≤ x3.toInt) → (x3.toInt ≤ 60) → (60 ≤ x4.toInt) → (x4.toInt ≤ 60) → (61 - x3.toInt).toNat < n → PS M 6 [(0, .ref a1), (1, .long x1), (3, .int x3), (4, .int x4)] [] σ (0, 0)) := by
    intro n
    induction n with
    | zero => exact fun _ _ _ _ _ _ _ _ _ _ h8 => absurd h8 (Nat.not_lt_zero _)
    | succ n ih =>
      have ih6 := ih
      · intro x1 x3 x4 σ mσ fσ lx3 ux3 lx4 ux4 hmu
        refine s_J7_fill_d0a16_6 C hN ha1 la1 ?_
        refine ⟨?_, ?_⟩
        · intro q_1
          have b_2 : x4.toInt ≤ x3.toInt := Int32.le_iff_toInt_le.mp q_1
          exact h9ret σ mσ fσ
        · intro q_1
          have b_3 : ¬ x4.toInt ≤ x3.toInt := fun h9 => q_1 (Int32.le_iff_toInt_le.mpr h9)
          have hv_4 : vp_in x3 na1 := vp_in_iff.mpr ⟨by omega, by omega⟩
          refine ⟨hv_4, ?_⟩
          intro σ3 eσ3
          have mσ3 : XI (mV M) σ3 := by rw [eσ3]; exact XIs_l mσ
          have fσ3 : FX (fun id => id = a1) (fun _ _ => False) σ0 σ3 := by rw [eσ3]; exact FX_sl fσ (by show a1 = a1; omega)
          intro v4 ev4
          have t_5 : (x3 + (1 : Int32)).toInt = x3.toInt + 1 := i_add (x := x3) (y := (1 : Int32)) (by show (_ : Int) ≤ x3.toInt + 1; omega) (by show x3.toInt + 1 ≤ (_ : Int); omega)
          have t_6 : v4.toInt = (x3 + (1 : Int32)).toInt := congrArg Int32.toInt ev4
          exact ih6 x1 v4 x4 σ3 mσ3 fσ3 (by omega) (by omega) (by omega) (by omega) (by omega)
  have U6 := T 90
  have f0 : FX (fun id => id = a1) (fun _ _ => False) σ0 σ0 := FX_rf
  refine s_J7_fill_d0a16_0 C hN ha1 la1 ?_
  intro v1 ev1
  have e60 : v1.toInt = 60 := by rw [ev1, pre0]; rfl
  have z_7 : (0 : Int32).toInt = 0 := rfl
  have w_8 := Int32.toInt_lt v1
  have w_9 := Int32.le_toInt v1
  exact U6 a2 (0 : Int32) v1 σ0 m0 f0 (by omega) (by omega) (by omega) (by omega) (by omega)
set_option maxRecDepth 100000 in
set_option maxHeartbeats 4000000 in
theorem k_X9_becomes {l : Launch} {V : Vx} {c0 : Nat} {a1 : Int32} {a2 : Int32} {σ0 : Sg} {Qk : Sg → Prop} (hc0 : isT c0) (m0 : XI V σ0) (l_a1 : -1 ≤ a1.toInt) (u_a1 : a1.toInt ≤ 4) (l_a2 : 0 ≤ a2.toInt) (u_a2 : a2.toInt ≤ 60) (h9ret : ∀ (σ' : Sg), XI V σ' → FX (fun id => id = c0 + 1) (fun id k => (id = c0 ∧ k = 1) ∨ (id = c0 ∧ k = 2)) σ0 σ' → Qk σ') : K_X9_becomes l V c0 a1 a2 σ0 Qk := by
  refine e_X9_becomes (fun M hl hV hN C => ?_)
  subst hl
  subst hV
  have oc0 : c0 = 52 ∨ c0 = 54 ∨ c0 = 56 ∨ c0 = 58 ∨ c0 = 60 ∨ c0 = 62 := hc0
  have f0 : FX (fun id => id = c0 + 1) (fun id k => (id = c0 ∧ k = 1) ∨ (id = c0 ∧ k = 2)) σ0 σ0 := FX_rf
  refine s_X9_becomes_0 C hN hc0 ?_
  intro σ1 eσ1
  have mσ1 : XI (mV M) σ1 := by rw [eσ1]; exact XIs_b m0 (lim_T0_1 hc0) (by omega) (by omega)
  have fσ1 : FX (fun id => id = c0 + 1) (fun id k => (id = c0 ∧ k = 1) ∨ (id = c0 ∧ k = 2)) σ0 σ1 := by rw [eσ1]; exact FX_si f0 (Or.inr (by show (c0 = c0 ∧ 1 = 1) ∨ (c0 = c0 ∧ 1 = 2); omega))
  intro σ2 eσ2
  have mσ2 : XI (mV M) σ2 := by rw [eσ2]; exact XIs_b mσ1 (lim_T0_2 hc0) (by omega) (by omega)
  have fσ2 : FX (fun id => id = c0 + 1) (fun id k => (id = c0 ∧ k = 1) ∨ (id = c0 ∧ k = 2)) σ0 σ2 := by rw [eσ2]; exact FX_si fσ1 (Or.inr (by show (c0 = c0 ∧ 2 = 1) ∨ (c0 = c0 ∧ 2 = 2); omega))
  refine k_J7_fill_d0a16 (kdT_1 hc0) (fxl (fxT_1 hc0)) mσ2  (by first | omega | assumption | rfl) (fun σ3 mσ3 cσ3 => ?_)
  have fσ3 : FX (fun id => id = c0 + 1) (fun id k => (id = c0 ∧ k = 1) ∨ (id = c0 ∧ k = 2)) σ0 σ3 := FX_tr fσ2 cσ3 (fun x (h9 : x = c0 + 1) => show x = c0 + 1 from by omega) (fun _ _ h9 => h9.elim)
  exact h9ret σ3 mσ3 fσ3
set_option maxRecDepth 100000 in
set_option maxHeartbeats 4000000 in
theorem k_J0_coder_7d493 {l : Launch} {V : Vx} {c0 : Nat} {σ0 : Sg} {Qk : Int32 → Sg → Prop} (hc0 : c0 < 8) (m0 : XI V σ0) (h9ret : ∀ (r : Int32) (σ' : Sg), XI V σ' → FX (fun id => False) (fun _ _ => False) σ0 σ' → (r.toInt = 0) → Qk r σ') : K_J0_coder_7d493 l V c0 σ0 Qk := by
  refine e_J0_coder_7d493 (fun M hl hV hN C => ?_)
  subst hl
  subst hV
  have f0 : FX (fun id => False) (fun _ _ => False) σ0 σ0 := FX_rf
  refine s_J0_coder_7d493_0 C hN hc0 ?_
  refine ⟨?_, ?_⟩
  · intro q_1
    have b_2 : (1 : Int) = 0 := congrArg Int32.toInt q_1
    have z_3 : (1 : Int32).toInt = 1 := rfl
    exact h9ret (1 : Int32) σ0 m0 f0 (by first | omega | assumption | rfl)
  · intro q_1
    have b_4 : ¬ (1 : Int) = 0 := fun h9 => q_1 (Int32.toInt_inj.mp h9)
    have z_5 : (0 : Int32).toInt = 0 := rfl
    exact h9ret (0 : Int32) σ0 m0 f0 (by first | omega | assumption | rfl)
set_option maxRecDepth 100000 in
set_option maxHeartbeats 4000000 in
theorem k_J0_isLatin1_aae02 {l : Launch} {V : Vx} {c0 : Nat} {σ0 : Sg} {Qk : Int32 → Sg → Prop} (hc0 : c0 < 8) (m0 : XI V σ0) (h9ret : ∀ (r : Int32) (σ' : Sg), XI V σ' → FX (fun id => False) (fun _ _ => False) σ0 σ' → (r.toInt = 1) → Qk r σ') : K_J0_isLatin1_aae02 l V c0 σ0 Qk := by
  refine e_J0_isLatin1_aae02 (fun M hl hV hN C => ?_)
  subst hl
  subst hV
  have f0 : FX (fun id => False) (fun _ _ => False) σ0 σ0 := FX_rf
  refine s_J0_isLatin1_aae02_0 C hN hc0 ?_
  refine ⟨?_, ?_⟩
  · intro q_1
    have b_2 : (1 : Int) = 0 := congrArg Int32.toInt q_1
    have z_3 : (0 : Int32).toInt = 0 := rfl
    exact h9ret (0 : Int32) σ0 m0 f0 (by first | omega | assumption | rfl)
  · intro q_1
    have b_4 : ¬ (1 : Int) = 0 := fun h9 => q_1 (Int32.toInt_inj.mp h9)
    refine ⟨?_, ?_⟩
    · intro q_5
      have b_6 : ¬ (0 : Int) = 0 := fun h9 => q_5 (Int32.toInt_inj.mp h9)
      have z_7 : (0 : Int32).toInt = 0 := rfl
      exact h9ret (0 : Int32) σ0 m0 f0 (by first | omega | assumption | rfl)
    · intro q_5
      have b_8 : (0 : Int) = 0 := congrArg Int32.toInt q_5
      have z_9 : (1 : Int32).toInt = 1 := rfl
      exact h9ret (1 : Int32) σ0 m0 f0 (by first | omega | assumption | rfl)
theorem shr0_slen : ∀ i, i < 8 → nI (slen i) >>> ((0 : Int32) &&& 31) = nI (slen i) := by decide +kernel
theorem k0_coder {l : Launch} {V : Vx} {c0 : Nat} {σ : Sg} {Qk : Int32 → Sg → Prop} (hc0 : c0 < 8) (h : Qk 0 σ) : K_J0_coder_7d493 l V c0 σ Qk := by
  refine e_J0_coder_7d493 (fun M hl hV hN C => ?_)
  subst hl
  subst hV
  exact s_J0_coder_7d493_0 C hN hc0 ⟨fun q => absurd q (by decide), fun _ => h⟩
theorem k0_isLatin1 {l : Launch} {V : Vx} {c0 : Nat} {σ : Sg} {Qk : Int32 → Sg → Prop} (hc0 : c0 < 8) (h : Qk 1 σ) : K_J0_isLatin1_aae02 l V c0 σ Qk := by
  refine e_J0_isLatin1_aae02 (fun M hl hV hN C => ?_)
  subst hl
  subst hV
  exact s_J0_isLatin1_aae02_0 C hN hc0 ⟨fun q => absurd q (by decide), fun _ => ⟨fun q => absurd rfl q, fun _ => h⟩⟩
theorem k_J0_length_8abf5 {l : Launch} {V : Vx} {c0 : Nat} {σ0 : Sg} {Qk : Int32 → Sg → Prop} (hc0 : c0 < 8) (m0 : XI V σ0) (h9ret : ∀ (r : Int32) (σ' : Sg), XI V σ' → FX (fun id => False) (fun _ _ => False) σ0 σ' → (r.toInt = (slen c0 : Int)) → Qk r σ') : K_J0_length_8abf5 l V c0 σ0 Qk := by
  refine e_J0_length_8abf5 (fun M hl hV hN C => ?_)
  subst hl
  subst hV
  refine s_J0_length_8abf5_0 C hN hc0 (k0_coder hc0 ?_)
  rw [shr0_slen c0 hc0]
  exact h9ret _ σ0 m0 FX_rf (nI_slen hc0).1
theorem vp_two {i : Int32} {n : Nat} (h : vp_in i n) : ¬ i < 0 ∧ i.toNatClampNeg < n := ⟨fun q => h (Or.inl q), vp_lt h⟩
theorem k0_charAt1 {l : Launch} {V : Vx} {a1 : Nat} {a2 : Int32} {σ : Sg} {Qk : Int32 → Sg → Prop} (ha1 : a1 < 8) (hv : vp_in a2 (slen a1)) (h : Qk (sby a1 a2.toNatClampNeg) σ) : K_J1_charAt_3b067 l V a1 a2 σ Qk := by
  refine e_J1_charAt_3b067 (fun M hl hV hN C => ?_)
  subst hl
  subst hV
  obtain ⟨h0, h1⟩ := vp_two hv
  obtain ⟨n1, n2, -⟩ := sby_nar a1 ha1 _ h1
  have hn := nI_slen ha1
  have h00 : 0 ≤ a2.toInt := by
    have := Int32.not_lt.mp h0
    exact Int32.le_iff_toInt_le.mp this
  have ec := cl_eq h00
  refine s_J1_charAt_3b067_0 C hN ha1 (k_J0_checkIndex h0 (Int32.lt_iff_toInt_lt.mpr (by omega)) ⟨hv, n1, ?_⟩)
  rw [n2]
  exact h
theorem k_J0_charAt_5068e {l : Launch} {V : Vx} {c0 : Nat} {a1 : Int32} {σ0 : Sg} {Qk : Int32 → Sg → Prop} (hc0 : c0 < 8) (m0 : XI V σ0) (pre0 : vp_in a1 (slen c0)) (h9ret : ∀ (r : Int32) (σ' : Sg), XI V σ' → FX (fun id => False) (fun _ _ => False) σ0 σ' → (32 ≤ r.toInt ∧ r.toInt ≤ 127) → (r = sby c0 a1.toNatClampNeg) → Qk r σ') : K_J0_charAt_5068e l V c0 a1 σ0 Qk := by
  refine e_J0_charAt_5068e (fun M hl hV hN C => ?_)
  subst hl
  subst hV
  obtain ⟨n1, n2, n3, n4⟩ := sby_nar c0 hc0 _ (vp_lt pre0)
  refine s_J0_charAt_5068e_0 C hN hc0 (k0_isLatin1 hc0 ⟨fun q => absurd q (by decide), fun _ => ?_⟩)
  exact k0_charAt1 hc0 pre0 ⟨n3, h9ret _ σ0 m0 FX_rf n4 rfl⟩
set_option maxRecDepth 100000 in
set_option maxHeartbeats 4000000 in
theorem k_J1_canEncode_9a6ad {l : Launch} {V : Vx} {a1 : Int32} {σ0 : Sg} {Qk : Int32 → Sg → Prop} (m0 : XI V σ0) (h9ret : ∀ (r : Int32) (σ' : Sg), XI V σ' → FX (fun id => False) (fun _ _ => False) σ0 σ' → Qk r σ') : K_J1_canEncode_9a6ad l V a1 σ0 Qk := by
  refine e_J1_canEncode_9a6ad (fun M hl hV hN C => ?_)
  subst hl
  subst hV
  have f0 : FX (fun id => False) (fun _ _ => False) σ0 σ0 := FX_rf
  refine s_J1_canEncode_9a6ad_0 C hN  ?_
  refine ⟨?_, ?_⟩
  · intro q_1
    have w_2 := Int32.toInt_lt a1
    have w_3 := Int32.le_toInt a1
    have b_4 : a1.toInt < 0 := Int32.lt_iff_toInt_lt.mp q_1
    have z_5 : (0 : Int32).toInt = 0 := rfl
    exact h9ret (0 : Int32) σ0 m0 f0
  · intro q_1
    have w_6 := Int32.toInt_lt a1
    have w_7 := Int32.le_toInt a1
    have b_8 : ¬ a1.toInt < 0 := fun h9 => q_1 (Int32.lt_iff_toInt_lt.mpr h9)
    refine ⟨?_, ?_⟩
    · intro q_9
      have b_10 : (255 : Int) < a1.toInt := Int32.lt_iff_toInt_lt.mp q_9
      have z_11 : (0 : Int32).toInt = 0 := rfl
      exact h9ret (0 : Int32) σ0 m0 f0
    · intro q_9
      have b_12 : ¬ (255 : Int) < a1.toInt := fun h9 => q_9 (Int32.lt_iff_toInt_lt.mpr h9)
      have z_13 : (1 : Int32).toInt = 1 := rfl
      exact h9ret (1 : Int32) σ0 m0 f0
set_option maxRecDepth 100000 in
set_option maxHeartbeats 4000000 in
theorem k_J1_indexOfChar_4cfef {l : Launch} {V : Vx} {a1 : Nat} {a2 : Int32} {a3 : Int32} {a4 : Int32} {σ0 : Sg} {Qk : Int32 → Sg → Prop} (ha1 : a1 < 8) (m0 : XI V σ0) (l_a3 : 0 ≤ a3.toInt) (u_a3 : a3.toInt ≤ 6) (l_a4 : 0 ≤ a4.toInt) (u_a4 : a4.toInt ≤ 6) (pre0 : a4.toInt ≤ (slen a1 : Int)) (h9ret : ∀ (r : Int32) (σ' : Sg), XI V σ' → FX (fun id => False) (fun _ _ => False) σ0 σ' → (-1 ≤ r.toInt) → (r.toInt < (slen a1 : Int)) → Qk r σ') : K_J1_indexOfChar_4cfef l V a1 a2 a3 a4 σ0 Qk := by
  refine e_J1_indexOfChar_4cfef (fun M hl hV hN C => ?_)
  subst hl
  subst hV
  have hn := nI_slen ha1
  have T : ∀ n : Nat, (∀ (x3 : Int32) (x4 : Int32) (x5 : Int32) (σ : Sg), XI (mV M) σ → FX (fun id => False) (fun _ _ => False) σ0 σ → (0 ≤ x3.toInt) → (x3.toInt ≤ 6) → (0 ≤ x5.toInt) → (x5.toInt ≤ 6) → (x3.toInt ≤ (slen a1 : Int)) → (7 - x5.toInt).toNat < n → PS M 7 [(0, .ref (300 + a1)), (3, .int x3), (4, .int x4), (5, .int x5)] [] σ (0, 0)) := by
    intro n
    induction n with
    | zero => exact fun _ _ _ _ _ _ _ _ _ _ _ h8 => absurd h8 (Nat.not_lt_zero _)
    | succ n ih =>
      have ih7 := ih
      · intro x3 x4 x5 σ mσ fσ lx3 ux3 lx5 ux5 i0 hmu
        refine s_J1_indexOfChar_4cfef_7 C hN ha1 ?_
        refine ⟨?_, ?_⟩
        · intro q_1
          have b_2 : x3.toInt ≤ x5.toInt := Int32.le_iff_toInt_le.mp q_1
          have z_3 : (-1 : Int32).toInt = -1 := rfl
          exact h9ret (-1 : Int32) σ mσ fσ (by first | omega | assumption | rfl) (by first | omega | assumption | rfl)
        · intro q_1
          have b_4 : ¬ x3.toInt ≤ x5.toInt := fun h9 => q_1 (Int32.le_iff_toInt_le.mpr h9)
          have hv_5 : vp_in x5 (slen a1) := vp_in_iff.mpr ⟨by omega, by omega⟩
          refine ⟨hv_5, ?_⟩
          refine ⟨?_, ?_⟩
          · intro q_6
            intro v4 ev4
            have t_7 : (x5 + (1 : Int32)).toInt = x5.toInt + 1 := i_add (x := x5) (y := (1 : Int32)) (by show (_ : Int) ≤ x5.toInt + 1; omega) (by show x5.toInt + 1 ≤ (_ : Int); omega)
            have t_8 : v4.toInt = (x5 + (1 : Int32)).toInt := congrArg Int32.toInt ev4
            have w_9 := Int32.toInt_lt x4
            have w_10 := Int32.le_toInt x4
            exact ih7 x3 x4 v4 σ mσ fσ (by omega) (by omega) (by omega) (by omega) (by first | omega | assumption | rfl) (by omega)
          · intro q_6
            exact h9ret x5 σ mσ fσ (by first | omega | assumption | rfl) (by first | omega | assumption | rfl)
  have U7 := T 9
  have f0 : FX (fun id => False) (fun _ _ => False) σ0 σ0 := FX_rf
  refine s_J1_indexOfChar_4cfef_0 C hN ha1 ?_
  exact U7 a4 a2.toInt8.toInt32 a3 σ0 m0 f0 (by omega) (by omega) (by omega) (by omega) (by first | omega | assumption | rfl) (by omega)
set_option maxRecDepth 100000 in
set_option maxHeartbeats 4000000 in
theorem k_J1_indexOf_4cfef {l : Launch} {V : Vx} {a1 : Nat} {a2 : Int32} {a3 : Int32} {a4 : Int32} {σ0 : Sg} {Qk : Int32 → Sg → Prop} (ha1 : a1 < 8) (m0 : XI V σ0) (l_a3 : 0 ≤ a3.toInt) (u_a3 : a3.toInt ≤ 0) (l_a4 : 0 ≤ a4.toInt) (u_a4 : a4.toInt ≤ 6) (h9ret : ∀ (r : Int32) (σ' : Sg), XI V σ' → FX (fun id => False) (fun _ _ => False) σ0 σ' → (-1 ≤ r.toInt) → (r.toInt < (slen a1 : Int)) → Qk r σ') : K_J1_indexOf_4cfef l V a1 a2 a3 a4 σ0 Qk := by
  refine e_J1_indexOf_4cfef (fun M hl hV hN C => ?_)
  subst hl
  subst hV
  have hn := nI_slen ha1
  have f0 : FX (fun id => False) (fun _ _ => False) σ0 σ0 := FX_rf
  refine s_J1_indexOf_4cfef_0 C hN ha1 ?_
  refine k_J1_canEncode_9a6ad  m0   (fun r2 σ1 mσ1 cσ1 => ?_)
  obtain rfl := FX_nil cσ1
  refine ⟨?_, ?_⟩
  · intro q_1
    have w_2 := Int32.toInt_lt r2
    have w_3 := Int32.le_toInt r2
    have b_4 : ¬ r2.toInt = 0 := fun h9 => q_1 (Int32.toInt_inj.mp h9)
    have z_5 : (0 : Int32).toInt = 0 := rfl
    intro v4 ev4
    have t_6 := jmax_b a3 (0 : Int32)
    have t_7 : v4.toInt = (jmax a3 (0 : Int32)).toInt := congrArg Int32.toInt ev4
    have t_8 := nI_slen (ha1)
    intro v5 ev5
    have t_9 := jmin_b a4 (nI (slen a1))
    have t_10 : v5.toInt = (jmin a4 (nI (slen a1))).toInt := congrArg Int32.toInt ev5
    refine ⟨?_, ?_⟩
    · intro q_11
      have w_12 := Int32.toInt_lt v5
      have w_13 := Int32.le_toInt v5
      have b_14 : v4.toInt < v5.toInt := Int32.lt_iff_toInt_lt.mp q_11
      refine k_J1_indexOfChar_4cfef ha1 m0  (by omega) (by omega) (by omega) (by omega) (by first | omega | assumption | rfl) (fun r8 σ7 mσ7 cσ7 (pσ7_0 : -1 ≤ r8.toInt) (pσ7_1 : r8.toInt < (slen a1 : Int)) => ?_)
      obtain rfl := FX_nil cσ7
      have w_15 := Int32.toInt_lt r8
      have w_16 := Int32.le_toInt r8
      exact h9ret r8 σ0 m0 f0 (by first | omega | assumption | rfl) (by first | omega | assumption | rfl)
    · intro q_11
      have w_17 := Int32.toInt_lt v5
      have w_18 := Int32.le_toInt v5
      have b_19 : ¬ v4.toInt < v5.toInt := fun h9 => q_11 (Int32.lt_iff_toInt_lt.mpr h9)
      have z_20 : (-1 : Int32).toInt = -1 := rfl
      exact h9ret (-1 : Int32) σ0 m0 f0 (by first | omega | assumption | rfl) (by first | omega | assumption | rfl)
  · intro q_1
    have w_21 := Int32.toInt_lt r2
    have w_22 := Int32.le_toInt r2
    have b_23 : r2.toInt = 0 := congrArg Int32.toInt q_1
    have z_24 : (-1 : Int32).toInt = -1 := rfl
    exact h9ret (-1 : Int32) σ0 m0 f0 (by first | omega | assumption | rfl) (by first | omega | assumption | rfl)
set_option maxRecDepth 100000 in
set_option maxHeartbeats 4000000 in
theorem k_J0_indexOf_7cf53 {l : Launch} {V : Vx} {c0 : Nat} {a1 : Int32} {a2 : Int32} {σ0 : Sg} {Qk : Int32 → Sg → Prop} (hc0 : c0 < 8) (m0 : XI V σ0) (l_a2 : 0 ≤ a2.toInt) (u_a2 : a2.toInt ≤ 0) (h9ret : ∀ (r : Int32) (σ' : Sg), XI V σ' → FX (fun id => False) (fun _ _ => False) σ0 σ' → (-1 ≤ r.toInt) → (r.toInt < (slen c0 : Int)) → Qk r σ') : K_J0_indexOf_7cf53 l V c0 a1 a2 σ0 Qk := by
  refine e_J0_indexOf_7cf53 (fun M hl hV hN C => ?_)
  subst hl
  subst hV
  have hn := nI_slen hc0
  have f0 : FX (fun id => False) (fun _ _ => False) σ0 σ0 := FX_rf
  refine s_J0_indexOf_7cf53_0 C hN hc0 ?_
  refine k_J0_isLatin1_aae02 hc0 m0   (fun r2 σ1 mσ1 cσ1 (pσ1_0 : r2.toInt = 1) => ?_)
  obtain rfl := FX_nil cσ1
  refine ⟨?_, ?_⟩
  · intro q_1
    have w_2 := Int32.toInt_lt r2
    have w_3 := Int32.le_toInt r2
    have b_4 : r2.toInt = 0 := congrArg Int32.toInt q_1
    refine k_J0_length_8abf5 hc0 m0   (fun r5 σ4 mσ4 cσ4 (pσ4_0 : r5.toInt = (slen c0 : Int)) => ?_)
    obtain rfl := FX_nil cσ4
    exfalso; omega
  · intro q_1
    have w_5 := Int32.toInt_lt r2
    have w_6 := Int32.le_toInt r2
    have b_7 : ¬ r2.toInt = 0 := fun h9 => q_1 (Int32.toInt_inj.mp h9)
    refine k_J0_length_8abf5 hc0 m0   (fun r7 σ6 mσ6 cσ6 (pσ6_0 : r7.toInt = (slen c0 : Int)) => ?_)
    obtain rfl := FX_nil cσ6
    refine k_J1_indexOf_4cfef hc0 m0  (by omega) (by omega) (by omega) (by omega) (fun r9 σ8 mσ8 cσ8 (pσ8_0 : -1 ≤ r9.toInt) (pσ8_1 : r9.toInt < (slen c0 : Int)) => ?_)
    obtain rfl := FX_nil cσ8
    have w_8 := Int32.toInt_lt r9
    have w_9 := Int32.le_toInt r9
    exact h9ret r9 σ0 m0 f0 (by first | omega | assumption | rfl) (by first | omega | assumption | rfl)
set_option maxRecDepth 100000 in
set_option maxHeartbeats 4000000 in
theorem k_J0_indexOf_0f7a4 {l : Launch} {V : Vx} {c0 : Nat} {a1 : Int32} {σ0 : Sg} {Qk : Int32 → Sg → Prop} (hc0 : c0 < 8) (m0 : XI V σ0) (h9ret : ∀ (r : Int32) (σ' : Sg), XI V σ' → FX (fun id => False) (fun _ _ => False) σ0 σ' → (-1 ≤ r.toInt) → (r.toInt < (slen c0 : Int)) → Qk r σ') : K_J0_indexOf_0f7a4 l V c0 a1 σ0 Qk := by
  refine e_J0_indexOf_0f7a4 (fun M hl hV hN C => ?_)
  subst hl
  subst hV
  have f0 : FX (fun id => False) (fun _ _ => False) σ0 σ0 := FX_rf
  refine s_J0_indexOf_0f7a4_0 C hN hc0 ?_
  have z_1 : (0 : Int32).toInt = 0 := rfl
  refine k_J0_indexOf_7cf53 hc0 m0  (by omega) (by omega) (fun r2 σ1 mσ1 cσ1 (pσ1_0 : -1 ≤ r2.toInt) (pσ1_1 : r2.toInt < (slen c0 : Int)) => ?_)
  obtain rfl := FX_nil cσ1
  have w_2 := Int32.toInt_lt r2
  have w_3 := Int32.le_toInt r2
  exact h9ret r2 σ0 m0 f0 (by first | omega | assumption | rfl) (by first | omega | assumption | rfl)
set_option maxRecDepth 100000 in
set_option maxHeartbeats 4000000 in
theorem k_X2_sign {l : Launch} {V : Vx} {c0 : Nat} {σ0 : Sg} {Qk : Int32 → Sg → Prop} (hc0 : kd c0 = (12, 0)) (lc0 : c0 ∈ ids (V)) (m0 : XI V σ0) (pre0 : gr σ0 c0 9 = some 50) (h9ret : ∀ (r : Int32) (σ' : Sg), XI V σ' → FX (fun id => False) (fun _ _ => False) σ0 σ' → (r.toInt = (sgn σ0 c0).toInt) → Qk r σ') : K_X2_sign l V c0 σ0 Qk := by
  refine e_X2_sign (fun M hl hV hN C => ?_)
  subst hl
  subst hV
  have gc0 := kdF_ge hc0
  have f0 : FX (fun id => False) (fun _ _ => False) σ0 σ0 := FX_rf
  have t_1 := XI_c1 m0 (k := 10) (lim_F0_10 hc0)
  have t_2 := XI_c1 m0 (k := 11) (lim_F0_11 hc0)
  refine s_X2_sign_0 C hN hc0 lc0 ?_
  refine ⟨?_, ?_⟩
  · intro q_3
    exact absurd (pre0.symm.trans q_3) (by decide)
  · intro a4 q_3
    refine ⟨?_, ?_⟩
    · intro q_4
      have b_5 : (gi σ0 c0 10).toInt ≤ (gi σ0 c0 11).toInt := Int32.le_iff_toInt_le.mp q_4
      have z_6 : (-1 : Int32).toInt = -1 := rfl
      exact h9ret (-1 : Int32) σ0 m0 f0 (by first | exact congrArg Int32.toInt (sgn_a (by assumption)).symm | exact congrArg Int32.toInt (sgn_b (by assumption)).symm)
    · intro q_4
      have b_7 : ¬ (gi σ0 c0 10).toInt ≤ (gi σ0 c0 11).toInt := fun h9 => q_4 (Int32.le_iff_toInt_le.mpr h9)
      have e9 : gr σ0 c0 9 = some 50 := ((m0.2.2.2 _ hc0).elim (fun z => by rw [z] at q_3; cases q_3) id)
      refine ⟨50, 100, e9, kd_50, fxl fx_50, ?_⟩
      have hv_8 : vp_in (gi σ0 c0 11) 100 := vp_in_iff.mpr ⟨by omega, by omega⟩
      refine ⟨hv_8, ?_⟩
      have w_9 := Int32.toInt_lt (gi σ0 50 (gi σ0 c0 11).toNatClampNeg)
      have w_10 := Int32.le_toInt (gi σ0 50 (gi σ0 c0 11).toNatClampNeg)
      exact h9ret (gi σ0 50 (gi σ0 c0 11).toNatClampNeg) σ0 m0 f0 (by first | exact congrArg Int32.toInt (sgn_a (by assumption)).symm | exact congrArg Int32.toInt (sgn_b (by assumption)).symm)
set_option maxRecDepth 100000 in
set_option maxHeartbeats 4000000 in
theorem k_X2_isDigit {l : Launch} {V : Vx} {c0 : Nat} {σ0 : Sg} {Qk : Int32 → Sg → Prop} (hc0 : kd c0 = (12, 0)) (lc0 : c0 ∈ ids (V)) (m0 : XI V σ0) (pre0 : gr σ0 c0 9 = some 50) (h9ret : ∀ (r : Int32) (σ' : Sg), XI V σ' → FX (fun id => False) (fun _ _ => False) σ0 σ' → (0 ≤ r.toInt) → (r.toInt ≤ 1) → ((r.toInt = 1 ∧ 48 ≤ (sgn σ0 c0).toInt ∧ (sgn σ0 c0).toInt ≤ 57) ∨ r.toInt = 0) → Qk r σ') : K_X2_isDigit l V c0 σ0 Qk := by
  refine e_X2_isDigit (fun M hl hV hN C => ?_)
  subst hl
  subst hV
  have gc0 := kdF_ge hc0
  have f0 : FX (fun id => False) (fun _ _ => False) σ0 σ0 := FX_rf
  have t_1 := XI_c1 m0 (k := 10) (lim_F0_10 hc0)
  have t_2 := XI_c1 m0 (k := 11) (lim_F0_11 hc0)
  refine s_X2_isDigit_0 C hN hc0 lc0 ?_
  refine k_X2_sign hc0 lc0 m0  (by first | omega | assumption | rfl) (fun r2 σ1 mσ1 cσ1 (pσ1_0 : r2.toInt = (sgn σ0 c0).toInt) => ?_)
  obtain rfl := FX_nil cσ1
  refine ⟨?_, ?_⟩
  · intro q_3
    have w_4 := Int32.toInt_lt r2
    have w_5 := Int32.le_toInt r2
    have b_6 : r2.toInt < 48 := Int32.lt_iff_toInt_lt.mp q_3
    have z_7 : (0 : Int32).toInt = 0 := rfl
    exact h9ret (0 : Int32) σ0 m0 f0 (by omega) (by omega) (by first | omega | assumption | rfl)
  · intro q_3
    have w_8 := Int32.toInt_lt r2
    have w_9 := Int32.le_toInt r2
    have b_10 : ¬ r2.toInt < 48 := fun h9 => q_3 (Int32.lt_iff_toInt_lt.mpr h9)
    refine k_X2_sign hc0 lc0 m0  (by first | omega | assumption | rfl) (fun r5 σ4 mσ4 cσ4 (pσ4_0 : r5.toInt = (sgn σ0 c0).toInt) => ?_)
    obtain rfl := FX_nil cσ4
    refine ⟨?_, ?_⟩
    · intro q_11
      have w_12 := Int32.toInt_lt r5
      have w_13 := Int32.le_toInt r5
      have b_14 : (57 : Int) < r5.toInt := Int32.lt_iff_toInt_lt.mp q_11
      have z_15 : (0 : Int32).toInt = 0 := rfl
      exact h9ret (0 : Int32) σ0 m0 f0 (by omega) (by omega) (by first | omega | assumption | rfl)
    · intro q_11
      have w_16 := Int32.toInt_lt r5
      have w_17 := Int32.le_toInt r5
      have b_18 : ¬ (57 : Int) < r5.toInt := fun h9 => q_11 (Int32.lt_iff_toInt_lt.mpr h9)
      have z_19 : (1 : Int32).toInt = 1 := rfl
      exact h9ret (1 : Int32) σ0 m0 f0 (by omega) (by omega) (by first | omega | assumption | rfl)
set_option maxRecDepth 100000 in
set_option maxHeartbeats 4000000 in
theorem k_X2_takes {l : Launch} {V : Vx} {c0 : Nat} {a1 : Int32} {σ0 : Sg} {Qk : Int32 → Sg → Prop} (hc0 : kd c0 = (12, 0)) (lc0 : c0 ∈ ids (V)) (m0 : XI V σ0) (l_a1 : 0 ≤ a1.toInt) (u_a1 : a1.toInt ≤ 65535) (pre0 : gr σ0 c0 9 = some 50) (h9ret : ∀ (r : Int32) (σ' : Sg), XI V σ' → FX (fun id => False) (fun id k => (id = c0 ∧ k = 11)) σ0 σ' → (0 ≤ r.toInt) → (r.toInt ≤ 1) → Qk r σ') : K_X2_takes l V c0 a1 σ0 Qk := by
  refine e_X2_takes (fun M hl hV hN C => ?_)
  subst hl
  subst hV
  have gc0 := kdF_ge hc0
  have f0 : FX (fun id => False) (fun id k => (id = c0 ∧ k = 11)) σ0 σ0 := FX_rf
  have t_1 := XI_c1 m0 (k := 10) (lim_F0_10 hc0)
  have t_2 := XI_c1 m0 (k := 11) (lim_F0_11 hc0)
  refine s_X2_takes_0 C hN hc0 lc0 ?_
  refine k_X2_sign hc0 lc0 m0  (by first | omega | assumption | rfl) (fun r2 σ1 mσ1 cσ1 (pσ1_0 : r2.toInt = (sgn σ0 c0).toInt) => ?_)
  obtain rfl := FX_nil cσ1
  have hlt := fun h9 => @sgn_lt σ0 c0 h9
  refine ⟨?_, ?_⟩
  · intro q_3
    have w_4 := Int32.toInt_lt r2
    have w_5 := Int32.le_toInt r2
    have b_6 : r2.toInt = a1.toInt := congrArg Int32.toInt q_3
    intro σ4 eσ4
    have t_7 : ((gi σ0 c0 11) + (1 : Int32)).toInt = (gi σ0 c0 11).toInt + 1 := i_add (x := (gi σ0 c0 11)) (y := (1 : Int32)) (by show (_ : Int) ≤ (gi σ0 c0 11).toInt + 1; omega) (by show (gi σ0 c0 11).toInt + 1 ≤ (_ : Int); omega)
    have mσ4 : XI (mV M) σ4 := by rw [eσ4]; exact XIs_b m0 (lim_F0_11 hc0) (by omega) (by omega)
    have fσ4 : FX (fun id => False) (fun id k => (id = c0 ∧ k = 11)) σ0 σ4 := by rw [eσ4]; exact FX_si f0 (Or.inr (by show (c0 = c0 ∧ 11 = 11); omega))
    have k_8 : (gi σ4 c0 10).toInt = (gi σ0 c0 10).toInt := by rw [eσ4]; exact congrArg Int32.toInt (gi_si_ne (Or.inr (by decide)))
    have k_9 : (gi σ4 c0 11).toInt = ((gi σ0 c0 11) + (1 : Int32)).toInt := by rw [eσ4]; exact congrArg Int32.toInt gi_si_eq
    have kr_10 : gr σ4 c0 9 = some 50 := ((by rw [eσ4]; rfl : gr σ4 c0 9 = gr σ0 c0 9)).trans pre0
    have z_11 : (1 : Int32).toInt = 1 := rfl
    exact h9ret (1 : Int32) σ4 mσ4 fσ4 (by omega) (by omega)
  · intro q_3
    have w_12 := Int32.toInt_lt r2
    have w_13 := Int32.le_toInt r2
    have b_14 : ¬ r2.toInt = a1.toInt := fun h9 => q_3 (Int32.toInt_inj.mp h9)
    have z_15 : (0 : Int32).toInt = 0 := rfl
    exact h9ret (0 : Int32) σ0 m0 f0 (by omega) (by omega)
set_option maxRecDepth 100000 in
set_option maxHeartbeats 4000000 in
theorem k_X2_writes {l : Launch} {V : Vx} {c0 : Nat} {a1 : Int32} {σ0 : Sg} {Qk : Sg → Prop} (hc0 : kd c0 = (12, 0)) (lc0 : c0 ∈ ids (V)) (m0 : XI V σ0) (l_a1 : -3 ≤ a1.toInt) (u_a1 : a1.toInt ≤ 1799) (h9ret : ∀ (σ' : Sg), XI V σ' → FX (fun id => id = c0 + 1) (fun id k => (id = c0 ∧ k = 4)) σ0 σ' → Qk σ') : K_X2_writes l V c0 a1 σ0 Qk := by
  refine e_X2_writes (fun M hl hV hN C => ?_)
  subst hl
  subst hV
  have gc0 := kdF_ge hc0
  have f0 : FX (fun id => id = c0 + 1) (fun id k => (id = c0 ∧ k = 4)) σ0 σ0 := FX_rf
  have t_1 := XI_c1 m0 (k := 4) (lim_F0_4 hc0)
  refine s_X2_writes_0 C hN hc0 lc0 ?_
  refine ⟨?_, ?_⟩
  · intro q_2
    have b_3 : (100 : Int) ≤ (gi σ0 c0 4).toInt := Int32.le_iff_toInt_le.mp q_2
    exact h9ret σ0 m0 f0
  · intro q_2
    have b_4 : ¬ (100 : Int) ≤ (gi σ0 c0 4).toInt := fun h9 => q_2 (Int32.le_iff_toInt_le.mpr h9)
    have hv_5 : vp_in (gi σ0 c0 4) 100 := vp_in_iff.mpr ⟨by omega, by omega⟩
    refine ⟨hv_5, ?_⟩
    intro σ3 eσ3
    have mσ3 : XI (mV M) σ3 := by rw [eσ3]; exact XIs_b m0 (lim_F1 hc0 _) (by omega) (by omega)
    have fσ3 : FX (fun id => id = c0 + 1) (fun id k => (id = c0 ∧ k = 4)) σ0 σ3 := by rw [eσ3]; exact FX_si f0 (Or.inl (by show c0 + 1 = c0 + 1; omega))
    have k_6 : (gi σ3 c0 4).toInt = (gi σ0 c0 4).toInt := by rw [eσ3]; exact congrArg Int32.toInt (gi_si_ne (Or.inl (by omega)))
    intro σ4 eσ4
    have t_7 := XI_c1 mσ3 (k := 4) (lim_F0_4 hc0)
    have t_8 : ((gi σ3 c0 4) + (1 : Int32)).toInt = (gi σ3 c0 4).toInt + 1 := i_add (x := (gi σ3 c0 4)) (y := (1 : Int32)) (by show (_ : Int) ≤ (gi σ3 c0 4).toInt + 1; omega) (by show (gi σ3 c0 4).toInt + 1 ≤ (_ : Int); omega)
    have mσ4 : XI (mV M) σ4 := by rw [eσ4]; exact XIs_b mσ3 (lim_F0_4 hc0) (by omega) (by omega)
    have fσ4 : FX (fun id => id = c0 + 1) (fun id k => (id = c0 ∧ k = 4)) σ0 σ4 := by rw [eσ4]; exact FX_si fσ3 (Or.inr (by show (c0 = c0 ∧ 4 = 4); omega))
    have k_9 : (gi σ4 c0 4).toInt = ((gi σ3 c0 4) + (1 : Int32)).toInt := by rw [eσ4]; exact congrArg Int32.toInt gi_si_eq
    exact h9ret σ4 mσ4 fσ4
set_option maxRecDepth 100000 in
set_option maxHeartbeats 4000000 in
theorem k_X2_keeps {l : Launch} {V : Vx} {c0 : Nat} {a1 : Int32} {a2 : Int32} {σ0 : Sg} {Qk : Sg → Prop} (hc0 : kd c0 = (12, 0)) (lc0 : c0 ∈ ids (V)) (m0 : XI V σ0) (h9ret : ∀ (σ' : Sg), XI V σ' → FX (fun id => id = c0 + 2 ∨ id = c0 + 3 ∨ id = c0 + 4) (fun id k => (id = c0 ∧ k = 0) ∨ (id = c0 ∧ k = 1) ∨ (id = c0 ∧ k = 2) ∨ (id = c0 ∧ k = 8)) σ0 σ' → Qk σ') : K_X2_keeps l V c0 a1 a2 σ0 Qk := by
  refine e_X2_keeps (fun M hl hV hN C => ?_)
  subst hl
  subst hV
  have gc0 := kdF_ge hc0
  have T : ∀ n : Nat, (∀ (x1 : Int32) (x2 : Int32) (σ : Sg), XI (mV M) σ → FX (fun id => id = c0 + 2 ∨ id = c0 + 3 ∨ id = c0 + 4) (fun id k => (id = c0 ∧ k = 0) ∨ (id = c0 ∧ k = 1) ∨ (id = c0 ∧ k = 2) ∨ (id = c0 ∧ k = 8)) σ0 σ → 1 < n → PS M 40 [(0, .ref c0), (1, .int x1), (2, .int x2)] [] σ (0, 0)) := by
    intro n
    induction n with
    | zero => exact fun _ _ _ _ _ h8 => absurd h8 (Nat.not_lt_zero _)
    | succ n ih =>
      have ih40 := ih
      · intro x1 x2 σ mσ fσ hmu
        have k_1 : (gi σ c0 4).toInt = (gi σ0 c0 4).toInt := congrArg Int32.toInt (FX_i fσ (show ¬ (c0 = c0 + 2 ∨ c0 = c0 + 3 ∨ c0 = c0 + 4) from by omega) (show ¬ ((c0 = c0 ∧ 4 = 0) ∨ (c0 = c0 ∧ 4 = 1) ∨ (c0 = c0 ∧ 4 = 2) ∨ (c0 = c0 ∧ 4 = 8)) from by omega))
        have t_2 := XI_c1 mσ (k := 4) (lim_F0_4 hc0)
        have t_3 := XI_c1 mσ (k := 8) (lim_F0_8 hc0)
        refine s_X2_keeps_40 C hN hc0 lc0 ?_
        refine ⟨?_, ?_⟩
        · intro q_4
          have b_5 : (10 : Int) ≤ (gi σ c0 8).toInt := Int32.le_iff_toInt_le.mp q_4
          exact h9ret σ mσ fσ
        · intro q_4
          have b_6 : ¬ (10 : Int) ≤ (gi σ c0 8).toInt := fun h9 => q_4 (Int32.le_iff_toInt_le.mpr h9)
          have hv_7 : vp_in (gi σ c0 8) 10 := vp_in_iff.mpr ⟨by omega, by omega⟩
          refine ⟨hv_7, ?_⟩
          intro σ3 eσ3
          have mσ3 : XI (mV M) σ3 := by rw [eσ3]; exact XIs_n mσ (lim_F2 hc0 _)
          have fσ3 : FX (fun id => id = c0 + 2 ∨ id = c0 + 3 ∨ id = c0 + 4) (fun id k => (id = c0 ∧ k = 0) ∨ (id = c0 ∧ k = 1) ∨ (id = c0 ∧ k = 2) ∨ (id = c0 ∧ k = 8)) σ0 σ3 := by rw [eσ3]; exact FX_si fσ (Or.inl (by show c0 + 2 = c0 + 2 ∨ c0 + 2 = c0 + 3 ∨ c0 + 2 = c0 + 4; omega))
          have k_8 : (gi σ3 c0 4).toInt = (gi σ c0 4).toInt := by rw [eσ3]; exact congrArg Int32.toInt (gi_si_ne (Or.inl (by omega)))
          have k_9 : (gi σ3 c0 8).toInt = (gi σ c0 8).toInt := by rw [eσ3]; exact congrArg Int32.toInt (gi_si_ne (Or.inl (by omega)))
          have t_10 := XI_c1 mσ3 (k := 8) (lim_F0_8 hc0)
          have hv_11 : vp_in (gi σ3 c0 8) 10 := vp_in_iff.mpr ⟨by omega, by omega⟩
          refine ⟨hv_11, ?_⟩
          intro σ5 eσ5
          have mσ5 : XI (mV M) σ5 := by rw [eσ5]; exact XIs_n mσ3 (lim_F3 hc0 _)
          have fσ5 : FX (fun id => id = c0 + 2 ∨ id = c0 + 3 ∨ id = c0 + 4) (fun id k => (id = c0 ∧ k = 0) ∨ (id = c0 ∧ k = 1) ∨ (id = c0 ∧ k = 2) ∨ (id = c0 ∧ k = 8)) σ0 σ5 := by rw [eσ5]; exact FX_si fσ3 (Or.inl (by show c0 + 3 = c0 + 2 ∨ c0 + 3 = c0 + 3 ∨ c0 + 3 = c0 + 4; omega))
          have k_12 : (gi σ5 c0 4).toInt = (gi σ3 c0 4).toInt := by rw [eσ5]; exact congrArg Int32.toInt (gi_si_ne (Or.inl (by omega)))
          have k_13 : (gi σ5 c0 8).toInt = (gi σ3 c0 8).toInt := by rw [eσ5]; exact congrArg Int32.toInt (gi_si_ne (Or.inl (by omega)))
          have t_14 := XI_c1 mσ5 (k := 8) (lim_F0_8 hc0)
          have hv_15 : vp_in (gi σ5 c0 8) 10 := vp_in_iff.mpr ⟨by omega, by omega⟩
          refine ⟨hv_15, ?_⟩
          intro σ7 eσ7
          have t_16 := XI_c1 mσ5 (k := 4) (lim_F0_4 hc0)
          have mσ7 : XI (mV M) σ7 := by rw [eσ7]; exact XIs_b mσ5 (lim_F4 hc0 _) (by omega) (by omega)
          have fσ7 : FX (fun id => id = c0 + 2 ∨ id = c0 + 3 ∨ id = c0 + 4) (fun id k => (id = c0 ∧ k = 0) ∨ (id = c0 ∧ k = 1) ∨ (id = c0 ∧ k = 2) ∨ (id = c0 ∧ k = 8)) σ0 σ7 := by rw [eσ7]; exact FX_si fσ5 (Or.inl (by show c0 + 4 = c0 + 2 ∨ c0 + 4 = c0 + 3 ∨ c0 + 4 = c0 + 4; omega))
          have k_17 : (gi σ7 c0 4).toInt = (gi σ5 c0 4).toInt := by rw [eσ7]; exact congrArg Int32.toInt (gi_si_ne (Or.inl (by omega)))
          have k_18 : (gi σ7 c0 8).toInt = (gi σ5 c0 8).toInt := by rw [eσ7]; exact congrArg Int32.toInt (gi_si_ne (Or.inl (by omega)))
          intro σ8 eσ8
          have t_19 := XI_c1 mσ7 (k := 8) (lim_F0_8 hc0)
          have t_20 : ((gi σ7 c0 8) + (1 : Int32)).toInt = (gi σ7 c0 8).toInt + 1 := i_add (x := (gi σ7 c0 8)) (y := (1 : Int32)) (by show (_ : Int) ≤ (gi σ7 c0 8).toInt + 1; omega) (by show (gi σ7 c0 8).toInt + 1 ≤ (_ : Int); omega)
          have mσ8 : XI (mV M) σ8 := by rw [eσ8]; exact XIs_b mσ7 (lim_F0_8 hc0) (by omega) (by omega)
          have fσ8 : FX (fun id => id = c0 + 2 ∨ id = c0 + 3 ∨ id = c0 + 4) (fun id k => (id = c0 ∧ k = 0) ∨ (id = c0 ∧ k = 1) ∨ (id = c0 ∧ k = 2) ∨ (id = c0 ∧ k = 8)) σ0 σ8 := by rw [eσ8]; exact FX_si fσ7 (Or.inr (by show (c0 = c0 ∧ 8 = 0) ∨ (c0 = c0 ∧ 8 = 1) ∨ (c0 = c0 ∧ 8 = 2) ∨ (c0 = c0 ∧ 8 = 8); omega))
          have k_21 : (gi σ8 c0 4).toInt = (gi σ7 c0 4).toInt := by rw [eσ8]; exact congrArg Int32.toInt (gi_si_ne (Or.inr (by decide)))
          have k_22 : (gi σ8 c0 8).toInt = ((gi σ7 c0 8) + (1 : Int32)).toInt := by rw [eσ8]; exact congrArg Int32.toInt gi_si_eq
          exact h9ret σ8 mσ8 fσ8
  have U40 := T 9
  have f0 : FX (fun id => id = c0 + 2 ∨ id = c0 + 3 ∨ id = c0 + 4) (fun id k => (id = c0 ∧ k = 0) ∨ (id = c0 ∧ k = 1) ∨ (id = c0 ∧ k = 2) ∨ (id = c0 ∧ k = 8)) σ0 σ0 := FX_rf
  have t_23 := XI_c1 m0 (k := 4) (lim_F0_4 hc0)
  have t_24 := XI_c1 m0 (k := 8) (lim_F0_8 hc0)
  refine s_X2_keeps_0 C hN hc0 lc0 ?_
  refine ⟨?_, ?_⟩
  · intro q_25
    have w_26 := Int32.toInt_lt a1
    have w_27 := Int32.le_toInt a1
    have b_28 : ¬ a1.toInt = 2 := fun h9 => q_25 (Int32.toInt_inj.mp h9)
    refine ⟨?_, ?_⟩
    · intro q_29
      have b_30 : ¬ a1.toInt = 3 := fun h9 => q_29 (Int32.toInt_inj.mp h9)
      refine ⟨?_, ?_⟩
      · intro q_31
        have b_32 : a1.toInt ≤ 3 := Int32.le_iff_toInt_le.mp q_31
        have w_33 := Int32.toInt_lt a2
        have w_34 := Int32.le_toInt a2
        exact U40 a1 a2 σ0 m0 f0 (by omega)
      · intro q_31
        have b_35 : ¬ a1.toInt ≤ 3 := fun h9 => q_31 (Int32.le_iff_toInt_le.mpr h9)
        have z_36 : (1 : Int32).toInt = 1 := rfl
        have w_37 := Int32.toInt_lt a2
        have w_38 := Int32.le_toInt a2
        intro v4 ev4
        have t_39 := jmax_b (1 : Int32) a2
        have t_40 : v4.toInt = (jmax (1 : Int32) a2).toInt := congrArg Int32.toInt ev4
        intro σ5 eσ5
        have mσ5 : XI (mV M) σ5 := by rw [eσ5]; exact XIs_n m0 (lim_F0_n hc0 _ (by decide))
        have fσ5 : FX (fun id => id = c0 + 2 ∨ id = c0 + 3 ∨ id = c0 + 4) (fun id k => (id = c0 ∧ k = 0) ∨ (id = c0 ∧ k = 1) ∨ (id = c0 ∧ k = 2) ∨ (id = c0 ∧ k = 8)) σ0 σ5 := by rw [eσ5]; exact FX_si f0 (Or.inr (by show (c0 = c0 ∧ 2 = 0) ∨ (c0 = c0 ∧ 2 = 1) ∨ (c0 = c0 ∧ 2 = 2) ∨ (c0 = c0 ∧ 2 = 8); omega))
        have k_41 : (gi σ5 c0 4).toInt = (gi σ0 c0 4).toInt := by rw [eσ5]; exact congrArg Int32.toInt (gi_si_ne (Or.inr (by decide)))
        have k_42 : (gi σ5 c0 8).toInt = (gi σ0 c0 8).toInt := by rw [eσ5]; exact congrArg Int32.toInt (gi_si_ne (Or.inr (by decide)))
        exact U40 a1 a2 σ5 mσ5 fσ5 (by omega)
    · intro q_29
      have b_43 : a1.toInt = 3 := congrArg Int32.toInt q_29
      intro σ6 eσ6
      have mσ6 : XI (mV M) σ6 := by rw [eσ6]; exact XIs_n m0 (lim_F0_n hc0 _ (by decide))
      have fσ6 : FX (fun id => id = c0 + 2 ∨ id = c0 + 3 ∨ id = c0 + 4) (fun id k => (id = c0 ∧ k = 0) ∨ (id = c0 ∧ k = 1) ∨ (id = c0 ∧ k = 2) ∨ (id = c0 ∧ k = 8)) σ0 σ6 := by rw [eσ6]; exact FX_si f0 (Or.inr (by show (c0 = c0 ∧ 1 = 0) ∨ (c0 = c0 ∧ 1 = 1) ∨ (c0 = c0 ∧ 1 = 2) ∨ (c0 = c0 ∧ 1 = 8); omega))
      have k_44 : (gi σ6 c0 4).toInt = (gi σ0 c0 4).toInt := by rw [eσ6]; exact congrArg Int32.toInt (gi_si_ne (Or.inr (by decide)))
      have k_45 : (gi σ6 c0 8).toInt = (gi σ0 c0 8).toInt := by rw [eσ6]; exact congrArg Int32.toInt (gi_si_ne (Or.inr (by decide)))
      have w_46 := Int32.toInt_lt a2
      have w_47 := Int32.le_toInt a2
      exact U40 a1 a2 σ6 mσ6 fσ6 (by omega)
  · intro q_25
    have w_48 := Int32.toInt_lt a1
    have w_49 := Int32.le_toInt a1
    have b_50 : a1.toInt = 2 := congrArg Int32.toInt q_25
    intro σ7 eσ7
    have mσ7 : XI (mV M) σ7 := by rw [eσ7]; exact XIs_n m0 (lim_F0_n hc0 _ (by decide))
    have fσ7 : FX (fun id => id = c0 + 2 ∨ id = c0 + 3 ∨ id = c0 + 4) (fun id k => (id = c0 ∧ k = 0) ∨ (id = c0 ∧ k = 1) ∨ (id = c0 ∧ k = 2) ∨ (id = c0 ∧ k = 8)) σ0 σ7 := by rw [eσ7]; exact FX_si f0 (Or.inr (by show (c0 = c0 ∧ 0 = 0) ∨ (c0 = c0 ∧ 0 = 1) ∨ (c0 = c0 ∧ 0 = 2) ∨ (c0 = c0 ∧ 0 = 8); omega))
    have k_51 : (gi σ7 c0 4).toInt = (gi σ0 c0 4).toInt := by rw [eσ7]; exact congrArg Int32.toInt (gi_si_ne (Or.inr (by decide)))
    have k_52 : (gi σ7 c0 8).toInt = (gi σ0 c0 8).toInt := by rw [eσ7]; exact congrArg Int32.toInt (gi_si_ne (Or.inr (by decide)))
    have w_53 := Int32.toInt_lt a2
    have w_54 := Int32.le_toInt a2
    exact U40 a1 a2 σ7 mσ7 fσ7 (by omega)
set_option maxRecDepth 100000 in
set_option maxHeartbeats 4000000 in
theorem k_X2_readsNumber {l : Launch} {V : Vx} {c0 : Nat} {σ0 : Sg} {Qk : Int32 → Sg → Prop} (hc0 : kd c0 = (12, 0)) (lc0 : c0 ∈ ids (V)) (m0 : XI V σ0) (pre0 : gr σ0 c0 9 = some 50) (h9ret : ∀ (r : Int32) (σ' : Sg), XI V σ' → FX (fun id => False) (fun id k => (id = c0 ∧ k = 11)) σ0 σ' → (-1 ≤ r.toInt) → (r.toInt ≤ 99) → Qk r σ') : K_X2_readsNumber l V c0 σ0 Qk := by
  refine e_X2_readsNumber (fun M hl hV hN C => ?_)
  subst hl
  subst hV
  have gc0 := kdF_ge hc0
  have f0 : FX (fun id => False) (fun id k => (id = c0 ∧ k = 11)) σ0 σ0 := FX_rf
  have t_1 := XI_c1 m0 (k := 10) (lim_F0_10 hc0)
  have t_2 := XI_c1 m0 (k := 11) (lim_F0_11 hc0)
  refine s_X2_readsNumber_0 C hN hc0 lc0 ?_
  refine k_X2_isDigit hc0 lc0 m0  (by first | omega | assumption | rfl) (fun r2 σ1 mσ1 cσ1 plσ1 phσ1 (pσ1_0 : (r2.toInt = 1 ∧ 48 ≤ (sgn σ0 c0).toInt ∧ (sgn σ0 c0).toInt ≤ 57) ∨ r2.toInt = 0) => ?_)
  obtain rfl := FX_nil cσ1
  refine ⟨?_, ?_⟩
  · intro q_3
    have b_4 : ¬ r2.toInt = 0 := fun h9 => q_3 (Int32.toInt_inj.mp h9)
    refine k_X2_sign hc0 lc0 m0  (by first | omega | assumption | rfl) (fun r5 σ4 mσ4 cσ4 (pσ4_0 : r5.toInt = (sgn σ0 c0).toInt) => ?_)
    obtain rfl := FX_nil cσ4
    have hlt := fun h9 => @sgn_lt σ0 c0 h9
    intro v6 ev6
    have u6 : v6.toInt = r5.toInt - 48 := by rw [ev6]; exact i_sub (y := (48 : Int32)) (by show _ ≤ r5.toInt - 48; omega) (by show r5.toInt - 48 ≤ _; omega)
    intro σ7 eσ7
    have t_5 : ((gi σ0 c0 11) + (1 : Int32)).toInt = (gi σ0 c0 11).toInt + 1 := i_add (x := (gi σ0 c0 11)) (y := (1 : Int32)) (by show (_ : Int) ≤ (gi σ0 c0 11).toInt + 1; omega) (by show (gi σ0 c0 11).toInt + 1 ≤ (_ : Int); omega)
    have mσ7 : XI (mV M) σ7 := by rw [eσ7]; exact XIs_b m0 (lim_F0_11 hc0) (by omega) (by omega)
    have fσ7 : FX (fun id => False) (fun id k => (id = c0 ∧ k = 11)) σ0 σ7 := by rw [eσ7]; exact FX_si f0 (Or.inr (by show (c0 = c0 ∧ 11 = 11); omega))
    have k_6 : (gi σ7 c0 10).toInt = (gi σ0 c0 10).toInt := by rw [eσ7]; exact congrArg Int32.toInt (gi_si_ne (Or.inr (by decide)))
    have k_7 : (gi σ7 c0 11).toInt = ((gi σ0 c0 11) + (1 : Int32)).toInt := by rw [eσ7]; exact congrArg Int32.toInt gi_si_eq
    have kr_8 : gr σ7 c0 9 = some 50 := ((by rw [eσ7]; rfl : gr σ7 c0 9 = gr σ0 c0 9)).trans pre0
    refine k_X2_isDigit hc0 lc0 mσ7  (by first | omega | assumption | rfl) (fun r9 σ8 mσ8 cσ8 plσ8 phσ8 (pσ8_0 : (r9.toInt = 1 ∧ 48 ≤ (sgn σ7 c0).toInt ∧ (sgn σ7 c0).toInt ≤ 57) ∨ r9.toInt = 0) => ?_)
    obtain rfl := FX_nil cσ8
    have t_9 := XI_c1 mσ7 (k := 10) (lim_F0_10 hc0)
    have t_10 := XI_c1 mσ7 (k := 11) (lim_F0_11 hc0)
    refine ⟨?_, ?_⟩
    · intro q_11
      have b_12 : r9.toInt = 0 := congrArg Int32.toInt q_11
      have w_13 := Int32.toInt_lt v6
      have w_14 := Int32.le_toInt v6
      exact h9ret v6 σ7 mσ7 fσ7 (by omega) (by omega)
    · intro q_11
      have b_15 : ¬ r9.toInt = 0 := fun h9 => q_11 (Int32.toInt_inj.mp h9)
      refine k_X2_sign hc0 lc0 mσ7  (by first | omega | assumption | rfl) (fun r12 σ11 mσ11 cσ11 (pσ11_0 : r12.toInt = (sgn σ7 c0).toInt) => ?_)
      obtain rfl := FX_nil cσ11
      have hlt := fun h9 => @sgn_lt σ7 c0 h9
      intro v13 ev13
      have ua : ((10 : Int32) * v6).toInt = 10 * v6.toInt := i_mull rfl (by omega) (by omega)
      have ub : (((10 : Int32) * v6) + r12).toInt = 10 * v6.toInt + r12.toInt := by rw [i_add (by omega) (by omega)]; omega
      have u13 : v13.toInt = 10 * v6.toInt + r12.toInt - 48 := by rw [ev13, i_sub (y := (48 : Int32)) (by show _ ≤ _ - 48; omega) (by show _ - 48 ≤ _; omega)]; show _ - 48 = _; omega
      intro σ14 eσ14
      have t_16 : ((gi σ7 c0 11) + (1 : Int32)).toInt = (gi σ7 c0 11).toInt + 1 := i_add (x := (gi σ7 c0 11)) (y := (1 : Int32)) (by show (_ : Int) ≤ (gi σ7 c0 11).toInt + 1; omega) (by show (gi σ7 c0 11).toInt + 1 ≤ (_ : Int); omega)
      have mσ14 : XI (mV M) σ14 := by rw [eσ14]; exact XIs_b mσ7 (lim_F0_11 hc0) (by omega) (by omega)
      have fσ14 : FX (fun id => False) (fun id k => (id = c0 ∧ k = 11)) σ0 σ14 := by rw [eσ14]; exact FX_si fσ7 (Or.inr (by show (c0 = c0 ∧ 11 = 11); omega))
      have k_17 : (gi σ14 c0 10).toInt = (gi σ7 c0 10).toInt := by rw [eσ14]; exact congrArg Int32.toInt (gi_si_ne (Or.inr (by decide)))
      have k_18 : (gi σ14 c0 11).toInt = ((gi σ7 c0 11) + (1 : Int32)).toInt := by rw [eσ14]; exact congrArg Int32.toInt gi_si_eq
      have kr_19 : gr σ14 c0 9 = some 50 := ((by rw [eσ14]; rfl : gr σ14 c0 9 = gr σ7 c0 9)).trans kr_8
      have w_20 := Int32.toInt_lt v13
      have w_21 := Int32.le_toInt v13
      exact h9ret v13 σ14 mσ14 fσ14 (by omega) (by omega)
  · intro q_3
    have b_22 : r2.toInt = 0 := congrArg Int32.toInt q_3
    have z_23 : (-1 : Int32).toInt = -1 := rfl
    exact h9ret (-1 : Int32) σ0 m0 f0 (by omega) (by omega)
set_option maxRecDepth 100000 in
set_option maxHeartbeats 4000000 in
theorem k_X2_signAmong {l : Launch} {V : Vx} {c0 : Nat} {a1 : Nat} {σ0 : Sg} {Qk : Int32 → Sg → Prop} (hc0 : kd c0 = (12, 0)) (lc0 : c0 ∈ ids (V)) (ha1 : a1 < 8) (m0 : XI V σ0) (pre0 : gr σ0 c0 9 = some 50) (h9ret : ∀ (r : Int32) (σ' : Sg), XI V σ' → FX (fun id => False) (fun _ _ => False) σ0 σ' → (-1 ≤ r.toInt) → (r.toInt ≤ 5) → (r.toInt = -1 ∨ (0 ≤ r.toInt ∧ r.toInt < (slen a1 : Int) ∧ 0 ≤ (sgn σ0 c0).toInt)) → Qk r σ') : K_X2_signAmong l V c0 a1 σ0 Qk := by
  refine e_X2_signAmong (fun M hl hV hN C => ?_)
  subst hl
  subst hV
  have gc0 := kdF_ge hc0
  have hn := nI_slen ha1
  have f0 : FX (fun id => False) (fun _ _ => False) σ0 σ0 := FX_rf
  have t_1 := XI_c1 m0 (k := 10) (lim_F0_10 hc0)
  have t_2 := XI_c1 m0 (k := 11) (lim_F0_11 hc0)
  refine s_X2_signAmong_0 C hN hc0 lc0 ha1 ?_
  refine k_X2_sign hc0 lc0 m0  (by first | omega | assumption | rfl) (fun r2 σ1 mσ1 cσ1 (pσ1_0 : r2.toInt = (sgn σ0 c0).toInt) => ?_)
  obtain rfl := FX_nil cσ1
  refine ⟨?_, ?_⟩
  · intro q_3
    have w_4 := Int32.toInt_lt r2
    have w_5 := Int32.le_toInt r2
    have b_6 : (0 : Int) ≤ r2.toInt := Int32.le_iff_toInt_le.mp q_3
    refine k_J0_indexOf_0f7a4 ha1 m0   (fun r5 σ4 mσ4 cσ4 (pσ4_0 : -1 ≤ r5.toInt) (pσ4_1 : r5.toInt < (slen a1 : Int)) => ?_)
    obtain rfl := FX_nil cσ4
    have w_7 := Int32.toInt_lt r5
    have w_8 := Int32.le_toInt r5
    exact h9ret r5 σ0 m0 f0 (by omega) (by omega) (by first | omega | assumption | rfl)
  · intro q_3
    have w_9 := Int32.toInt_lt r2
    have w_10 := Int32.le_toInt r2
    have b_11 : ¬ (0 : Int) ≤ r2.toInt := fun h9 => q_3 (Int32.le_iff_toInt_le.mpr h9)
    have z_12 : (-1 : Int32).toInt = -1 := rfl
    exact h9ret (-1 : Int32) σ0 m0 f0 (by omega) (by omega) (by first | omega | assumption | rfl)
set_option maxRecDepth 100000 in
set_option maxHeartbeats 4000000 in
theorem k_X2_readsTest {l : Launch} {V : Vx} {c0 : Nat} {σ0 : Sg} {Qk : Int32 → Sg → Prop} (hc0 : kd c0 = (12, 0)) (lc0 : c0 ∈ ids (V)) (m0 : XI V σ0) (pre0 : gr σ0 c0 9 = some 50) (h9ret : ∀ (r : Int32) (σ' : Sg), XI V σ' → FX (fun id => id = c0 + 1) (fun id k => (id = c0 ∧ k = 4) ∨ (id = c0 ∧ k = 11)) σ0 σ' → (0 ≤ r.toInt) → (r.toInt ≤ 1) → Qk r σ') : K_X2_readsTest l V c0 σ0 Qk := by
  refine e_X2_readsTest (fun M hl hV hN C => ?_)
  subst hl
  subst hV
  have gc0 := kdF_ge hc0
  have z60 : (slen 0 : Int) = 5 := rfl
  have z66 : (slen 6 : Int) = 6 := rfl
  have z67 : (slen 7 : Int) = 3 := rfl
  have f0 : FX (fun id => id = c0 + 1) (fun id k => (id = c0 ∧ k = 4) ∨ (id = c0 ∧ k = 11)) σ0 σ0 := FX_rf
  have t_1 := XI_c1 m0 (k := 10) (lim_F0_10 hc0)
  have t_2 := XI_c1 m0 (k := 11) (lim_F0_11 hc0)
  refine s_X2_readsTest_0 C hN hc0 lc0 ?_
  have z_3 : (6 : Int32).toInt = 6 := rfl
  refine k_X2_signAmong hc0 lc0 (by decide) m0  (by first | omega | assumption | rfl) (fun r2 σ1 mσ1 cσ1 plσ1 phσ1 (pσ1_0 : r2.toInt = -1 ∨ (0 ≤ r2.toInt ∧ r2.toInt < (slen 6 : Int) ∧ 0 ≤ (sgn σ0 c0).toInt)) => ?_)
  obtain rfl := FX_nil cσ1
  have hlt := fun h9 => @sgn_lt σ0 c0 h9
  refine ⟨?_, ?_⟩
  · intro q_4
    have b_5 : (0 : Int) ≤ r2.toInt := Int32.le_iff_toInt_le.mp q_4
    intro σ4 eσ4
    have t_6 : ((gi σ0 c0 11) + (1 : Int32)).toInt = (gi σ0 c0 11).toInt + 1 := i_add (x := (gi σ0 c0 11)) (y := (1 : Int32)) (by show (_ : Int) ≤ (gi σ0 c0 11).toInt + 1; omega) (by show (gi σ0 c0 11).toInt + 1 ≤ (_ : Int); omega)
    have mσ4 : XI (mV M) σ4 := by rw [eσ4]; exact XIs_b m0 (lim_F0_11 hc0) (by omega) (by omega)
    have fσ4 : FX (fun id => id = c0 + 1) (fun id k => (id = c0 ∧ k = 4) ∨ (id = c0 ∧ k = 11)) σ0 σ4 := by rw [eσ4]; exact FX_si f0 (Or.inr (by show (c0 = c0 ∧ 11 = 4) ∨ (c0 = c0 ∧ 11 = 11); omega))
    have k_7 : (gi σ4 c0 10).toInt = (gi σ0 c0 10).toInt := by rw [eσ4]; exact congrArg Int32.toInt (gi_si_ne (Or.inr (by decide)))
    have k_8 : (gi σ4 c0 11).toInt = ((gi σ0 c0 11) + (1 : Int32)).toInt := by rw [eσ4]; exact congrArg Int32.toInt gi_si_eq
    have kr_9 : gr σ4 c0 9 = some 50 := ((by rw [eσ4]; rfl : gr σ4 c0 9 = gr σ0 c0 9)).trans pre0
    have z_10 : (7 : Int32).toInt = 7 := rfl
    refine k_X2_signAmong hc0 lc0 (by decide) mσ4  (by first | omega | assumption | rfl) (fun r6 σ5 mσ5 cσ5 plσ5 phσ5 (pσ5_0 : r6.toInt = -1 ∨ (0 ≤ r6.toInt ∧ r6.toInt < (slen 7 : Int) ∧ 0 ≤ (sgn σ4 c0).toInt)) => ?_)
    obtain rfl := FX_nil cσ5
    have t_11 := XI_c1 mσ4 (k := 10) (lim_F0_10 hc0)
    have t_12 := XI_c1 mσ4 (k := 11) (lim_F0_11 hc0)
    have hlt := fun h9 => @sgn_lt σ4 c0 h9
    refine ⟨?_, ?_⟩
    · intro q_13
      have b_14 : (0 : Int) ≤ r6.toInt := Int32.le_iff_toInt_le.mp q_13
      intro σ8 eσ8
      have t_15 : ((gi σ4 c0 11) + (1 : Int32)).toInt = (gi σ4 c0 11).toInt + 1 := i_add (x := (gi σ4 c0 11)) (y := (1 : Int32)) (by show (_ : Int) ≤ (gi σ4 c0 11).toInt + 1; omega) (by show (gi σ4 c0 11).toInt + 1 ≤ (_ : Int); omega)
      have mσ8 : XI (mV M) σ8 := by rw [eσ8]; exact XIs_b mσ4 (lim_F0_11 hc0) (by omega) (by omega)
      have fσ8 : FX (fun id => id = c0 + 1) (fun id k => (id = c0 ∧ k = 4) ∨ (id = c0 ∧ k = 11)) σ0 σ8 := by rw [eσ8]; exact FX_si fσ4 (Or.inr (by show (c0 = c0 ∧ 11 = 4) ∨ (c0 = c0 ∧ 11 = 11); omega))
      have k_16 : (gi σ8 c0 10).toInt = (gi σ4 c0 10).toInt := by rw [eσ8]; exact congrArg Int32.toInt (gi_si_ne (Or.inr (by decide)))
      have k_17 : (gi σ8 c0 11).toInt = ((gi σ4 c0 11) + (1 : Int32)).toInt := by rw [eσ8]; exact congrArg Int32.toInt gi_si_eq
      have kr_18 : gr σ8 c0 9 = some 50 := ((by rw [eσ8]; rfl : gr σ8 c0 9 = gr σ4 c0 9)).trans kr_9
      refine k_X2_readsNumber hc0 lc0 mσ8  (by first | omega | assumption | rfl) (fun r10 σ9 mσ9 cσ9 plσ9 phσ9 => ?_)
      have fσ9 : FX (fun id => id = c0 + 1) (fun id k => (id = c0 ∧ k = 4) ∨ (id = c0 ∧ k = 11)) σ0 σ9 := FX_tr fσ8 cσ9 (fun _ h9 => h9.elim) (fun x k (h9 : (x = c0 ∧ k = 11)) => show (x = c0 + 1) ∨ ((x = c0 ∧ k = 4) ∨ (x = c0 ∧ k = 11)) from by omega)
      have k_19 : (gi σ9 c0 10).toInt = (gi σ8 c0 10).toInt := congrArg Int32.toInt (FX_i cσ9 id (show ¬ ((c0 = c0 ∧ 10 = 11)) from by omega))
      have t_20 := XI_c1 mσ9 (k := 11) (lim_F0_11 hc0)
      have kr_21 : gr σ9 c0 9 = some 50 := (FX_r cσ9 id (show ¬ ((c0 = c0 ∧ 9 = 11)) from by omega)).trans kr_18
      refine ⟨?_, ?_⟩
      · intro q_22
        have b_23 : (0 : Int) ≤ r10.toInt := Int32.le_iff_toInt_le.mp q_22
        have t_24 : (r2 * (300 : Int32)).toInt = r2.toInt * 300 := i_mulr rfl (by omega) (by omega)
        have t_25 : (r6 * (100 : Int32)).toInt = r6.toInt * 100 := i_mulr rfl (by omega) (by omega)
        have t_26 : ((r2 * (300 : Int32)) + (r6 * (100 : Int32))).toInt = (r2 * (300 : Int32)).toInt + (r6 * (100 : Int32)).toInt := i_add (x := (r2 * (300 : Int32))) (y := (r6 * (100 : Int32))) (by show (_ : Int) ≤ (r2 * (300 : Int32)).toInt + (r6 * (100 : Int32)).toInt; omega) (by show (r2 * (300 : Int32)).toInt + (r6 * (100 : Int32)).toInt ≤ (_ : Int); omega)
        have t_27 : (((r2 * (300 : Int32)) + (r6 * (100 : Int32))) + r10).toInt = ((r2 * (300 : Int32)) + (r6 * (100 : Int32))).toInt + r10.toInt := i_add (x := ((r2 * (300 : Int32)) + (r6 * (100 : Int32)))) (y := r10) (by show (_ : Int) ≤ ((r2 * (300 : Int32)) + (r6 * (100 : Int32))).toInt + r10.toInt; omega) (by show ((r2 * (300 : Int32)) + (r6 * (100 : Int32))).toInt + r10.toInt ≤ (_ : Int); omega)
        refine k_X2_writes hc0 lc0 mσ9  (by omega) (by omega) (fun σ12 mσ12 cσ12 => ?_)
        have fσ12 : FX (fun id => id = c0 + 1) (fun id k => (id = c0 ∧ k = 4) ∨ (id = c0 ∧ k = 11)) σ0 σ12 := FX_tr fσ9 cσ12 (fun x (h9 : x = c0 + 1) => show x = c0 + 1 from by omega) (fun x k (h9 : (x = c0 ∧ k = 4)) => show (x = c0 + 1) ∨ ((x = c0 ∧ k = 4) ∨ (x = c0 ∧ k = 11)) from by omega)
        have k_28 : (gi σ12 c0 10).toInt = (gi σ9 c0 10).toInt := congrArg Int32.toInt (FX_i cσ12 (show ¬ (c0 = c0 + 1) from by omega) (show ¬ ((c0 = c0 ∧ 10 = 4)) from by omega))
        have k_29 : (gi σ12 c0 11).toInt = (gi σ9 c0 11).toInt := congrArg Int32.toInt (FX_i cσ12 (show ¬ (c0 = c0 + 1) from by omega) (show ¬ ((c0 = c0 ∧ 11 = 4)) from by omega))
        have kr_30 : gr σ12 c0 9 = some 50 := (FX_r cσ12 (show ¬ (c0 = c0 + 1) from by omega) (show ¬ ((c0 = c0 ∧ 9 = 4)) from by omega)).trans kr_21
        have z_31 : (1 : Int32).toInt = 1 := rfl
        exact h9ret (1 : Int32) σ12 mσ12 fσ12 (by omega) (by omega)
      · intro q_22
        have b_32 : ¬ (0 : Int) ≤ r10.toInt := fun h9 => q_22 (Int32.le_iff_toInt_le.mpr h9)
        have z_33 : (0 : Int32).toInt = 0 := rfl
        exact h9ret (0 : Int32) σ9 mσ9 fσ9 (by omega) (by omega)
    · intro q_13
      have b_34 : ¬ (0 : Int) ≤ r6.toInt := fun h9 => q_13 (Int32.le_iff_toInt_le.mpr h9)
      have z_35 : (0 : Int32).toInt = 0 := rfl
      exact h9ret (0 : Int32) σ4 mσ4 fσ4 (by omega) (by omega)
  · intro q_4
    have b_36 : ¬ (0 : Int) ≤ r2.toInt := fun h9 => q_4 (Int32.le_iff_toInt_le.mpr h9)
    have z_37 : (0 : Int32).toInt = 0 := rfl
    exact h9ret (0 : Int32) σ0 m0 f0 (by omega) (by omega)
set_option maxRecDepth 100000 in
set_option maxHeartbeats 4000000 in
theorem k_X2_wordOf {l : Launch} {V : Vx} {a1 : Int32} {σ0 : Sg} {Qk : Nat → Sg → Prop} (m0 : XI V σ0) (h9ret : ∀ (r : Nat) (σ' : Sg), XI V σ' → FX (fun id => False) (fun _ _ => False) σ0 σ' → (∃ i : Nat, r = 200 + i ∧ i < 8) → Qk r σ') : K_X2_wordOf l V a1 σ0 Qk := by
  refine e_X2_wordOf (fun M hl hV hN C => ?_)
  subst hl
  subst hV
  have f0 : FX (fun id => False) (fun _ _ => False) σ0 σ0 := FX_rf
  refine s_X2_wordOf_0 C hN  ?_
  refine ⟨?_, ?_, ?_, ?_, ?_⟩
  · intro q_1
    exact h9ret (200 + 5) σ0 m0 f0 (⟨_, rfl, by decide⟩)
  · intro q_1
    exact h9ret (200 + 1) σ0 m0 f0 (⟨_, rfl, by decide⟩)
  · intro q_1
    exact h9ret (200 + 2) σ0 m0 f0 (⟨_, rfl, by decide⟩)
  · intro q_1
    exact h9ret (200 + 3) σ0 m0 f0 (⟨_, rfl, by decide⟩)
  · intro q_1
    exact h9ret (200 + 4) σ0 m0 f0 (⟨_, rfl, by decide⟩)
set_option maxRecDepth 100000 in
set_option maxHeartbeats 4000000 in
theorem k_X2_fault {l : Launch} {V : Vx} {c0 : Nat} {σ0 : Sg} {Qk : Int32 → Sg → Prop} (hc0 : kd c0 = (12, 0)) (lc0 : c0 ∈ ids (V)) (m0 : XI V σ0) (h9ret : ∀ (r : Int32) (σ' : Sg), XI V σ' → FX (fun id => False) (fun _ _ => False) σ0 σ' → Qk r σ') : K_X2_fault l V c0 σ0 Qk := by
  refine e_X2_fault (fun M hl hV hN C => ?_)
  subst hl
  subst hV
  have gc0 := kdF_ge hc0
  have f0 : FX (fun id => False) (fun _ _ => False) σ0 σ0 := FX_rf
  have t_1 := XI_c1 m0 (k := 11) (lim_F0_11 hc0)
  refine s_X2_fault_0 C hN hc0 lc0 ?_
  exact h9ret (gi σ0 c0 11) σ0 m0 f0
