set_option maxRecDepth 100000 in
set_option maxHeartbeats 4000000 in
theorem k_X4_mowing {l : Launch} {V : Vx} {c0 : Nat} {a1 : Int32} {a2 : Nat} {σ0 : Sg} {Qk : Int32 → Sg → Prop} {ci0 : Nat} (sc0 : ci0 = 0 ∨ ci0 = 3 ∨ ci0 = 4 ∨ ci0 = 6 ∨ ci0 = 7 ∨ ci0 = 8 ∨ ci0 = 10) (hc0 : kd c0 = (10 + ci0, 0)) (lc0 : c0 ∈ ids (V)) (ha2 : isN a2) (m0 : XI V σ0) (pre0 : a2 = 64) (pre1 : (gi σ0 a2 1).toInt ≤ 999) (h9ret : ∀ (r : Int32) (σ' : Sg), XI V σ' → FX (fun id => id = a2 + 1) (fun id k => (id = a2 ∧ k = 1)) σ0 σ' → ((gi σ' a2 1).toInt ≤ (gi σ0 a2 1).toInt + 1) → Qk r σ') : K_X4_mowing l V c0 a1 a2 σ0 Qk := by
  refine e_X4_mowing (fun M hl hV hN C => ?_)
  subst hl
  subst hV
  have ic0 : isMc ci0 := by rcases sc0 with rfl | rfl | rfl | rfl | rfl | rfl | rfl <;> decide
  have gc0 := kdM_ge ic0 hc0
  have oa2 : hid (a2 = 9 ∨ a2 = 11 ∨ a2 = 13 ∨ a2 = 25 ∨ a2 = 27 ∨ a2 = 29 ∨ a2 = 41 ∨ a2 = 43 ∨ a2 = 45 ∨ a2 = 64) := ha2
  have hcap : capI a2 = 1000 := by rw [pre0]; rfl
  have f0 : FX (fun id => id = a2 + 1) (fun id k => (id = a2 ∧ k = 1)) σ0 σ0 := FX_rf
  have t_1 := XI_c1 m0 (lim_N ha2)
  have t_2 := nl_le ha2
  have t_3 := XI_c1 m0 (id := c0) (k := 1) (lim_M0_1 ic0 hc0)
  refine s_X4_mowing_0 C hN sc0 hc0 lc0 ha2 ?_
  have z_4 : (10 : Int32).toInt = 10 := rfl
  refine k_X5_comes ha2 m0  (by omega) (by rw [pre0]; exact okNum_64) (fun σ1 mσ1 cσ1 (pσ1_0 : (gi σ1 a2 1).toInt = (gi σ0 a2 1).toInt + 1) => ?_)
  have fσ1 : FX (fun id => id = a2 + 1) (fun id k => (id = a2 ∧ k = 1)) σ0 σ1 := FX_tr f0 cσ1 (fun x (h9 : x = a2 + 1) => (show x = a2 + 1 from h9)) (fun x k (h9 : (x = a2 ∧ k = 1)) => (show (x = a2 + 1) ∨ ((x = a2 ∧ k = 1)) from Or.inr (show (x = a2 ∧ k = 1) from h9)))
  have t_5 := XI_c1 mσ1 (lim_N ha2)
  have t_6 := nl_le ha2
  have k_7 : (gi σ1 c0 1).toInt = (gi σ0 c0 1).toInt := congrArg Int32.toInt (FX_i cσ1 (show ¬ (c0 = a2 + 1) from by first | omega | (have uoa2 := un oa2; omega)) (show ¬ ((c0 = a2 ∧ 1 = 1)) from by first | omega | (have uoa2 := un oa2; omega)))
  have w_8 := Int32.toInt_lt a1
  have w_9 := Int32.le_toInt a1
  have t_10 := XI_c1 mσ1 (id := c0) (k := 1) (lim_M0_1 ic0 hc0)
  try have t_11 : (a1 + (gi σ1 c0 1)).toInt = a1.toInt + (gi σ1 c0 1).toInt := i_add (x := a1) (y := (gi σ1 c0 1)) (by show (_ : Int) ≤ a1.toInt + (gi σ1 c0 1).toInt; omega) (by show a1.toInt + (gi σ1 c0 1).toInt ≤ (_ : Int); omega)
  exact h9ret (a1 + (gi σ1 c0 1)) σ1 mσ1 fσ1 (by first | omega | assumption | rfl)
set_option maxRecDepth 100000 in
set_option maxHeartbeats 4000000 in
theorem k_X3_mowing {l : Launch} {V : Vx} {c0 : Nat} {a1 : Int32} {a2 : Nat} {σ0 : Sg} {Qk : Int32 → Sg → Prop} {ci0 : Nat} (sc0 : ci0 = 3 ∨ ci0 = 7) (hc0 : kd c0 = (10 + ci0, 0)) (lc0 : c0 ∈ ids (V)) (ha2 : isN a2) (m0 : XI V σ0) (pre0 : a2 = 64) (pre1 : (gi σ0 a2 1).toInt ≤ 998) (h9ret : ∀ (r : Int32) (σ' : Sg), XI V σ' → FX (fun id => id = a2 + 1) (fun id k => (id = a2 ∧ k = 1)) σ0 σ' → ((gi σ' a2 1).toInt ≤ (gi σ0 a2 1).toInt + 2) → Qk r σ') : K_X3_mowing l V c0 a1 a2 σ0 Qk := by
  refine e_X3_mowing (fun M hl hV hN C => ?_)
  subst hl
  subst hV
  have ic0 : isMc ci0 := by rcases sc0 with rfl | rfl <;> decide
  have gc0 := kdM_ge ic0 hc0
  have oa2 : hid (a2 = 9 ∨ a2 = 11 ∨ a2 = 13 ∨ a2 = 25 ∨ a2 = 27 ∨ a2 = 29 ∨ a2 = 41 ∨ a2 = 43 ∨ a2 = 45 ∨ a2 = 64) := ha2
  have hcap : capI a2 = 1000 := by rw [pre0]; rfl
  have f0 : FX (fun id => id = a2 + 1) (fun id k => (id = a2 ∧ k = 1)) σ0 σ0 := FX_rf
  have t_1 := XI_c1 m0 (lim_N ha2)
  have t_2 := nl_le ha2
  refine s_X3_mowing_0 C hN sc0 hc0 lc0 ha2 ?_
  have z_3 : (30 : Int32).toInt = 30 := rfl
  refine k_X5_comes ha2 m0  (by omega) (by rw [pre0]; exact okNum_64) (fun σ1 mσ1 cσ1 (pσ1_0 : (gi σ1 a2 1).toInt = (gi σ0 a2 1).toInt + 1) => ?_)
  have fσ1 : FX (fun id => id = a2 + 1) (fun id k => (id = a2 ∧ k = 1)) σ0 σ1 := FX_tr f0 cσ1 (fun x (h9 : x = a2 + 1) => (show x = a2 + 1 from h9)) (fun x k (h9 : (x = a2 ∧ k = 1)) => (show (x = a2 + 1) ∨ ((x = a2 ∧ k = 1)) from Or.inr (show (x = a2 ∧ k = 1) from h9)))
  have t_4 := XI_c1 mσ1 (lim_N ha2)
  have t_5 := nl_le ha2
  refine k_X4_mowing (show ci0 = 0 ∨ ci0 = 3 ∨ ci0 = 4 ∨ ci0 = 6 ∨ ci0 = 7 ∨ ci0 = 8 ∨ ci0 = 10 from by omega) hc0 lc0 ha2 mσ1  (by first | omega | assumption | rfl) (by first | omega | assumption | rfl) (fun r4 σ3 mσ3 cσ3 (pσ3_0 : (gi σ3 a2 1).toInt ≤ (gi σ1 a2 1).toInt + 1) => ?_)
  have fσ3 : FX (fun id => id = a2 + 1) (fun id k => (id = a2 ∧ k = 1)) σ0 σ3 := FX_tr fσ1 cσ3 (fun x (h9 : x = a2 + 1) => (show x = a2 + 1 from h9)) (fun x k (h9 : (x = a2 ∧ k = 1)) => (show (x = a2 + 1) ∨ ((x = a2 ∧ k = 1)) from Or.inr (show (x = a2 ∧ k = 1) from h9)))
  have t_6 := XI_c1 mσ3 (lim_N ha2)
  have t_7 := nl_le ha2
  have w_8 := Int32.toInt_lt r4
  have w_9 := Int32.le_toInt r4
  exact h9ret r4 σ3 mσ3 fσ3 (by first | omega | assumption | rfl)
set_option maxRecDepth 100000 in
set_option maxHeartbeats 4000000 in
theorem k_X6_mowing {l : Launch} {V : Vx} {c0 : Nat} {a1 : Int32} {a2 : Nat} {σ0 : Sg} {Qk : Int32 → Sg → Prop} {ci0 : Nat} (sc0 : ci0 = 6) (hc0 : kd c0 = (10 + ci0, 0)) (lc0 : c0 ∈ ids (V)) (ha2 : isN a2) (m0 : XI V σ0) (pre0 : a2 = 64) (pre1 : (gi σ0 a2 1).toInt ≤ 998) (h9ret : ∀ (r : Int32) (σ' : Sg), XI V σ' → FX (fun id => id = a2 + 1) (fun id k => (id = a2 ∧ k = 1)) σ0 σ' → ((gi σ' a2 1).toInt ≤ (gi σ0 a2 1).toInt + 2) → Qk r σ') : K_X6_mowing l V c0 a1 a2 σ0 Qk := by
  refine e_X6_mowing (fun M hl hV hN C => ?_)
  subst hl
  subst hV
  have ic0 : isMc ci0 := by rw [sc0]; decide
  have gc0 := kdM_ge ic0 hc0
  have oa2 : hid (a2 = 9 ∨ a2 = 11 ∨ a2 = 13 ∨ a2 = 25 ∨ a2 = 27 ∨ a2 = 29 ∨ a2 = 41 ∨ a2 = 43 ∨ a2 = 45 ∨ a2 = 64) := ha2
  have hcap : capI a2 = 1000 := by rw [pre0]; rfl
  have f0 : FX (fun id => id = a2 + 1) (fun id k => (id = a2 ∧ k = 1)) σ0 σ0 := FX_rf
  have t_1 := XI_c1 m0 (lim_N ha2)
  have t_2 := nl_le ha2
  refine s_X6_mowing_0 C hN sc0 hc0 lc0 ha2 ?_
  have z_3 : (50 : Int32).toInt = 50 := rfl
  refine k_X5_comes ha2 m0  (by omega) (by rw [pre0]; exact okNum_64) (fun σ1 mσ1 cσ1 (pσ1_0 : (gi σ1 a2 1).toInt = (gi σ0 a2 1).toInt + 1) => ?_)
  have fσ1 : FX (fun id => id = a2 + 1) (fun id k => (id = a2 ∧ k = 1)) σ0 σ1 := FX_tr f0 cσ1 (fun x (h9 : x = a2 + 1) => (show x = a2 + 1 from h9)) (fun x k (h9 : (x = a2 ∧ k = 1)) => (show (x = a2 + 1) ∨ ((x = a2 ∧ k = 1)) from Or.inr (show (x = a2 ∧ k = 1) from h9)))
  have t_4 := XI_c1 mσ1 (lim_N ha2)
  have t_5 := nl_le ha2
  refine k_X4_mowing (show ci0 = 0 ∨ ci0 = 3 ∨ ci0 = 4 ∨ ci0 = 6 ∨ ci0 = 7 ∨ ci0 = 8 ∨ ci0 = 10 from by omega) hc0 lc0 ha2 mσ1  (by first | omega | assumption | rfl) (by first | omega | assumption | rfl) (fun r4 σ3 mσ3 cσ3 (pσ3_0 : (gi σ3 a2 1).toInt ≤ (gi σ1 a2 1).toInt + 1) => ?_)
  have fσ3 : FX (fun id => id = a2 + 1) (fun id k => (id = a2 ∧ k = 1)) σ0 σ3 := FX_tr fσ1 cσ3 (fun x (h9 : x = a2 + 1) => (show x = a2 + 1 from h9)) (fun x k (h9 : (x = a2 ∧ k = 1)) => (show (x = a2 + 1) ∨ ((x = a2 ∧ k = 1)) from Or.inr (show (x = a2 ∧ k = 1) from h9)))
  have t_6 := XI_c1 mσ3 (lim_N ha2)
  have t_7 := nl_le ha2
  exact h9ret (-r4) σ3 mσ3 fσ3 (by first | omega | assumption | rfl)
set_option maxRecDepth 100000 in
set_option maxHeartbeats 4000000 in
theorem k_X10_mowing {l : Launch} {V : Vx} {c0 : Nat} {a1 : Int32} {a2 : Nat} {σ0 : Sg} {Qk : Int32 → Sg → Prop} {ci0 : Nat} (sc0 : ci0 = 10) (hc0 : kd c0 = (10 + ci0, 0)) (lc0 : c0 ∈ ids (V)) (ha2 : isN a2) (m0 : XI V σ0) (pre0 : a2 = 64) (pre1 : (gi σ0 a2 1).toInt ≤ 998) (h9ret : ∀ (r : Int32) (σ' : Sg), XI V σ' → FX (fun id => id = a2 + 1) (fun id k => (id = a2 ∧ k = 1)) σ0 σ' → ((gi σ' a2 1).toInt ≤ (gi σ0 a2 1).toInt + 2) → Qk r σ') : K_X10_mowing l V c0 a1 a2 σ0 Qk := by
  refine e_X10_mowing (fun M hl hV hN C => ?_)
  subst hl
  subst hV
  have ic0 : isMc ci0 := by rw [sc0]; decide
  have gc0 := kdM_ge ic0 hc0
  have oa2 : hid (a2 = 9 ∨ a2 = 11 ∨ a2 = 13 ∨ a2 = 25 ∨ a2 = 27 ∨ a2 = 29 ∨ a2 = 41 ∨ a2 = 43 ∨ a2 = 45 ∨ a2 = 64) := ha2
  have hcap : capI a2 = 1000 := by rw [pre0]; rfl
  have f0 : FX (fun id => id = a2 + 1) (fun id k => (id = a2 ∧ k = 1)) σ0 σ0 := FX_rf
  have t_1 := XI_c1 m0 (lim_N ha2)
  have t_2 := nl_le ha2
  have t_3 := XI_c1 m0 (id := c0) (k := 2) (lim_M0_2 ic0 hc0)
  refine s_X10_mowing_0 C hN sc0 hc0 lc0 ha2 ?_
  have z_4 : (71 : Int32).toInt = 71 := rfl
  refine k_X5_comes ha2 m0  (by omega) (by rw [pre0]; exact okNum_64) (fun σ1 mσ1 cσ1 (pσ1_0 : (gi σ1 a2 1).toInt = (gi σ0 a2 1).toInt + 1) => ?_)
  have fσ1 : FX (fun id => id = a2 + 1) (fun id k => (id = a2 ∧ k = 1)) σ0 σ1 := FX_tr f0 cσ1 (fun x (h9 : x = a2 + 1) => (show x = a2 + 1 from h9)) (fun x k (h9 : (x = a2 ∧ k = 1)) => (show (x = a2 + 1) ∨ ((x = a2 ∧ k = 1)) from Or.inr (show (x = a2 ∧ k = 1) from h9)))
  have t_5 := XI_c1 mσ1 (lim_N ha2)
  have t_6 := nl_le ha2
  have k_7 : (gi σ1 c0 2).toInt = (gi σ0 c0 2).toInt := congrArg Int32.toInt (FX_i cσ1 (show ¬ (c0 = a2 + 1) from by first | omega | (have uoa2 := un oa2; omega)) (show ¬ ((c0 = a2 ∧ 2 = 1)) from by first | omega | (have uoa2 := un oa2; omega)))
  refine k_X4_mowing (show ci0 = 0 ∨ ci0 = 3 ∨ ci0 = 4 ∨ ci0 = 6 ∨ ci0 = 7 ∨ ci0 = 8 ∨ ci0 = 10 from by omega) hc0 lc0 ha2 mσ1  (by first | omega | assumption | rfl) (by first | omega | assumption | rfl) (fun r4 σ3 mσ3 cσ3 (pσ3_0 : (gi σ3 a2 1).toInt ≤ (gi σ1 a2 1).toInt + 1) => ?_)
  have fσ3 : FX (fun id => id = a2 + 1) (fun id k => (id = a2 ∧ k = 1)) σ0 σ3 := FX_tr fσ1 cσ3 (fun x (h9 : x = a2 + 1) => (show x = a2 + 1 from h9)) (fun x k (h9 : (x = a2 ∧ k = 1)) => (show (x = a2 + 1) ∨ ((x = a2 ∧ k = 1)) from Or.inr (show (x = a2 ∧ k = 1) from h9)))
  have t_8 := XI_c1 mσ3 (lim_N ha2)
  have t_9 := nl_le ha2
  have k_10 : (gi σ3 c0 2).toInt = (gi σ1 c0 2).toInt := congrArg Int32.toInt (FX_i cσ3 (show ¬ (c0 = a2 + 1) from by first | omega | (have uoa2 := un oa2; omega)) (show ¬ ((c0 = a2 ∧ 2 = 1)) from by first | omega | (have uoa2 := un oa2; omega)))
  have w_11 := Int32.toInt_lt r4
  have w_12 := Int32.le_toInt r4
  have t_13 := XI_c1 mσ3 (id := c0) (k := 2) (lim_M0_2 ic0 hc0)
  exact h9ret (r4 ^^^ (gi σ3 c0 2)) σ3 mσ3 fσ3 (by first | omega | assumption | rfl)
theorem k_KD_mowing {l : Launch} {V : Vx} {ci c0 : Nat} {a1 : Int32} {a2 : Nat} {σ0 : Sg} {Qk : Int32 → Sg → Prop} (s : isMc ci) (h : kd c0 = (10 + ci, 0)) (lc : c0 ∈ ids V) (ha2 : isN a2) (m0 : XI V σ0) (pre0 : a2 = 64) (pre1 : (gi σ0 a2 1).toInt ≤ 998) (h9ret : ∀ (r : Int32) (σ' : Sg), XI V σ' → FX (fun id => id = a2 + 1) (fun id k => (id = a2 ∧ k = 1)) σ0 σ' → ((gi σ' a2 1).toInt ≤ (gi σ0 a2 1).toInt + 2) → Qk r σ') : KD_mowing l V ci c0 a1 a2 σ0 Qk := by
  refine ⟨fun e => ?_, fun e => ?_, fun e => ?_, fun e => ?_, fun e => ?_, fun e => ?_, fun e => ?_⟩
  · exact k_X4_mowing (by omega) h lc ha2 m0 pre0 (by omega) (fun r σ' m f p => h9ret r σ' m f (by omega))
  · exact k_X3_mowing (by omega) h lc ha2 m0 pre0 (by omega) (fun r σ' m f p => h9ret r σ' m f (by omega))
  · exact k_X4_mowing (by omega) h lc ha2 m0 pre0 (by omega) (fun r σ' m f p => h9ret r σ' m f (by omega))
  · exact k_X6_mowing (by omega) h lc ha2 m0 pre0 (by omega) (fun r σ' m f p => h9ret r σ' m f (by omega))
  · exact k_X3_mowing (by omega) h lc ha2 m0 pre0 (by omega) (fun r σ' m f p => h9ret r σ' m f (by omega))
  · exact k_X4_mowing (by omega) h lc ha2 m0 pre0 (by omega) (fun r σ' m f p => h9ret r σ' m f (by omega))
  · exact k_X10_mowing (by omega) h lc ha2 m0 pre0 (by omega) (fun r σ' m f p => h9ret r σ' m f (by omega))
set_option maxRecDepth 100000 in
set_option maxHeartbeats 4000000 in
theorem k_X4_whetting {l : Launch} {V : Vx} {c0 : Nat} {a1 : Int32} {a2 : Nat} {σ0 : Sg} {Qk : Int32 → Sg → Prop} {ci0 : Nat} (sc0 : ci0 = 0 ∨ ci0 = 3 ∨ ci0 = 4 ∨ ci0 = 6 ∨ ci0 = 7 ∨ ci0 = 8 ∨ ci0 = 10) (hc0 : kd c0 = (10 + ci0, 0)) (lc0 : c0 ∈ ids (V)) (ha2 : isN a2) (m0 : XI V σ0) (pre0 : a2 = 64) (pre1 : (gi σ0 a2 1).toInt ≤ 997) (h9ret : ∀ (r : Int32) (σ' : Sg), XI V σ' → FX (fun id => id = a2 + 1) (fun id k => (id = a2 ∧ k = 1)) σ0 σ' → ((gi σ' a2 1).toInt ≤ (gi σ0 a2 1).toInt + 3) → Qk r σ') : K_X4_whetting l V c0 a1 a2 σ0 Qk := by
  refine e_X4_whetting (fun M hl hV hN C => ?_)
  subst hl
  subst hV
  have ic0 : isMc ci0 := by rcases sc0 with rfl | rfl | rfl | rfl | rfl | rfl | rfl <;> decide
  have gc0 := kdM_ge ic0 hc0
  have oa2 : hid (a2 = 9 ∨ a2 = 11 ∨ a2 = 13 ∨ a2 = 25 ∨ a2 = 27 ∨ a2 = 29 ∨ a2 = 41 ∨ a2 = 43 ∨ a2 = 45 ∨ a2 = 64) := ha2
  have hcap : capI a2 = 1000 := by rw [pre0]; rfl
  have f0 : FX (fun id => id = a2 + 1) (fun id k => (id = a2 ∧ k = 1)) σ0 σ0 := FX_rf
  have t_1 := XI_c1 m0 (lim_N ha2)
  have t_2 := nl_le ha2
  have t_3 := XI_c1 m0 (id := c0) (k := 2) (lim_M0_2 ic0 hc0)
  refine s_X4_whetting_0 C hN sc0 hc0 lc0 ha2 ?_
  have z_4 : (11 : Int32).toInt = 11 := rfl
  refine k_X5_comes ha2 m0  (by omega) (by rw [pre0]; exact okNum_64) (fun σ1 mσ1 cσ1 (pσ1_0 : (gi σ1 a2 1).toInt = (gi σ0 a2 1).toInt + 1) => ?_)
  have fσ1 : FX (fun id => id = a2 + 1) (fun id k => (id = a2 ∧ k = 1)) σ0 σ1 := FX_tr f0 cσ1 (fun x (h9 : x = a2 + 1) => (show x = a2 + 1 from h9)) (fun x k (h9 : (x = a2 ∧ k = 1)) => (show (x = a2 + 1) ∨ ((x = a2 ∧ k = 1)) from Or.inr (show (x = a2 ∧ k = 1) from h9)))
  have t_5 := XI_c1 mσ1 (lim_N ha2)
  have t_6 := nl_le ha2
  have k_7 : (gi σ1 c0 2).toInt = (gi σ0 c0 2).toInt := congrArg Int32.toInt (FX_i cσ1 (show ¬ (c0 = a2 + 1) from by first | omega | (have uoa2 := un oa2; omega)) (show ¬ ((c0 = a2 ∧ 2 = 1)) from by first | omega | (have uoa2 := un oa2; omega)))
  refine k_KD_mowing ic0 hc0 lc0 ha2 mσ1  (by first | omega | assumption | rfl) (by first | omega | assumption | rfl) (fun r3 σ2 mσ2 cσ2 (pσ2_0 : (gi σ2 a2 1).toInt ≤ (gi σ1 a2 1).toInt + 2) => ?_)
  have fσ2 : FX (fun id => id = a2 + 1) (fun id k => (id = a2 ∧ k = 1)) σ0 σ2 := FX_tr fσ1 cσ2 (fun x (h9 : x = a2 + 1) => (show x = a2 + 1 from h9)) (fun x k (h9 : (x = a2 ∧ k = 1)) => (show (x = a2 + 1) ∨ ((x = a2 ∧ k = 1)) from Or.inr (show (x = a2 ∧ k = 1) from h9)))
  have t_8 := XI_c1 mσ2 (lim_N ha2)
  have t_9 := nl_le ha2
  have k_10 : (gi σ2 c0 2).toInt = (gi σ1 c0 2).toInt := congrArg Int32.toInt (FX_i cσ2 (show ¬ (c0 = a2 + 1) from by first | omega | (have uoa2 := un oa2; omega)) (show ¬ ((c0 = a2 ∧ 2 = 1)) from by first | omega | (have uoa2 := un oa2; omega)))
  have w_11 := Int32.toInt_lt r3
  have w_12 := Int32.le_toInt r3
  have t_13 := XI_c1 mσ2 (id := c0) (k := 2) (lim_M0_2 ic0 hc0)
  try have t_14 : (r3 - (gi σ2 c0 2)).toInt = r3.toInt - (gi σ2 c0 2).toInt := i_sub (x := r3) (y := (gi σ2 c0 2)) (by show (_ : Int) ≤ r3.toInt - (gi σ2 c0 2).toInt; omega) (by show r3.toInt - (gi σ2 c0 2).toInt ≤ (_ : Int); omega)
  exact h9ret (r3 - (gi σ2 c0 2)) σ2 mσ2 fσ2 (by first | omega | assumption | rfl)
set_option maxRecDepth 100000 in
set_option maxHeartbeats 4000000 in
theorem k_X8_whetting {l : Launch} {V : Vx} {c0 : Nat} {a1 : Int32} {a2 : Nat} {σ0 : Sg} {Qk : Int32 → Sg → Prop} {ci0 : Nat} (sc0 : ci0 = 6 ∨ ci0 = 8) (hc0 : kd c0 = (10 + ci0, 0)) (lc0 : c0 ∈ ids (V)) (ha2 : isN a2) (m0 : XI V σ0) (pre0 : a2 = 64) (pre1 : (gi σ0 a2 1).toInt ≤ 996) (h9ret : ∀ (r : Int32) (σ' : Sg), XI V σ' → FX (fun id => id = a2 + 1) (fun id k => (id = a2 ∧ k = 1)) σ0 σ' → ((gi σ' a2 1).toInt ≤ (gi σ0 a2 1).toInt + 4) → Qk r σ') : K_X8_whetting l V c0 a1 a2 σ0 Qk := by
  refine e_X8_whetting (fun M hl hV hN C => ?_)
  subst hl
  subst hV
  have ic0 : isMc ci0 := by rcases sc0 with rfl | rfl <;> decide
  have gc0 := kdM_ge ic0 hc0
  have oa2 : hid (a2 = 9 ∨ a2 = 11 ∨ a2 = 13 ∨ a2 = 25 ∨ a2 = 27 ∨ a2 = 29 ∨ a2 = 41 ∨ a2 = 43 ∨ a2 = 45 ∨ a2 = 64) := ha2
  have hcap : capI a2 = 1000 := by rw [pre0]; rfl
  have f0 : FX (fun id => id = a2 + 1) (fun id k => (id = a2 ∧ k = 1)) σ0 σ0 := FX_rf
  have t_1 := XI_c1 m0 (lim_N ha2)
  have t_2 := nl_le ha2
  refine s_X8_whetting_0 C hN sc0 hc0 lc0 ha2 ?_
  have z_3 : (20 : Int32).toInt = 20 := rfl
  refine k_X5_comes ha2 m0  (by omega) (by rw [pre0]; exact okNum_64) (fun σ1 mσ1 cσ1 (pσ1_0 : (gi σ1 a2 1).toInt = (gi σ0 a2 1).toInt + 1) => ?_)
  have fσ1 : FX (fun id => id = a2 + 1) (fun id k => (id = a2 ∧ k = 1)) σ0 σ1 := FX_tr f0 cσ1 (fun x (h9 : x = a2 + 1) => (show x = a2 + 1 from h9)) (fun x k (h9 : (x = a2 ∧ k = 1)) => (show (x = a2 + 1) ∨ ((x = a2 ∧ k = 1)) from Or.inr (show (x = a2 ∧ k = 1) from h9)))
  have t_4 := XI_c1 mσ1 (lim_N ha2)
  have t_5 := nl_le ha2
  refine k_X4_whetting (show ci0 = 0 ∨ ci0 = 3 ∨ ci0 = 4 ∨ ci0 = 6 ∨ ci0 = 7 ∨ ci0 = 8 ∨ ci0 = 10 from by omega) hc0 lc0 ha2 mσ1  (by first | omega | assumption | rfl) (by first | omega | assumption | rfl) (fun r4 σ3 mσ3 cσ3 (pσ3_0 : (gi σ3 a2 1).toInt ≤ (gi σ1 a2 1).toInt + 3) => ?_)
  have fσ3 : FX (fun id => id = a2 + 1) (fun id k => (id = a2 ∧ k = 1)) σ0 σ3 := FX_tr fσ1 cσ3 (fun x (h9 : x = a2 + 1) => (show x = a2 + 1 from h9)) (fun x k (h9 : (x = a2 ∧ k = 1)) => (show (x = a2 + 1) ∨ ((x = a2 ∧ k = 1)) from Or.inr (show (x = a2 ∧ k = 1) from h9)))
  have t_6 := XI_c1 mσ3 (lim_N ha2)
  have t_7 := nl_le ha2
  have w_8 := Int32.toInt_lt r4
  have w_9 := Int32.le_toInt r4
  exact h9ret (r4 ^^^ (6 : Int32)) σ3 mσ3 fσ3 (by first | omega | assumption | rfl)
set_option maxRecDepth 100000 in
set_option maxHeartbeats 4000000 in
theorem k_X6_whetting {l : Launch} {V : Vx} {c0 : Nat} {a1 : Int32} {a2 : Nat} {σ0 : Sg} {Qk : Int32 → Sg → Prop} {ci0 : Nat} (sc0 : ci0 = 6) (hc0 : kd c0 = (10 + ci0, 0)) (lc0 : c0 ∈ ids (V)) (ha2 : isN a2) (m0 : XI V σ0) (pre0 : a2 = 64) (pre1 : (gi σ0 a2 1).toInt ≤ 995) (h9ret : ∀ (r : Int32) (σ' : Sg), XI V σ' → FX (fun id => id = a2 + 1) (fun id k => (id = a2 ∧ k = 1)) σ0 σ' → ((gi σ' a2 1).toInt ≤ (gi σ0 a2 1).toInt + 5) → Qk r σ') : K_X6_whetting l V c0 a1 a2 σ0 Qk := by
  refine e_X6_whetting (fun M hl hV hN C => ?_)
  subst hl
  subst hV
  have ic0 : isMc ci0 := by rw [sc0]; decide
  have gc0 := kdM_ge ic0 hc0
  have oa2 : hid (a2 = 9 ∨ a2 = 11 ∨ a2 = 13 ∨ a2 = 25 ∨ a2 = 27 ∨ a2 = 29 ∨ a2 = 41 ∨ a2 = 43 ∨ a2 = 45 ∨ a2 = 64) := ha2
  have hcap : capI a2 = 1000 := by rw [pre0]; rfl
  have f0 : FX (fun id => id = a2 + 1) (fun id k => (id = a2 ∧ k = 1)) σ0 σ0 := FX_rf
  have t_1 := XI_c1 m0 (lim_N ha2)
  have t_2 := nl_le ha2
  refine s_X6_whetting_0 C hN sc0 hc0 lc0 ha2 ?_
  have z_3 : (51 : Int32).toInt = 51 := rfl
  refine k_X5_comes ha2 m0  (by omega) (by rw [pre0]; exact okNum_64) (fun σ1 mσ1 cσ1 (pσ1_0 : (gi σ1 a2 1).toInt = (gi σ0 a2 1).toInt + 1) => ?_)
  have fσ1 : FX (fun id => id = a2 + 1) (fun id k => (id = a2 ∧ k = 1)) σ0 σ1 := FX_tr f0 cσ1 (fun x (h9 : x = a2 + 1) => (show x = a2 + 1 from h9)) (fun x k (h9 : (x = a2 ∧ k = 1)) => (show (x = a2 + 1) ∨ ((x = a2 ∧ k = 1)) from Or.inr (show (x = a2 ∧ k = 1) from h9)))
  have t_4 := XI_c1 mσ1 (lim_N ha2)
  have t_5 := nl_le ha2
  have w_6 := Int32.toInt_lt a1
  have w_7 := Int32.le_toInt a1
  try have t_8 : (a1 + (1 : Int32)).toInt = a1.toInt + 1 := i_add (x := a1) (y := (1 : Int32)) (by show (_ : Int) ≤ a1.toInt + 1; omega) (by show a1.toInt + 1 ≤ (_ : Int); omega)
  refine k_X8_whetting (show ci0 = 6 ∨ ci0 = 8 from by omega) hc0 lc0 ha2 mσ1  (by first | omega | assumption | rfl) (by first | omega | assumption | rfl) (fun r4 σ3 mσ3 cσ3 (pσ3_0 : (gi σ3 a2 1).toInt ≤ (gi σ1 a2 1).toInt + 4) => ?_)
  have fσ3 : FX (fun id => id = a2 + 1) (fun id k => (id = a2 ∧ k = 1)) σ0 σ3 := FX_tr fσ1 cσ3 (fun x (h9 : x = a2 + 1) => (show x = a2 + 1 from h9)) (fun x k (h9 : (x = a2 ∧ k = 1)) => (show (x = a2 + 1) ∨ ((x = a2 ∧ k = 1)) from Or.inr (show (x = a2 ∧ k = 1) from h9)))
  have t_9 := XI_c1 mσ3 (lim_N ha2)
  have t_10 := nl_le ha2
  have w_11 := Int32.toInt_lt r4
  have w_12 := Int32.le_toInt r4
  exact h9ret r4 σ3 mσ3 fσ3 (by first | omega | assumption | rfl)
set_option maxRecDepth 100000 in
set_option maxHeartbeats 4000000 in
theorem k_X10_whetting {l : Launch} {V : Vx} {c0 : Nat} {a1 : Int32} {a2 : Nat} {σ0 : Sg} {Qk : Int32 → Sg → Prop} {ci0 : Nat} (sc0 : ci0 = 10) (hc0 : kd c0 = (10 + ci0, 0)) (lc0 : c0 ∈ ids (V)) (ha2 : isN a2) (m0 : XI V σ0) (pre0 : a2 = 64) (pre1 : (gi σ0 a2 1).toInt ≤ 995) (h9ret : ∀ (r : Int32) (σ' : Sg), XI V σ' → FX (fun id => id = a2 + 1) (fun id k => (id = a2 ∧ k = 1)) σ0 σ' → ((gi σ' a2 1).toInt ≤ (gi σ0 a2 1).toInt + 5) → Qk r σ') : K_X10_whetting l V c0 a1 a2 σ0 Qk := by
  refine e_X10_whetting (fun M hl hV hN C => ?_)
  subst hl
  subst hV
  have ic0 : isMc ci0 := by rw [sc0]; decide
  have gc0 := kdM_ge ic0 hc0
  have oa2 : hid (a2 = 9 ∨ a2 = 11 ∨ a2 = 13 ∨ a2 = 25 ∨ a2 = 27 ∨ a2 = 29 ∨ a2 = 41 ∨ a2 = 43 ∨ a2 = 45 ∨ a2 = 64) := ha2
  have hcap : capI a2 = 1000 := by rw [pre0]; rfl
  have f0 : FX (fun id => id = a2 + 1) (fun id k => (id = a2 ∧ k = 1)) σ0 σ0 := FX_rf
  have t_1 := XI_c1 m0 (lim_N ha2)
  have t_2 := nl_le ha2
  refine s_X10_whetting_0 C hN sc0 hc0 lc0 ha2 ?_
  have z_3 : (70 : Int32).toInt = 70 := rfl
  refine k_X5_comes ha2 m0  (by omega) (by rw [pre0]; exact okNum_64) (fun σ1 mσ1 cσ1 (pσ1_0 : (gi σ1 a2 1).toInt = (gi σ0 a2 1).toInt + 1) => ?_)
  have fσ1 : FX (fun id => id = a2 + 1) (fun id k => (id = a2 ∧ k = 1)) σ0 σ1 := FX_tr f0 cσ1 (fun x (h9 : x = a2 + 1) => (show x = a2 + 1 from h9)) (fun x k (h9 : (x = a2 ∧ k = 1)) => (show (x = a2 + 1) ∨ ((x = a2 ∧ k = 1)) from Or.inr (show (x = a2 ∧ k = 1) from h9)))
  have t_4 := XI_c1 mσ1 (lim_N ha2)
  have t_5 := nl_le ha2
  refine k_X4_whetting (show ci0 = 0 ∨ ci0 = 3 ∨ ci0 = 4 ∨ ci0 = 6 ∨ ci0 = 7 ∨ ci0 = 8 ∨ ci0 = 10 from by omega) hc0 lc0 ha2 mσ1  (by first | omega | assumption | rfl) (by first | omega | assumption | rfl) (fun r4 σ3 mσ3 cσ3 (pσ3_0 : (gi σ3 a2 1).toInt ≤ (gi σ1 a2 1).toInt + 3) => ?_)
  have fσ3 : FX (fun id => id = a2 + 1) (fun id k => (id = a2 ∧ k = 1)) σ0 σ3 := FX_tr fσ1 cσ3 (fun x (h9 : x = a2 + 1) => (show x = a2 + 1 from h9)) (fun x k (h9 : (x = a2 ∧ k = 1)) => (show (x = a2 + 1) ∨ ((x = a2 ∧ k = 1)) from Or.inr (show (x = a2 ∧ k = 1) from h9)))
  have t_6 := XI_c1 mσ3 (lim_N ha2)
  have t_7 := nl_le ha2
  have z_8 : (2 : Int32).toInt = 2 := rfl
  refine k_X4_mowing (show ci0 = 0 ∨ ci0 = 3 ∨ ci0 = 4 ∨ ci0 = 6 ∨ ci0 = 7 ∨ ci0 = 8 ∨ ci0 = 10 from by omega) hc0 lc0 ha2 mσ3  (by first | omega | assumption | rfl) (by first | omega | assumption | rfl) (fun r7 σ6 mσ6 cσ6 (pσ6_0 : (gi σ6 a2 1).toInt ≤ (gi σ3 a2 1).toInt + 1) => ?_)
  have fσ6 : FX (fun id => id = a2 + 1) (fun id k => (id = a2 ∧ k = 1)) σ0 σ6 := FX_tr fσ3 cσ6 (fun x (h9 : x = a2 + 1) => (show x = a2 + 1 from h9)) (fun x k (h9 : (x = a2 ∧ k = 1)) => (show (x = a2 + 1) ∨ ((x = a2 ∧ k = 1)) from Or.inr (show (x = a2 ∧ k = 1) from h9)))
  have t_9 := XI_c1 mσ6 (lim_N ha2)
  have t_10 := nl_le ha2
  have w_11 := Int32.toInt_lt r4
  have w_12 := Int32.le_toInt r4
  have w_13 := Int32.toInt_lt r7
  have w_14 := Int32.le_toInt r7
  try have t_15 : (r4 + r7).toInt = r4.toInt + r7.toInt := i_add (x := r4) (y := r7) (by show (_ : Int) ≤ r4.toInt + r7.toInt; omega) (by show r4.toInt + r7.toInt ≤ (_ : Int); omega)
  exact h9ret (r4 + r7) σ6 mσ6 fσ6 (by first | omega | assumption | rfl)
theorem k_KD_whetting {l : Launch} {V : Vx} {ci c0 : Nat} {a1 : Int32} {a2 : Nat} {σ0 : Sg} {Qk : Int32 → Sg → Prop} (s : isMc ci) (h : kd c0 = (10 + ci, 0)) (lc : c0 ∈ ids V) (ha2 : isN a2) (m0 : XI V σ0) (pre0 : a2 = 64) (pre1 : (gi σ0 a2 1).toInt ≤ 995) (h9ret : ∀ (r : Int32) (σ' : Sg), XI V σ' → FX (fun id => id = a2 + 1) (fun id k => (id = a2 ∧ k = 1)) σ0 σ' → ((gi σ' a2 1).toInt ≤ (gi σ0 a2 1).toInt + 5) → Qk r σ') : KD_whetting l V ci c0 a1 a2 σ0 Qk := by
  refine ⟨fun e => ?_, fun e => ?_, fun e => ?_, fun e => ?_, fun e => ?_, fun e => ?_, fun e => ?_⟩
  · exact k_X4_whetting (by omega) h lc ha2 m0 pre0 (by omega) (fun r σ' m f p => h9ret r σ' m f (by omega))
  · exact k_X4_whetting (by omega) h lc ha2 m0 pre0 (by omega) (fun r σ' m f p => h9ret r σ' m f (by omega))
  · exact k_X4_whetting (by omega) h lc ha2 m0 pre0 (by omega) (fun r σ' m f p => h9ret r σ' m f (by omega))
  · exact k_X6_whetting (by omega) h lc ha2 m0 pre0 (by omega) (fun r σ' m f p => h9ret r σ' m f (by omega))
  · exact k_X4_whetting (by omega) h lc ha2 m0 pre0 (by omega) (fun r σ' m f p => h9ret r σ' m f (by omega))
  · exact k_X8_whetting (by omega) h lc ha2 m0 pre0 (by omega) (fun r σ' m f p => h9ret r σ' m f (by omega))
  · exact k_X10_whetting (by omega) h lc ha2 m0 pre0 (by omega) (fun r σ' m f p => h9ret r σ' m f (by omega))
set_option maxRecDepth 100000 in
set_option maxHeartbeats 4000000 in
theorem k_X4_telling {l : Launch} {V : Vx} {c0 : Nat} {a1 : Int32} {a2 : Nat} {σ0 : Sg} {Qk : Int32 → Sg → Prop} {ci0 : Nat} (sc0 : ci0 = 0 ∨ ci0 = 3 ∨ ci0 = 4 ∨ ci0 = 6 ∨ ci0 = 7 ∨ ci0 = 8 ∨ ci0 = 10) (hc0 : kd c0 = (10 + ci0, 0)) (lc0 : c0 ∈ ids (V)) (ha2 : isN a2) (m0 : XI V σ0) (pre0 : a2 = 64) (pre1 : (gi σ0 a2 1).toInt ≤ 994) (h9ret : ∀ (r : Int32) (σ' : Sg), XI V σ' → FX (fun id => id = a2 + 1) (fun id k => (id = a2 ∧ k = 1)) σ0 σ' → ((gi σ' a2 1).toInt ≤ (gi σ0 a2 1).toInt + 6) → Qk r σ') : K_X4_telling l V c0 a1 a2 σ0 Qk := by
  refine e_X4_telling (fun M hl hV hN C => ?_)
  subst hl
  subst hV
  have ic0 : isMc ci0 := by rcases sc0 with rfl | rfl | rfl | rfl | rfl | rfl | rfl <;> decide
  have gc0 := kdM_ge ic0 hc0
  have oa2 : hid (a2 = 9 ∨ a2 = 11 ∨ a2 = 13 ∨ a2 = 25 ∨ a2 = 27 ∨ a2 = 29 ∨ a2 = 41 ∨ a2 = 43 ∨ a2 = 45 ∨ a2 = 64) := ha2
  have hcap : capI a2 = 1000 := by rw [pre0]; rfl
  have f0 : FX (fun id => id = a2 + 1) (fun id k => (id = a2 ∧ k = 1)) σ0 σ0 := FX_rf
  have t_1 := XI_c1 m0 (lim_N ha2)
  have t_2 := nl_le ha2
  refine s_X4_telling_0 C hN sc0 hc0 lc0 ha2 ?_
  have z_3 : (12 : Int32).toInt = 12 := rfl
  refine k_X5_comes ha2 m0  (by omega) (by rw [pre0]; exact okNum_64) (fun σ1 mσ1 cσ1 (pσ1_0 : (gi σ1 a2 1).toInt = (gi σ0 a2 1).toInt + 1) => ?_)
  have fσ1 : FX (fun id => id = a2 + 1) (fun id k => (id = a2 ∧ k = 1)) σ0 σ1 := FX_tr f0 cσ1 (fun x (h9 : x = a2 + 1) => (show x = a2 + 1 from h9)) (fun x k (h9 : (x = a2 ∧ k = 1)) => (show (x = a2 + 1) ∨ ((x = a2 ∧ k = 1)) from Or.inr (show (x = a2 ∧ k = 1) from h9)))
  have t_4 := XI_c1 mσ1 (lim_N ha2)
  have t_5 := nl_le ha2
  refine k_KD_whetting ic0 hc0 lc0 ha2 mσ1  (by first | omega | assumption | rfl) (by first | omega | assumption | rfl) (fun r3 σ2 mσ2 cσ2 (pσ2_0 : (gi σ2 a2 1).toInt ≤ (gi σ1 a2 1).toInt + 5) => ?_)
  have fσ2 : FX (fun id => id = a2 + 1) (fun id k => (id = a2 ∧ k = 1)) σ0 σ2 := FX_tr fσ1 cσ2 (fun x (h9 : x = a2 + 1) => (show x = a2 + 1 from h9)) (fun x k (h9 : (x = a2 ∧ k = 1)) => (show (x = a2 + 1) ∨ ((x = a2 ∧ k = 1)) from Or.inr (show (x = a2 ∧ k = 1) from h9)))
  have t_6 := XI_c1 mσ2 (lim_N ha2)
  have t_7 := nl_le ha2
  have w_8 := Int32.toInt_lt r3
  have w_9 := Int32.le_toInt r3
  try have t_10 : (r3 * (2 : Int32)).toInt = r3.toInt * 2 := i_mulr rfl (by omega) (by omega)
  exact h9ret (r3 * (2 : Int32)) σ2 mσ2 fσ2 (by first | omega | assumption | rfl)
set_option maxRecDepth 100000 in
set_option maxHeartbeats 4000000 in
theorem k_X0_telling {l : Launch} {V : Vx} {c0 : Nat} {a1 : Int32} {a2 : Nat} {σ0 : Sg} {Qk : Int32 → Sg → Prop} {ci0 : Nat} (sc0 : ci0 = 0 ∨ ci0 = 10) (hc0 : kd c0 = (10 + ci0, 0)) (lc0 : c0 ∈ ids (V)) (ha2 : isN a2) (m0 : XI V σ0) (pre0 : a2 = 64) (pre1 : (gi σ0 a2 1).toInt ≤ 988) (h9ret : ∀ (r : Int32) (σ' : Sg), XI V σ' → FX (fun id => id = a2 + 1) (fun id k => (id = a2 ∧ k = 1)) σ0 σ' → ((gi σ' a2 1).toInt ≤ (gi σ0 a2 1).toInt + 12) → Qk r σ') : K_X0_telling l V c0 a1 a2 σ0 Qk := by
  refine e_X0_telling (fun M hl hV hN C => ?_)
  subst hl
  subst hV
  have ic0 : isMc ci0 := by rcases sc0 with rfl | rfl <;> decide
  have gc0 := kdM_ge ic0 hc0
  have oa2 : hid (a2 = 9 ∨ a2 = 11 ∨ a2 = 13 ∨ a2 = 25 ∨ a2 = 27 ∨ a2 = 29 ∨ a2 = 41 ∨ a2 = 43 ∨ a2 = 45 ∨ a2 = 64) := ha2
  have hcap : capI a2 = 1000 := by rw [pre0]; rfl
  have f0 : FX (fun id => id = a2 + 1) (fun id k => (id = a2 ∧ k = 1)) σ0 σ0 := FX_rf
  have t_1 := XI_c1 m0 (lim_N ha2)
  have t_2 := nl_le ha2
  refine s_X0_telling_0 C hN sc0 hc0 lc0 ha2 ?_
  have z_3 : (40 : Int32).toInt = 40 := rfl
  refine k_X5_comes ha2 m0  (by omega) (by rw [pre0]; exact okNum_64) (fun σ1 mσ1 cσ1 (pσ1_0 : (gi σ1 a2 1).toInt = (gi σ0 a2 1).toInt + 1) => ?_)
  have fσ1 : FX (fun id => id = a2 + 1) (fun id k => (id = a2 ∧ k = 1)) σ0 σ1 := FX_tr f0 cσ1 (fun x (h9 : x = a2 + 1) => (show x = a2 + 1 from h9)) (fun x k (h9 : (x = a2 ∧ k = 1)) => (show (x = a2 + 1) ∨ ((x = a2 ∧ k = 1)) from Or.inr (show (x = a2 ∧ k = 1) from h9)))
  have t_4 := XI_c1 mσ1 (lim_N ha2)
  have t_5 := nl_le ha2
  refine k_X4_telling (show ci0 = 0 ∨ ci0 = 3 ∨ ci0 = 4 ∨ ci0 = 6 ∨ ci0 = 7 ∨ ci0 = 8 ∨ ci0 = 10 from by omega) hc0 lc0 ha2 mσ1  (by first | omega | assumption | rfl) (by first | omega | assumption | rfl) (fun r4 σ3 mσ3 cσ3 (pσ3_0 : (gi σ3 a2 1).toInt ≤ (gi σ1 a2 1).toInt + 6) => ?_)
  have fσ3 : FX (fun id => id = a2 + 1) (fun id k => (id = a2 ∧ k = 1)) σ0 σ3 := FX_tr fσ1 cσ3 (fun x (h9 : x = a2 + 1) => (show x = a2 + 1 from h9)) (fun x k (h9 : (x = a2 ∧ k = 1)) => (show (x = a2 + 1) ∨ ((x = a2 ∧ k = 1)) from Or.inr (show (x = a2 ∧ k = 1) from h9)))
  have t_6 := XI_c1 mσ3 (lim_N ha2)
  have t_7 := nl_le ha2
  have z_8 : (1 : Int32).toInt = 1 := rfl
  refine k_KD_whetting ic0 hc0 lc0 ha2 mσ3  (by first | omega | assumption | rfl) (by first | omega | assumption | rfl) (fun r6 σ5 mσ5 cσ5 (pσ5_0 : (gi σ5 a2 1).toInt ≤ (gi σ3 a2 1).toInt + 5) => ?_)
  have fσ5 : FX (fun id => id = a2 + 1) (fun id k => (id = a2 ∧ k = 1)) σ0 σ5 := FX_tr fσ3 cσ5 (fun x (h9 : x = a2 + 1) => (show x = a2 + 1 from h9)) (fun x k (h9 : (x = a2 ∧ k = 1)) => (show (x = a2 + 1) ∨ ((x = a2 ∧ k = 1)) from Or.inr (show (x = a2 ∧ k = 1) from h9)))
  have t_9 := XI_c1 mσ5 (lim_N ha2)
  have t_10 := nl_le ha2
  have w_11 := Int32.toInt_lt r4
  have w_12 := Int32.le_toInt r4
  have w_13 := Int32.toInt_lt r6
  have w_14 := Int32.le_toInt r6
  try have t_15 : (r4 + r6).toInt = r4.toInt + r6.toInt := i_add (x := r4) (y := r6) (by show (_ : Int) ≤ r4.toInt + r6.toInt; omega) (by show r4.toInt + r6.toInt ≤ (_ : Int); omega)
  exact h9ret (r4 + r6) σ5 mσ5 fσ5 (by first | omega | assumption | rfl)
set_option maxRecDepth 100000 in
set_option maxHeartbeats 4000000 in
theorem k_X7_telling {l : Launch} {V : Vx} {c0 : Nat} {a1 : Int32} {a2 : Nat} {σ0 : Sg} {Qk : Int32 → Sg → Prop} {ci0 : Nat} (sc0 : ci0 = 7) (hc0 : kd c0 = (10 + ci0, 0)) (lc0 : c0 ∈ ids (V)) (ha2 : isN a2) (m0 : XI V σ0) (pre0 : a2 = 64) (pre1 : (gi σ0 a2 1).toInt ≤ 993) (h9ret : ∀ (r : Int32) (σ' : Sg), XI V σ' → FX (fun id => id = a2 + 1) (fun id k => (id = a2 ∧ k = 1)) σ0 σ' → ((gi σ' a2 1).toInt ≤ (gi σ0 a2 1).toInt + 7) → Qk r σ') : K_X7_telling l V c0 a1 a2 σ0 Qk := by
  refine e_X7_telling (fun M hl hV hN C => ?_)
  subst hl
  subst hV
  have ic0 : isMc ci0 := by rw [sc0]; decide
  have gc0 := kdM_ge ic0 hc0
  have oa2 : hid (a2 = 9 ∨ a2 = 11 ∨ a2 = 13 ∨ a2 = 25 ∨ a2 = 27 ∨ a2 = 29 ∨ a2 = 41 ∨ a2 = 43 ∨ a2 = 45 ∨ a2 = 64) := ha2
  have hcap : capI a2 = 1000 := by rw [pre0]; rfl
  have f0 : FX (fun id => id = a2 + 1) (fun id k => (id = a2 ∧ k = 1)) σ0 σ0 := FX_rf
  have t_1 := XI_c1 m0 (lim_N ha2)
  have t_2 := nl_le ha2
  have t_3 := XI_c1 m0 (id := c0) (k := 1) (lim_M0_1 ic0 hc0)
  refine s_X7_telling_0 C hN sc0 hc0 lc0 ha2 ?_
  have z_4 : (60 : Int32).toInt = 60 := rfl
  refine k_X5_comes ha2 m0  (by omega) (by rw [pre0]; exact okNum_64) (fun σ1 mσ1 cσ1 (pσ1_0 : (gi σ1 a2 1).toInt = (gi σ0 a2 1).toInt + 1) => ?_)
  have fσ1 : FX (fun id => id = a2 + 1) (fun id k => (id = a2 ∧ k = 1)) σ0 σ1 := FX_tr f0 cσ1 (fun x (h9 : x = a2 + 1) => (show x = a2 + 1 from h9)) (fun x k (h9 : (x = a2 ∧ k = 1)) => (show (x = a2 + 1) ∨ ((x = a2 ∧ k = 1)) from Or.inr (show (x = a2 ∧ k = 1) from h9)))
  have t_5 := XI_c1 mσ1 (lim_N ha2)
  have t_6 := nl_le ha2
  have k_7 : (gi σ1 c0 1).toInt = (gi σ0 c0 1).toInt := congrArg Int32.toInt (FX_i cσ1 (show ¬ (c0 = a2 + 1) from by first | omega | (have uoa2 := un oa2; omega)) (show ¬ ((c0 = a2 ∧ 1 = 1)) from by first | omega | (have uoa2 := un oa2; omega)))
  have w_8 := Int32.toInt_lt a1
  have w_9 := Int32.le_toInt a1
  have t_10 := XI_c1 mσ1 (id := c0) (k := 1) (lim_M0_1 ic0 hc0)
  try have t_11 : (a1 - (gi σ1 c0 1)).toInt = a1.toInt - (gi σ1 c0 1).toInt := i_sub (x := a1) (y := (gi σ1 c0 1)) (by show (_ : Int) ≤ a1.toInt - (gi σ1 c0 1).toInt; omega) (by show a1.toInt - (gi σ1 c0 1).toInt ≤ (_ : Int); omega)
  refine k_X4_telling (show ci0 = 0 ∨ ci0 = 3 ∨ ci0 = 4 ∨ ci0 = 6 ∨ ci0 = 7 ∨ ci0 = 8 ∨ ci0 = 10 from by omega) hc0 lc0 ha2 mσ1  (by first | omega | assumption | rfl) (by first | omega | assumption | rfl) (fun r4 σ3 mσ3 cσ3 (pσ3_0 : (gi σ3 a2 1).toInt ≤ (gi σ1 a2 1).toInt + 6) => ?_)
  have fσ3 : FX (fun id => id = a2 + 1) (fun id k => (id = a2 ∧ k = 1)) σ0 σ3 := FX_tr fσ1 cσ3 (fun x (h9 : x = a2 + 1) => (show x = a2 + 1 from h9)) (fun x k (h9 : (x = a2 ∧ k = 1)) => (show (x = a2 + 1) ∨ ((x = a2 ∧ k = 1)) from Or.inr (show (x = a2 ∧ k = 1) from h9)))
  have t_12 := XI_c1 mσ3 (lim_N ha2)
  have t_13 := nl_le ha2
  have k_14 : (gi σ3 c0 1).toInt = (gi σ1 c0 1).toInt := congrArg Int32.toInt (FX_i cσ3 (show ¬ (c0 = a2 + 1) from by first | omega | (have uoa2 := un oa2; omega)) (show ¬ ((c0 = a2 ∧ 1 = 1)) from by first | omega | (have uoa2 := un oa2; omega)))
  have w_15 := Int32.toInt_lt r4
  have w_16 := Int32.le_toInt r4
  exact h9ret r4 σ3 mσ3 fσ3 (by first | omega | assumption | rfl)
theorem k_KD_telling {l : Launch} {V : Vx} {ci c0 : Nat} {a1 : Int32} {a2 : Nat} {σ0 : Sg} {Qk : Int32 → Sg → Prop} (s : isMc ci) (h : kd c0 = (10 + ci, 0)) (lc : c0 ∈ ids V) (ha2 : isN a2) (m0 : XI V σ0) (pre0 : a2 = 64) (pre1 : (gi σ0 a2 1).toInt ≤ 988) (h9ret : ∀ (r : Int32) (σ' : Sg), XI V σ' → FX (fun id => id = a2 + 1) (fun id k => (id = a2 ∧ k = 1)) σ0 σ' → ((gi σ' a2 1).toInt ≤ (gi σ0 a2 1).toInt + 12) → Qk r σ') : KD_telling l V ci c0 a1 a2 σ0 Qk := by
  refine ⟨fun e => ?_, fun e => ?_, fun e => ?_, fun e => ?_, fun e => ?_, fun e => ?_, fun e => ?_⟩
  · exact k_X0_telling (by omega) h lc ha2 m0 pre0 (by omega) (fun r σ' m f p => h9ret r σ' m f (by omega))
  · exact k_X4_telling (by omega) h lc ha2 m0 pre0 (by omega) (fun r σ' m f p => h9ret r σ' m f (by omega))
  · exact k_X4_telling (by omega) h lc ha2 m0 pre0 (by omega) (fun r σ' m f p => h9ret r σ' m f (by omega))
  · exact k_X4_telling (by omega) h lc ha2 m0 pre0 (by omega) (fun r σ' m f p => h9ret r σ' m f (by omega))
  · exact k_X7_telling (by omega) h lc ha2 m0 pre0 (by omega) (fun r σ' m f p => h9ret r σ' m f (by omega))
  · exact k_X4_telling (by omega) h lc ha2 m0 pre0 (by omega) (fun r σ' m f p => h9ret r σ' m f (by omega))
  · exact k_X0_telling (by omega) h lc ha2 m0 pre0 (by omega) (fun r σ' m f p => h9ret r σ' m f (by omega))
