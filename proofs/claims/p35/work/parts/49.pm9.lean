set_option maxRecDepth 100000 in
set_option maxHeartbeats 4000000 in
theorem k_X12_body {l : Launch} {V : Vx} {a1 : Int32} {σ0 : Sg} {Qk : Sg → Prop} (m0 : MI σ0) (pre0 : (gi σ0 74 69).toInt ≤ 900) (h9ret : ∀ (σ' : Sg), MI σ' → Fr [74, 170] [69] σ0 σ' → ((gi σ' 74 69).toInt = (gi σ0 74 69).toInt + 1) → Qk σ') : K_X12_body l V a1 σ0 Qk := by
  refine e_X12_body (fun M hl hV hN C => ?_)
  subst hl
  subst hV
  have f0 : Fr [74, 170] [69] σ0 σ0 := Fr_rf
  refine s_X12_body_0 C hN ?_
  refine ⟨?_, ?_⟩
  · intro q_1
    have t_2 := MI_f69 m0
    have b_3 : (20 : Int) ≤ (gi σ0 74 69).toInt := Int32.le_iff_toInt_le.mp q_1
    intro σ2 eσ2
    have t_4 : ((gi σ0 74 69) + (1 : Int32)).toInt = (gi σ0 74 69).toInt + 1 := i_add (x := (gi σ0 74 69)) (y := (1 : Int32)) (by show (_ : Int) ≤ (gi σ0 74 69).toInt + 1; omega) (by show (gi σ0 74 69).toInt + 1 ≤ (_ : Int); omega)
    have mσ2 : MI σ2 := by rw [eσ2]; exact MIs_f69 m0 (by omega) (by omega)
    have fσ2 : Fr [74, 170] [69] σ0 σ2 := by rw [eσ2]; exact Fr_si f0 (by decide) (fun _ => by decide)
    have k_5 : (gi σ2 74 69).toInt = ((gi σ0 74 69) + (1 : Int32)).toInt := by rw [eσ2]; exact congrArg Int32.toInt gi_si_eq
    exact h9ret σ2 mσ2 fσ2 (by first | omega | assumption | rfl)
  · intro q_1
    have t_6 := MI_f69 m0
    have b_7 : ¬ (20 : Int) ≤ (gi σ0 74 69).toInt := fun h9 => q_1 (Int32.le_iff_toInt_le.mpr h9)
    have hv_8 : vp_in (gi σ0 74 69) 20 := vp_in_iff.mpr ⟨by omega, by omega⟩
    refine ⟨hv_8, ?_⟩
    intro σ4 eσ4
    have mσ4 : MI σ4 := by rw [eσ4]; exact MIs_au (a := 170) m0 rfl rfl
    have fσ4 : Fr [74, 170] [69] σ0 σ4 := by rw [eσ4]; exact Fr_si f0 (by decide) (fun h9 => absurd h9 (by decide))
    have k_9 : (gi σ4 74 69).toInt = (gi σ0 74 69).toInt := by rw [eσ4]; exact congrArg Int32.toInt (gi_si_ne (Or.inl (by decide)))
    intro σ5 eσ5
    have t_10 := MI_f69 mσ4
    have t_11 : ((gi σ4 74 69) + (1 : Int32)).toInt = (gi σ4 74 69).toInt + 1 := i_add (x := (gi σ4 74 69)) (y := (1 : Int32)) (by show (_ : Int) ≤ (gi σ4 74 69).toInt + 1; omega) (by show (gi σ4 74 69).toInt + 1 ≤ (_ : Int); omega)
    have mσ5 : MI σ5 := by rw [eσ5]; exact MIs_f69 mσ4 (by omega) (by omega)
    have fσ5 : Fr [74, 170] [69] σ0 σ5 := by rw [eσ5]; exact Fr_si fσ4 (by decide) (fun _ => by decide)
    have k_12 : (gi σ5 74 69).toInt = ((gi σ4 74 69) + (1 : Int32)).toInt := by rw [eσ5]; exact congrArg Int32.toInt gi_si_eq
    exact h9ret σ5 mσ5 fσ5 (by first | omega | assumption | rfl)
set_option maxRecDepth 100000 in
set_option maxHeartbeats 4000000 in
theorem k_X12_mowerMows {l : Launch} {V : Vx} {a1 : Int32} {a2 : Int32} {σ0 : Sg} {Qk : Int32 → Sg → Prop} (m0 : MI σ0) (pre0 : (gi σ0 74 69).toInt ≤ 800) (h9ret : ∀ (r : Int32) (σ' : Sg), MI σ' → Fr [74, 170] [69] σ0 σ' → ((gi σ' 74 69).toInt ≤ (gi σ0 74 69).toInt + 1) → Qk r σ') : K_X12_mowerMows l V a1 a2 σ0 Qk := by
  refine e_X12_mowerMows (fun M hl hV hN C => ?_)
  subst hl
  subst hV
  have f0 : Fr [74, 170] [69] σ0 σ0 := Fr_rf
  refine s_X12_mowerMows_0 C hN ?_
  refine k_X12_body m0 (by first | omega | assumption | rfl) (fun σ1 mσ1 cσ1 (pσ1_0 : (gi σ1 74 69).toInt = (gi σ0 74 69).toInt + 1) => ?_)
  have fσ1 : Fr [74, 170] [69] σ0 σ1 := Fr_tr f0 cσ1 (by decide) (by decide)
  exact h9ret (a2 + a1) σ1 mσ1 fσ1 (by first | omega | assumption | rfl)
set_option maxRecDepth 100000 in
set_option maxHeartbeats 4000000 in
theorem k_X12_mowsAct {l : Launch} {V : Vx} {a1 : Int32} {a2 : Int32} {σ0 : Sg} {Qk : Int32 → Sg → Prop} (m0 : MI σ0) (l_a1 : 0 ≤ a1.toInt) (u_a1 : a1.toInt ≤ 5) (pre0 : (gi σ0 74 69).toInt ≤ 700) (h9ret : ∀ (r : Int32) (σ' : Sg), MI σ' → Fr [74, 170] [69] σ0 σ' → ((gi σ' 74 69).toInt ≤ (gi σ0 74 69).toInt + 2) → Qk r σ') : K_X12_mowsAct l V a1 a2 σ0 Qk := by
  refine e_X12_mowsAct (fun M hl hV hN C => ?_)
  subst hl
  subst hV
  have T : ∀ n : Nat, (∀ (x1 : Int32) (x2 : Int32) (σ : Sg), MI σ → Fr [74, 170] [69] σ0 σ → (0 ≤ x1.toInt) → (x1.toInt ≤ 5) → ((gi σ 74 69).toInt ≤ (gi σ0 74 69).toInt) → 1 < n → PS M 40 [(0, .ref 74), (1, .int x1), (2, .int x2)] [] σ (0, 0)) := by
    intro n
    induction n with
    | zero => exact fun _ _ _ _ _ _ _ _ h8 => absurd h8 (Nat.not_lt_zero _)
    | succ n ih =>
      have ih40 := ih
      · intro x1 x2 σ mσ fσ lx1 ux1 i0 hmu
        refine s_X12_mowsAct_40 C hN ?_
        refine k_X12_body mσ (by first | omega | assumption | rfl) (fun σ1 mσ1 cσ1 (pσ1_0 : (gi σ1 74 69).toInt = (gi σ 74 69).toInt + 1) => ?_)
        have fσ1 : Fr [74, 170] [69] σ0 σ1 := Fr_tr fσ cσ1 (by decide) (by decide)
        refine k_X12_mowerMows mσ1 (by first | omega | assumption | rfl) (fun r3 σ2 mσ2 cσ2 (pσ2_0 : (gi σ2 74 69).toInt ≤ (gi σ1 74 69).toInt + 1) => ?_)
        have fσ2 : Fr [74, 170] [69] σ0 σ2 := Fr_tr fσ1 cσ2 (by decide) (by decide)
        exact h9ret r3 σ2 mσ2 fσ2 (by first | omega | assumption | rfl)
  have U40 := T 9
  have f0 : Fr [74, 170] [69] σ0 σ0 := Fr_rf
  refine s_X12_mowsAct_0 C hN ?_
  have hv_1 : vp_in a1 6 := vp_in_iff.mpr ⟨by omega, by omega⟩
  refine ⟨hv_1, ?_⟩
  refine ⟨?_, ?_, ?_, ?_, ?_, ?_⟩
  · intro q_2
    refine k_X12_mowerMows m0 (by first | omega | assumption | rfl) (fun r3 σ2 mσ2 cσ2 (pσ2_0 : (gi σ2 74 69).toInt ≤ (gi σ0 74 69).toInt + 1) => ?_)
    have fσ2 : Fr [74, 170] [69] σ0 σ2 := Fr_tr f0 cσ2 (by decide) (by decide)
    exact h9ret r3 σ2 mσ2 fσ2 (by first | omega | assumption | rfl)
  · intro q_2
    exact U40 a1 a2 σ0 m0 f0 (by omega) (by omega) (by first | omega | assumption | rfl) (by omega)
  · intro q_2
    refine k_X12_mowerMows m0 (by first | omega | assumption | rfl) (fun r6 σ5 mσ5 cσ5 (pσ5_0 : (gi σ5 74 69).toInt ≤ (gi σ0 74 69).toInt + 1) => ?_)
    have fσ5 : Fr [74, 170] [69] σ0 σ5 := Fr_tr f0 cσ5 (by decide) (by decide)
    exact h9ret r6 σ5 mσ5 fσ5 (by first | omega | assumption | rfl)
  · intro q_2
    refine k_X12_body m0 (by first | omega | assumption | rfl) (fun σ7 mσ7 cσ7 (pσ7_0 : (gi σ7 74 69).toInt = (gi σ0 74 69).toInt + 1) => ?_)
    have fσ7 : Fr [74, 170] [69] σ0 σ7 := Fr_tr f0 cσ7 (by decide) (by decide)
    refine k_X12_mowerMows mσ7 (by first | omega | assumption | rfl) (fun r9 σ8 mσ8 cσ8 (pσ8_0 : (gi σ8 74 69).toInt ≤ (gi σ7 74 69).toInt + 1) => ?_)
    have fσ8 : Fr [74, 170] [69] σ0 σ8 := Fr_tr fσ7 cσ8 (by decide) (by decide)
    exact h9ret (-r9) σ8 mσ8 fσ8 (by first | omega | assumption | rfl)
  · intro q_2
    exact U40 a1 a2 σ0 m0 f0 (by omega) (by omega) (by first | omega | assumption | rfl) (by omega)
  · intro q_2
    refine k_X12_body m0 (by first | omega | assumption | rfl) (fun σ10 mσ10 cσ10 (pσ10_0 : (gi σ10 74 69).toInt = (gi σ0 74 69).toInt + 1) => ?_)
    have fσ10 : Fr [74, 170] [69] σ0 σ10 := Fr_tr f0 cσ10 (by decide) (by decide)
    refine k_X12_mowerMows mσ10 (by first | omega | assumption | rfl) (fun r12 σ11 mσ11 cσ11 (pσ11_0 : (gi σ11 74 69).toInt ≤ (gi σ10 74 69).toInt + 1) => ?_)
    have fσ11 : Fr [74, 170] [69] σ0 σ11 := Fr_tr fσ10 cσ11 (by decide) (by decide)
    refine ⟨hv_1, ?_⟩
    exact h9ret (r12 ^^^ (gi σ11 104 a1.toNatClampNeg)) σ11 mσ11 fσ11 (by first | omega | assumption | rfl)
set_option maxRecDepth 100000 in
set_option maxHeartbeats 4000000 in
theorem k_X12_mowerWhets {l : Launch} {V : Vx} {a1 : Int32} {a2 : Int32} {σ0 : Sg} {Qk : Int32 → Sg → Prop} (m0 : MI σ0) (l_a1 : 0 ≤ a1.toInt) (u_a1 : a1.toInt ≤ 5) (pre0 : (gi σ0 74 69).toInt ≤ 600) (h9ret : ∀ (r : Int32) (σ' : Sg), MI σ' → Fr [74, 170] [69] σ0 σ' → ((gi σ' 74 69).toInt ≤ (gi σ0 74 69).toInt + 3) → Qk r σ') : K_X12_mowerWhets l V a1 a2 σ0 Qk := by
  refine e_X12_mowerWhets (fun M hl hV hN C => ?_)
  subst hl
  subst hV
  have f0 : Fr [74, 170] [69] σ0 σ0 := Fr_rf
  refine s_X12_mowerWhets_0 C hN ?_
  refine k_X12_body m0 (by first | omega | assumption | rfl) (fun σ1 mσ1 cσ1 (pσ1_0 : (gi σ1 74 69).toInt = (gi σ0 74 69).toInt + 1) => ?_)
  have fσ1 : Fr [74, 170] [69] σ0 σ1 := Fr_tr f0 cσ1 (by decide) (by decide)
  refine k_X12_mowsAct mσ1 (by omega) (by omega) (by first | omega | assumption | rfl) (fun r3 σ2 mσ2 cσ2 (pσ2_0 : (gi σ2 74 69).toInt ≤ (gi σ1 74 69).toInt + 2) => ?_)
  have fσ2 : Fr [74, 170] [69] σ0 σ2 := Fr_tr fσ1 cσ2 (by decide) (by decide)
  have hv_1 : vp_in a1 6 := vp_in_iff.mpr ⟨by omega, by omega⟩
  refine ⟨hv_1, ?_⟩
  exact h9ret (r3 - (gi σ2 104 a1.toNatClampNeg)) σ2 mσ2 fσ2 (by first | omega | assumption | rfl)
set_option maxRecDepth 100000 in
set_option maxHeartbeats 4000000 in
theorem k_X12_steadyWhets {l : Launch} {V : Vx} {a1 : Int32} {a2 : Int32} {σ0 : Sg} {Qk : Int32 → Sg → Prop} (m0 : MI σ0) (l_a1 : 0 ≤ a1.toInt) (u_a1 : a1.toInt ≤ 5) (pre0 : (gi σ0 74 69).toInt ≤ 550) (h9ret : ∀ (r : Int32) (σ' : Sg), MI σ' → Fr [74, 170] [69] σ0 σ' → ((gi σ' 74 69).toInt ≤ (gi σ0 74 69).toInt + 4) → Qk r σ') : K_X12_steadyWhets l V a1 a2 σ0 Qk := by
  refine e_X12_steadyWhets (fun M hl hV hN C => ?_)
  subst hl
  subst hV
  have f0 : Fr [74, 170] [69] σ0 σ0 := Fr_rf
  refine s_X12_steadyWhets_0 C hN ?_
  refine k_X12_body m0 (by first | omega | assumption | rfl) (fun σ1 mσ1 cσ1 (pσ1_0 : (gi σ1 74 69).toInt = (gi σ0 74 69).toInt + 1) => ?_)
  have fσ1 : Fr [74, 170] [69] σ0 σ1 := Fr_tr f0 cσ1 (by decide) (by decide)
  refine k_X12_mowerWhets mσ1 (by omega) (by omega) (by first | omega | assumption | rfl) (fun r3 σ2 mσ2 cσ2 (pσ2_0 : (gi σ2 74 69).toInt ≤ (gi σ1 74 69).toInt + 3) => ?_)
  have fσ2 : Fr [74, 170] [69] σ0 σ2 := Fr_tr fσ1 cσ2 (by decide) (by decide)
  exact h9ret (r3 ^^^ (6 : Int32)) σ2 mσ2 fσ2 (by first | omega | assumption | rfl)
set_option maxRecDepth 100000 in
set_option maxHeartbeats 4000000 in
theorem k_X12_whetsAct {l : Launch} {V : Vx} {a1 : Int32} {a2 : Int32} {σ0 : Sg} {Qk : Int32 → Sg → Prop} (m0 : MI σ0) (l_a1 : 0 ≤ a1.toInt) (u_a1 : a1.toInt ≤ 5) (pre0 : (gi σ0 74 69).toInt ≤ 500) (h9ret : ∀ (r : Int32) (σ' : Sg), MI σ' → Fr [74, 170] [69] σ0 σ' → ((gi σ' 74 69).toInt ≤ (gi σ0 74 69).toInt + 6) → Qk r σ') : K_X12_whetsAct l V a1 a2 σ0 Qk := by
  refine e_X12_whetsAct (fun M hl hV hN C => ?_)
  subst hl
  subst hV
  have f0 : Fr [74, 170] [69] σ0 σ0 := Fr_rf
  refine s_X12_whetsAct_0 C hN ?_
  have hv_1 : vp_in a1 6 := vp_in_iff.mpr ⟨by omega, by omega⟩
  refine ⟨hv_1, ?_⟩
  refine ⟨?_, ?_, ?_, ?_⟩
  · intro q_2
    refine k_X12_mowerWhets m0 (by omega) (by omega) (by first | omega | assumption | rfl) (fun r4 σ3 mσ3 cσ3 (pσ3_0 : (gi σ3 74 69).toInt ≤ (gi σ0 74 69).toInt + 3) => ?_)
    have fσ3 : Fr [74, 170] [69] σ0 σ3 := Fr_tr f0 cσ3 (by decide) (by decide)
    exact h9ret r4 σ3 mσ3 fσ3 (by first | omega | assumption | rfl)
  · intro q_2
    refine k_X12_steadyWhets m0 (by omega) (by omega) (by first | omega | assumption | rfl) (fun r6 σ5 mσ5 cσ5 (pσ5_0 : (gi σ5 74 69).toInt ≤ (gi σ0 74 69).toInt + 4) => ?_)
    have fσ5 : Fr [74, 170] [69] σ0 σ5 := Fr_tr f0 cσ5 (by decide) (by decide)
    exact h9ret r6 σ5 mσ5 fσ5 (by first | omega | assumption | rfl)
  · intro q_2
    refine k_X12_body m0 (by first | omega | assumption | rfl) (fun σ7 mσ7 cσ7 (pσ7_0 : (gi σ7 74 69).toInt = (gi σ0 74 69).toInt + 1) => ?_)
    have fσ7 : Fr [74, 170] [69] σ0 σ7 := Fr_tr f0 cσ7 (by decide) (by decide)
    refine k_X12_steadyWhets mσ7 (by omega) (by omega) (by first | omega | assumption | rfl) (fun r9 σ8 mσ8 cσ8 (pσ8_0 : (gi σ8 74 69).toInt ≤ (gi σ7 74 69).toInt + 4) => ?_)
    have fσ8 : Fr [74, 170] [69] σ0 σ8 := Fr_tr fσ7 cσ8 (by decide) (by decide)
    exact h9ret r9 σ8 mσ8 fσ8 (by first | omega | assumption | rfl)
  · intro q_2
    refine k_X12_body m0 (by first | omega | assumption | rfl) (fun σ10 mσ10 cσ10 (pσ10_0 : (gi σ10 74 69).toInt = (gi σ0 74 69).toInt + 1) => ?_)
    have fσ10 : Fr [74, 170] [69] σ0 σ10 := Fr_tr f0 cσ10 (by decide) (by decide)
    refine k_X12_mowerWhets mσ10 (by omega) (by omega) (by first | omega | assumption | rfl) (fun r12 σ11 mσ11 cσ11 (pσ11_0 : (gi σ11 74 69).toInt ≤ (gi σ10 74 69).toInt + 3) => ?_)
    have fσ11 : Fr [74, 170] [69] σ0 σ11 := Fr_tr fσ10 cσ11 (by decide) (by decide)
    refine k_X12_mowerMows mσ11 (by first | omega | assumption | rfl) (fun r14 σ13 mσ13 cσ13 (pσ13_0 : (gi σ13 74 69).toInt ≤ (gi σ11 74 69).toInt + 1) => ?_)
    have fσ13 : Fr [74, 170] [69] σ0 σ13 := Fr_tr fσ11 cσ13 (by decide) (by decide)
    exact h9ret (r12 + r14) σ13 mσ13 fσ13 (by first | omega | assumption | rfl)
set_option maxRecDepth 100000 in
set_option maxHeartbeats 4000000 in
theorem k_X12_mowerTells {l : Launch} {V : Vx} {a1 : Int32} {a2 : Int32} {σ0 : Sg} {Qk : Int32 → Sg → Prop} (m0 : MI σ0) (l_a1 : 0 ≤ a1.toInt) (u_a1 : a1.toInt ≤ 5) (pre0 : (gi σ0 74 69).toInt ≤ 450) (h9ret : ∀ (r : Int32) (σ' : Sg), MI σ' → Fr [74, 170] [69] σ0 σ' → ((gi σ' 74 69).toInt ≤ (gi σ0 74 69).toInt + 7) → Qk r σ') : K_X12_mowerTells l V a1 a2 σ0 Qk := by
  refine e_X12_mowerTells (fun M hl hV hN C => ?_)
  subst hl
  subst hV
  have f0 : Fr [74, 170] [69] σ0 σ0 := Fr_rf
  refine s_X12_mowerTells_0 C hN ?_
  refine k_X12_body m0 (by first | omega | assumption | rfl) (fun σ1 mσ1 cσ1 (pσ1_0 : (gi σ1 74 69).toInt = (gi σ0 74 69).toInt + 1) => ?_)
  have fσ1 : Fr [74, 170] [69] σ0 σ1 := Fr_tr f0 cσ1 (by decide) (by decide)
  refine k_X12_whetsAct mσ1 (by omega) (by omega) (by first | omega | assumption | rfl) (fun r3 σ2 mσ2 cσ2 (pσ2_0 : (gi σ2 74 69).toInt ≤ (gi σ1 74 69).toInt + 6) => ?_)
  have fσ2 : Fr [74, 170] [69] σ0 σ2 := Fr_tr fσ1 cσ2 (by decide) (by decide)
  exact h9ret (r3 * (2 : Int32)) σ2 mσ2 fσ2 (by first | omega | assumption | rfl)
set_option maxRecDepth 100000 in
set_option maxHeartbeats 4000000 in
theorem k_X12_tellsAct {l : Launch} {V : Vx} {a1 : Int32} {a2 : Int32} {σ0 : Sg} {Qk : Int32 → Sg → Prop} (m0 : MI σ0) (l_a1 : 0 ≤ a1.toInt) (u_a1 : a1.toInt ≤ 5) (pre0 : (gi σ0 74 69).toInt ≤ 400) (h9ret : ∀ (r : Int32) (σ' : Sg), MI σ' → Fr [74, 170] [69] σ0 σ' → ((gi σ' 74 69).toInt ≤ (gi σ0 74 69).toInt + 20) → Qk r σ') : K_X12_tellsAct l V a1 a2 σ0 Qk := by
  refine e_X12_tellsAct (fun M hl hV hN C => ?_)
  subst hl
  subst hV
  have T : ∀ n : Nat, (∀ (x1 : Int32) (x2 : Int32) (σ : Sg), MI σ → Fr [74, 170] [69] σ0 σ → (0 ≤ x1.toInt) → (x1.toInt ≤ 5) → ((gi σ 74 69).toInt ≤ (gi σ0 74 69).toInt) → 1 < n → PS M 36 [(0, .ref 74), (1, .int x1), (2, .int x2)] [] σ (0, 0)) := by
    intro n
    induction n with
    | zero => exact fun _ _ _ _ _ _ _ _ h8 => absurd h8 (Nat.not_lt_zero _)
    | succ n ih =>
      have ih36 := ih
      · intro x1 x2 σ mσ fσ lx1 ux1 i0 hmu
        refine s_X12_tellsAct_36 C hN ?_
        refine k_X12_body mσ (by first | omega | assumption | rfl) (fun σ1 mσ1 cσ1 (pσ1_0 : (gi σ1 74 69).toInt = (gi σ 74 69).toInt + 1) => ?_)
        have fσ1 : Fr [74, 170] [69] σ0 σ1 := Fr_tr fσ cσ1 (by decide) (by decide)
        refine k_X12_mowerTells mσ1 (by omega) (by omega) (by first | omega | assumption | rfl) (fun r3 σ2 mσ2 cσ2 (pσ2_0 : (gi σ2 74 69).toInt ≤ (gi σ1 74 69).toInt + 7) => ?_)
        have fσ2 : Fr [74, 170] [69] σ0 σ2 := Fr_tr fσ1 cσ2 (by decide) (by decide)
        refine k_X12_whetsAct mσ2 (by omega) (by omega) (by first | omega | assumption | rfl) (fun r5 σ4 mσ4 cσ4 (pσ4_0 : (gi σ4 74 69).toInt ≤ (gi σ2 74 69).toInt + 6) => ?_)
        have fσ4 : Fr [74, 170] [69] σ0 σ4 := Fr_tr fσ2 cσ4 (by decide) (by decide)
        exact h9ret (r3 + r5) σ4 mσ4 fσ4 (by first | omega | assumption | rfl)
  have U36 := T 9
  have f0 : Fr [74, 170] [69] σ0 σ0 := Fr_rf
  refine s_X12_tellsAct_0 C hN ?_
  have hv_1 : vp_in a1 6 := vp_in_iff.mpr ⟨by omega, by omega⟩
  refine ⟨hv_1, ?_⟩
  refine ⟨?_, ?_, ?_, ?_, ?_⟩
  · intro q_2
    refine k_X12_mowerTells m0 (by omega) (by omega) (by first | omega | assumption | rfl) (fun r3 σ2 mσ2 cσ2 (pσ2_0 : (gi σ2 74 69).toInt ≤ (gi σ0 74 69).toInt + 7) => ?_)
    have fσ2 : Fr [74, 170] [69] σ0 σ2 := Fr_tr f0 cσ2 (by decide) (by decide)
    exact h9ret r3 σ2 mσ2 fσ2 (by first | omega | assumption | rfl)
  · intro q_2
    exact U36 a1 a2 σ0 m0 f0 (by omega) (by omega) (by first | omega | assumption | rfl) (by omega)
  · intro q_2
    refine k_X12_mowerTells m0 (by omega) (by omega) (by first | omega | assumption | rfl) (fun r6 σ5 mσ5 cσ5 (pσ5_0 : (gi σ5 74 69).toInt ≤ (gi σ0 74 69).toInt + 7) => ?_)
    have fσ5 : Fr [74, 170] [69] σ0 σ5 := Fr_tr f0 cσ5 (by decide) (by decide)
    exact h9ret r6 σ5 mσ5 fσ5 (by first | omega | assumption | rfl)
  · intro q_2
    refine k_X12_body m0 (by first | omega | assumption | rfl) (fun σ7 mσ7 cσ7 (pσ7_0 : (gi σ7 74 69).toInt = (gi σ0 74 69).toInt + 1) => ?_)
    have fσ7 : Fr [74, 170] [69] σ0 σ7 := Fr_tr f0 cσ7 (by decide) (by decide)
    refine k_X12_mowerTells mσ7 (by omega) (by omega) (by first | omega | assumption | rfl) (fun r9 σ8 mσ8 cσ8 (pσ8_0 : (gi σ8 74 69).toInt ≤ (gi σ7 74 69).toInt + 7) => ?_)
    have fσ8 : Fr [74, 170] [69] σ0 σ8 := Fr_tr fσ7 cσ8 (by decide) (by decide)
    exact h9ret r9 σ8 mσ8 fσ8 (by first | omega | assumption | rfl)
  · intro q_2
    exact U36 a1 a2 σ0 m0 f0 (by omega) (by omega) (by first | omega | assumption | rfl) (by omega)
set_option maxRecDepth 100000 in
set_option maxHeartbeats 4000000 in
theorem k_X12_act {l : Launch} {V : Vx} {a1 : Int32} {a2 : Int32} {a3 : Int32} {σ0 : Sg} {Qk : Int32 → Sg → Prop} (m0 : MI σ0) (h9ret : ∀ (r : Int32) (σ' : Sg), MI σ' → Fr [74, 170] [69] σ0 σ' → Qk r σ') : K_X12_act l V a1 a2 a3 σ0 Qk := by
  refine e_X12_act (fun M hl hV hN C => ?_)
  subst hl
  subst hV
  have f0 : Fr [74, 170] [69] σ0 σ0 := Fr_rf
  refine s_X12_act_0 C hN ?_
  intro σ1 eσ1
  have z_1 : (0 : Int32).toInt = 0 := rfl
  have mσ1 : MI σ1 := by rw [eσ1]; exact MIs_f69 m0 (by omega) (by omega)
  have fσ1 : Fr [74, 170] [69] σ0 σ1 := by rw [eσ1]; exact Fr_si f0 (by decide) (fun _ => by decide)
  have k_2 : (gi σ1 74 69).toInt = 0 := by rw [eσ1]; exact congrArg Int32.toInt gi_si_eq
  refine k_X12_isMower mσ1  (fun r3 σ2 mσ2 cσ2 plσ2 phσ2 (pσ2_0 : (r3.toInt = 1 ∧ 0 ≤ a1.toInt ∧ a1.toInt < (gi σ1 74 0).toInt) ∨ (r3.toInt = 0 ∧ (a1.toInt < 0 ∨ (gi σ1 74 0).toInt ≤ a1.toInt))) => ?_)
  obtain rfl := Fr_nil cσ2
  have t_3 := MI_f0 mσ1
  refine ⟨?_, ?_⟩
  · intro q_4
    have b_5 : r3.toInt = 0 := congrArg Int32.toInt q_4
    exact h9ret (0 : Int32) σ1 mσ1 fσ1
  · intro q_4
    have b_6 : ¬ r3.toInt = 0 := fun h9 => q_4 (Int32.toInt_inj.mp h9)
    refine k_X12_in mσ1  (fun r6 σ5 mσ5 cσ5 plσ5 phσ5 (pσ5_0 : (r6.toInt = 1 ∧ (0 : Int) ≤ a2.toInt ∧ a2.toInt ≤ (2 : Int)) ∨ (r6.toInt = 0 ∧ (a2.toInt < (0 : Int) ∨ (2 : Int) < a2.toInt))) => ?_)
    obtain rfl := Fr_nil cσ5
    refine ⟨?_, ?_⟩
    · intro q_7
      have b_8 : ¬ r6.toInt = 0 := fun h9 => q_7 (Int32.toInt_inj.mp h9)
      refine ⟨?_, ?_⟩
      · intro q_9
        have w_10 := Int32.toInt_lt a2
        have w_11 := Int32.le_toInt a2
        have b_12 : ¬ a2.toInt = 0 := fun h9 => q_9 (Int32.toInt_inj.mp h9)
        refine ⟨?_, ?_⟩
        · intro q_13
          have b_14 : ¬ a2.toInt = 1 := fun h9 => q_13 (Int32.toInt_inj.mp h9)
          refine k_X12_tellsAct mσ1 (by omega) (by omega) (by first | omega | assumption | rfl) (fun r11 σ10 mσ10 cσ10 (pσ10_0 : (gi σ10 74 69).toInt ≤ (gi σ1 74 69).toInt + 20) => ?_)
          have fσ10 : Fr [74, 170] [69] σ0 σ10 := Fr_tr fσ1 cσ10 (by decide) (by decide)
          have k_15 : (gi σ10 74 0).toInt = (gi σ1 74 0).toInt := congrArg Int32.toInt (cσ10.2.1 0 (by decide))
          exact h9ret r11 σ10 mσ10 fσ10
        · intro q_13
          have b_16 : a2.toInt = 1 := congrArg Int32.toInt q_13
          refine k_X12_whetsAct mσ1 (by omega) (by omega) (by first | omega | assumption | rfl) (fun r13 σ12 mσ12 cσ12 (pσ12_0 : (gi σ12 74 69).toInt ≤ (gi σ1 74 69).toInt + 6) => ?_)
          have fσ12 : Fr [74, 170] [69] σ0 σ12 := Fr_tr fσ1 cσ12 (by decide) (by decide)
          have k_17 : (gi σ12 74 0).toInt = (gi σ1 74 0).toInt := congrArg Int32.toInt (cσ12.2.1 0 (by decide))
          exact h9ret r13 σ12 mσ12 fσ12
      · intro q_9
        have w_18 := Int32.toInt_lt a2
        have w_19 := Int32.le_toInt a2
        have b_20 : a2.toInt = 0 := congrArg Int32.toInt q_9
        refine k_X12_mowsAct mσ1 (by omega) (by omega) (by first | omega | assumption | rfl) (fun r15 σ14 mσ14 cσ14 (pσ14_0 : (gi σ14 74 69).toInt ≤ (gi σ1 74 69).toInt + 2) => ?_)
        have fσ14 : Fr [74, 170] [69] σ0 σ14 := Fr_tr fσ1 cσ14 (by decide) (by decide)
        have k_21 : (gi σ14 74 0).toInt = (gi σ1 74 0).toInt := congrArg Int32.toInt (cσ14.2.1 0 (by decide))
        exact h9ret r15 σ14 mσ14 fσ14
    · intro q_7
      have b_22 : r6.toInt = 0 := congrArg Int32.toInt q_7
      exact h9ret (0 : Int32) σ1 mσ1 fσ1
