/-! plan's and book's answers: by the argument, what stands, and the highest that may come -/
noncomputable def PBA (r a n n2 : Int32) (hi top : Int) : Prop := (a.toInt = -1 → r.toInt = 0 ∧ n2.toInt = 0) ∧ ((a.toInt < -1 ∨ hi < a.toInt) → a.toInt ≠ -1 → r.toInt = -1 ∧ n2.toInt = n.toInt) ∧ (0 ≤ a.toInt → a.toInt ≤ hi → (top ≤ n.toInt → r.toInt = -4 ∧ n2.toInt = n.toInt) ∧ (n.toInt < top → r.toInt = n.toInt + 1 ∧ n2.toInt = n.toInt + 1))
theorem PBA_eq {r r' a n n' n2 n2' : Int32} {hi top : Int} (h : PBA r a n n2 hi top) (h' : PBA r' a n' n2' hi top) (e : n.toInt = n'.toInt) (hh : -1 ≤ hi) : r = r' ∧ n2.toInt = n2'.toInt := by
  have e9 : r.toInt = r'.toInt ∧ n2.toInt = n2'.toInt := by
    obtain ⟨h1, h2, h3⟩ := h
    obtain ⟨g1, g2, g3⟩ := h'
    by_cases b1 : a.toInt = -1
    · have := h1 b1; have := g1 b1; omega
    · by_cases b2 : a.toInt < -1 ∨ hi < a.toInt
      · have := h2 b2 b1; have := g2 b2 b1; omega
      · have h4 := h3 (by omega) (by omega)
        have g4 := g3 (by omega) (by omega)
        by_cases b3 : top ≤ n.toInt
        · have := h4.1 b3; have := g4.1 (by omega); omega
        · have := h4.2 (by omega); have := g4.2 (by omega); omega
  exact ⟨Int32.toInt_inj.mp e9.1, e9.2⟩
theorem PBA_0 {a n n2 : Int32} {hi top : Int} (h : a.toInt = -1 ∧ n2.toInt = 0) : PBA 0 a n n2 hi top := ⟨fun _ => ⟨rfl, h.2⟩, fun _ q => absurd h.1 q, fun _ => by omega⟩
theorem PBA_1 {a n n2 : Int32} {hi top : Int} (h : (a.toInt < -1 ∨ hi < a.toInt) ∧ a.toInt ≠ -1 ∧ n2.toInt = n.toInt) : PBA (-1) a n n2 hi top := ⟨fun q => absurd q h.2.1, fun _ _ => ⟨rfl, h.2.2⟩, fun _ _ => by omega⟩
theorem PBA_2 {a n n2 : Int32} {hi top : Int} (h : 0 ≤ a.toInt ∧ a.toInt ≤ hi ∧ top ≤ n.toInt ∧ n2.toInt = n.toInt) : PBA (-4) a n n2 hi top := ⟨fun q => by omega, fun q _ => by omega, fun _ _ => ⟨fun _ => ⟨rfl, h.2.2.2⟩, fun q => by omega⟩⟩
theorem PBA_3 {r a n n2 : Int32} {hi top : Int} (h : 0 ≤ a.toInt ∧ a.toInt ≤ hi ∧ n.toInt < top ∧ n2.toInt = n.toInt + 1 ∧ r.toInt = n2.toInt) : PBA r a n n2 hi top := ⟨fun q => by omega, fun q _ => by omega, fun _ _ => ⟨fun q => by omega, fun _ => by omega⟩⟩
set_option maxRecDepth 100000 in
set_option maxHeartbeats 4000000 in
theorem kt_X11_plan {l : Launch} {V : Vx} {a1 : Int32} {σ0 : Sg} {Qk : Int32 → Sg → Prop} (m0 : XI V σ0) (h9ret : ∀ (r : Int32) (σ' : Sg), XI V σ' → FX (fun id => id = 12) (fun id k => (id = 11 ∧ k = 1)) σ0 σ' → (PBA r a1 (gi σ0 11 1) (gi σ' 11 1) (2) 10) → Qk r σ') : K_X11_plan l V a1 σ0 Qk := by
  refine e_X11_plan (fun M hl hV hN C => ?_)
  subst hl
  subst hV
  have c9 : capI 11 = 10 := rfl
  have n9 : (nl 11 : Int) = 10 := by decide +kernel
  have f0 : FX (fun id => id = 12) (fun id k => (id = 11 ∧ k = 1)) σ0 σ0 := FX_rf
  have t_1 := XI_c1 m0 (id := 1) (k := 1) (lim_C0_1 (Or.inl rfl))
  have t_2 := XI_c1 m0 (id := 11) (k := 1) (lim_C10_1 (Or.inl rfl))
  refine s_X11_plan_0 C hN  ?_
  refine ⟨?_, ?_⟩
  · intro q_3
    have w_4 := Int32.toInt_lt a1
    have w_5 := Int32.le_toInt a1
    have b_6 : ¬ a1.toInt = (-1) := fun h9 => q_3 (Int32.toInt_inj.mp h9)
    refine ⟨?_, ?_⟩
    · intro q_7
      have b_8 : a1.toInt < 0 := Int32.lt_iff_toInt_lt.mp q_7
      have z_9 : (-1 : Int32).toInt = -1 := rfl
      exact h9ret (-1 : Int32) σ0 m0 f0 (by first | assumption | exact PBA_0 (by omega) | exact PBA_1 (by omega) | exact PBA_2 (by omega) | exact PBA_3 (by omega))
    · intro q_7
      have b_10 : ¬ a1.toInt < 0 := fun h9 => q_7 (Int32.lt_iff_toInt_lt.mpr h9)
      refine ⟨?_, ?_⟩
      · intro q_11
        have b_12 : a1.toInt ≤ 2 := Int32.le_iff_toInt_le.mp q_11
        refine k_X5_isFull (isN_C10 (Or.inl rfl)) m0   (fun r5 σ4 mσ4 cσ4 plσ4 phσ4 (pσ4_0 : (r5.toInt = 1 ∧ (nl 11 : Int) ≤ (gi σ0 11 1).toInt) ∨ (r5.toInt = 0 ∧ (gi σ0 11 1).toInt < (nl 11 : Int))) => ?_)
        obtain rfl := FX_nil cσ4
        refine ⟨?_, ?_⟩
        · intro q_13
          have b_14 : r5.toInt = 0 := congrArg Int32.toInt q_13
          refine k_X5_comes (isN_C10 (Or.inl rfl)) m0  (by omega) (okNum_11) (fun σ7 mσ7 cσ7 (pσ7_0 : (gi σ7 11 1).toInt = (gi σ0 11 1).toInt + 1) => ?_)
          have fσ7 : FX (fun id => id = 12) (fun id k => (id = 11 ∧ k = 1)) σ0 σ7 := FX_tr f0 cσ7 (fun x (h9 : x = 12) => (show x = 12 from h9)) (fun x k (h9 : (x = 11 ∧ k = 1)) => (show (x = 12) ∨ ((x = 11 ∧ k = 1)) from Or.inr (show (x = 11 ∧ k = 1) from h9)))
          have k_15 : (gi σ7 1 1).toInt = (gi σ0 1 1).toInt := congrArg Int32.toInt (FX_i cσ7 (show ¬ (1 = 12) from by omega) (show ¬ ((1 = 11 ∧ 1 = 1)) from by omega))
          have t_16 := XI_c1 mσ7 (id := 11) (k := 1) (lim_C10_1 (Or.inl rfl))
          exact h9ret (gi σ7 11 1) σ7 mσ7 fσ7 (by first | assumption | exact PBA_0 (by omega) | exact PBA_1 (by omega) | exact PBA_2 (by omega) | exact PBA_3 (by omega))
        · intro q_13
          have b_17 : ¬ r5.toInt = 0 := fun h9 => q_13 (Int32.toInt_inj.mp h9)
          have z_18 : (-4 : Int32).toInt = -4 := rfl
          exact h9ret (-4 : Int32) σ0 m0 f0 (by first | assumption | exact PBA_0 (by omega) | exact PBA_1 (by omega) | exact PBA_2 (by omega) | exact PBA_3 (by omega))
      · intro q_11
        have b_19 : ¬ a1.toInt ≤ 2 := fun h9 => q_11 (Int32.le_iff_toInt_le.mpr h9)
        have z_20 : (-1 : Int32).toInt = -1 := rfl
        exact h9ret (-1 : Int32) σ0 m0 f0 (by first | assumption | exact PBA_0 (by omega) | exact PBA_1 (by omega) | exact PBA_2 (by omega) | exact PBA_3 (by omega))
  · intro q_3
    have w_21 := Int32.toInt_lt a1
    have w_22 := Int32.le_toInt a1
    have b_23 : a1.toInt = (-1) := congrArg Int32.toInt q_3
    intro σ8 eσ8
    have z_24 : (0 : Int32).toInt = 0 := rfl
    have mσ8 : XI (mV M) σ8 := by rw [eσ8]; exact XIs_b m0 (lim_C10_1 (Or.inl rfl)) (by omega) (by omega)
    have fσ8 : FX (fun id => id = 12) (fun id k => (id = 11 ∧ k = 1)) σ0 σ8 := by rw [eσ8]; exact FX_si f0 (Or.inr (show (11 = 11 ∧ 1 = 1) from ⟨rfl, rfl⟩))
    have k_25 : (gi σ8 1 1).toInt = (gi σ0 1 1).toInt := by rw [eσ8]; exact congrArg Int32.toInt (gi_si_ne (Or.inl (by omega)))
    have k_26 : (gi σ8 11 1).toInt = 0 := by rw [eσ8]; exact congrArg Int32.toInt gi_si_eq
    exact h9ret (0 : Int32) σ8 mσ8 fσ8 (by first | assumption | exact PBA_0 (by omega) | exact PBA_1 (by omega) | exact PBA_2 (by omega) | exact PBA_3 (by omega))
set_option maxRecDepth 100000 in
set_option maxHeartbeats 4000000 in
theorem kt_X11_book {l : Launch} {V : Vx} {a1 : Int32} {σ0 : Sg} {Qk : Int32 → Sg → Prop} (m0 : XI V σ0) (h9ret : ∀ (r : Int32) (σ' : Sg), XI V σ' → FX (fun id => id = 14) (fun id k => (id = 13 ∧ k = 1)) σ0 σ' → (PBA r a1 (gi σ0 13 1) (gi σ' 13 1) ((gi σ0 1 1).toInt - 1) 8) → Qk r σ') : K_X11_book l V a1 σ0 Qk := by
  refine e_X11_book (fun M hl hV hN C => ?_)
  subst hl
  subst hV
  have c9 : capI 13 = 8 := rfl
  have n9 : (nl 13 : Int) = 8 := by decide +kernel
  have f0 : FX (fun id => id = 14) (fun id k => (id = 13 ∧ k = 1)) σ0 σ0 := FX_rf
  have t_1 := XI_c1 m0 (id := 1) (k := 1) (lim_C0_1 (Or.inl rfl))
  have t_2 := XI_c1 m0 (id := 13) (k := 1) (lim_C12_1 (Or.inl rfl))
  refine s_X11_book_0 C hN  ?_
  refine ⟨?_, ?_⟩
  · intro q_3
    have w_4 := Int32.toInt_lt a1
    have w_5 := Int32.le_toInt a1
    have b_6 : ¬ a1.toInt = (-1) := fun h9 => q_3 (Int32.toInt_inj.mp h9)
    refine k_X11_isMower  m0   (fun r3 σ2 mσ2 cσ2 plσ2 phσ2 (pσ2_0 : (r3.toInt = 1 ∧ 0 ≤ a1.toInt ∧ a1.toInt < (gi σ0 1 1).toInt) ∨ (r3.toInt = 0 ∧ (a1.toInt < 0 ∨ (gi σ0 1 1).toInt ≤ a1.toInt))) => ?_)
    obtain rfl := FX_nil cσ2
    refine ⟨?_, ?_⟩
    · intro q_7
      have b_8 : ¬ r3.toInt = 0 := fun h9 => q_7 (Int32.toInt_inj.mp h9)
      refine k_X5_isFull (isN_C12 (Or.inl rfl)) m0   (fun r6 σ5 mσ5 cσ5 plσ5 phσ5 (pσ5_0 : (r6.toInt = 1 ∧ (nl 13 : Int) ≤ (gi σ0 13 1).toInt) ∨ (r6.toInt = 0 ∧ (gi σ0 13 1).toInt < (nl 13 : Int))) => ?_)
      obtain rfl := FX_nil cσ5
      refine ⟨?_, ?_⟩
      · intro q_9
        have b_10 : r6.toInt = 0 := congrArg Int32.toInt q_9
        refine k_X5_comes (isN_C12 (Or.inl rfl)) m0  (by omega) (okNum_b (by omega) (by omega)) (fun σ8 mσ8 cσ8 (pσ8_0 : (gi σ8 13 1).toInt = (gi σ0 13 1).toInt + 1) => ?_)
        have fσ8 : FX (fun id => id = 14) (fun id k => (id = 13 ∧ k = 1)) σ0 σ8 := FX_tr f0 cσ8 (fun x (h9 : x = 14) => (show x = 14 from h9)) (fun x k (h9 : (x = 13 ∧ k = 1)) => (show (x = 14) ∨ ((x = 13 ∧ k = 1)) from Or.inr (show (x = 13 ∧ k = 1) from h9)))
        have k_11 : (gi σ8 1 1).toInt = (gi σ0 1 1).toInt := congrArg Int32.toInt (FX_i cσ8 (show ¬ (1 = 14) from by omega) (show ¬ ((1 = 13 ∧ 1 = 1)) from by omega))
        have t_12 := XI_c1 mσ8 (id := 13) (k := 1) (lim_C12_1 (Or.inl rfl))
        exact h9ret (gi σ8 13 1) σ8 mσ8 fσ8 (by first | assumption | exact PBA_0 (by omega) | exact PBA_1 (by omega) | exact PBA_2 (by omega) | exact PBA_3 (by omega))
      · intro q_9
        have b_13 : ¬ r6.toInt = 0 := fun h9 => q_9 (Int32.toInt_inj.mp h9)
        have z_14 : (-4 : Int32).toInt = -4 := rfl
        exact h9ret (-4 : Int32) σ0 m0 f0 (by first | assumption | exact PBA_0 (by omega) | exact PBA_1 (by omega) | exact PBA_2 (by omega) | exact PBA_3 (by omega))
    · intro q_7
      have b_15 : r3.toInt = 0 := congrArg Int32.toInt q_7
      have z_16 : (-1 : Int32).toInt = -1 := rfl
      exact h9ret (-1 : Int32) σ0 m0 f0 (by first | assumption | exact PBA_0 (by omega) | exact PBA_1 (by omega) | exact PBA_2 (by omega) | exact PBA_3 (by omega))
  · intro q_3
    have w_17 := Int32.toInt_lt a1
    have w_18 := Int32.le_toInt a1
    have b_19 : a1.toInt = (-1) := congrArg Int32.toInt q_3
    intro σ9 eσ9
    have z_20 : (0 : Int32).toInt = 0 := rfl
    have mσ9 : XI (mV M) σ9 := by rw [eσ9]; exact XIs_b m0 (lim_C12_1 (Or.inl rfl)) (by omega) (by omega)
    have fσ9 : FX (fun id => id = 14) (fun id k => (id = 13 ∧ k = 1)) σ0 σ9 := by rw [eσ9]; exact FX_si f0 (Or.inr (show (13 = 13 ∧ 1 = 1) from ⟨rfl, rfl⟩))
    have k_21 : (gi σ9 1 1).toInt = (gi σ0 1 1).toInt := by rw [eσ9]; exact congrArg Int32.toInt (gi_si_ne (Or.inl (by omega)))
    have k_22 : (gi σ9 13 1).toInt = 0 := by rw [eσ9]; exact congrArg Int32.toInt gi_si_eq
    exact h9ret (0 : Int32) σ9 mσ9 fσ9 (by first | assumption | exact PBA_0 (by omega) | exact PBA_1 (by omega) | exact PBA_2 (by omega) | exact PBA_3 (by omega))
set_option maxRecDepth 100000 in
set_option maxHeartbeats 4000000 in
theorem kt_X12_plan {l : Launch} {V : Vx} {a1 : Int32} {σ0 : Sg} {Qk : Int32 → Sg → Prop} (m0 : MI σ0) (h9ret : ∀ (r : Int32) (σ' : Sg), MI σ' → Fr [74, 147] [45] σ0 σ' → (PBA r a1 (gi σ0 74 45) (gi σ' 74 45) (2) 10) → Qk r σ') : K_X12_plan l V a1 σ0 Qk := by
  refine e_X12_plan (fun M hl hV hN C => ?_)
  subst hl
  subst hV
  have f0 : Fr [74, 147] [45] σ0 σ0 := Fr_rf
  refine s_X12_plan_0 C hN ?_
  refine ⟨?_, ?_⟩
  · intro q_1
    have w_2 := Int32.toInt_lt a1
    have w_3 := Int32.le_toInt a1
    have b_4 : ¬ a1.toInt = (-1) := fun h9 => q_1 (Int32.toInt_inj.mp h9)
    refine k_X12_in m0  (fun r3 σ2 mσ2 cσ2 plσ2 phσ2 (pσ2_0 : (r3.toInt = 1 ∧ (0 : Int) ≤ a1.toInt ∧ a1.toInt ≤ (2 : Int)) ∨ (r3.toInt = 0 ∧ (a1.toInt < (0 : Int) ∨ (2 : Int) < a1.toInt))) => ?_)
    obtain rfl := Fr_nil cσ2
    refine ⟨?_, ?_⟩
    · intro q_5
      have b_6 : ¬ r3.toInt = 0 := fun h9 => q_5 (Int32.toInt_inj.mp h9)
      refine ⟨?_, ?_⟩
      · intro q_7
        have t_8 := MI_f45 m0
        have b_9 : ¬ (gi σ0 74 45).toInt = 10 := fun h9 => q_7 (Int32.toInt_inj.mp h9)
        have hv_10 : vp_in (gi σ0 74 45) 10 := vp_in_iff.mpr ⟨by omega, by omega⟩
        refine ⟨hv_10, ?_⟩
        intro σ7 eσ7
        have mσ7 : MI σ7 := by rw [eσ7]; exact MIs_au (a := 147) m0 rfl rfl
        have fσ7 : Fr [74, 147] [45] σ0 σ7 := by rw [eσ7]; exact Fr_si f0 (by decide) (fun h9 => absurd h9 (by decide))
        have k_11 : (gi σ7 74 45).toInt = (gi σ0 74 45).toInt := by rw [eσ7]; exact congrArg Int32.toInt (gi_si_ne (Or.inl (by decide)))
        intro σ8 eσ8
        have t_12 := MI_f45 mσ7
        have t_13 : ((gi σ7 74 45) + (1 : Int32)).toInt = (gi σ7 74 45).toInt + 1 := i_add (x := (gi σ7 74 45)) (y := (1 : Int32)) (by show (_ : Int) ≤ (gi σ7 74 45).toInt + 1; omega) (by show (gi σ7 74 45).toInt + 1 ≤ (_ : Int); omega)
        have mσ8 : MI σ8 := by rw [eσ8]; exact MIs_f45 mσ7 (by omega) (by omega)
        have fσ8 : Fr [74, 147] [45] σ0 σ8 := by rw [eσ8]; exact Fr_si fσ7 (by decide) (fun _ => by decide)
        have k_14 : (gi σ8 74 45).toInt = ((gi σ7 74 45) + (1 : Int32)).toInt := by rw [eσ8]; exact congrArg Int32.toInt gi_si_eq
        have t_15 := MI_f45 mσ8
        exact h9ret (gi σ8 74 45) σ8 mσ8 fσ8 (by first | assumption | exact PBA_0 (by omega) | exact PBA_1 (by omega) | exact PBA_2 (by omega) | exact PBA_3 (by omega))
      · intro q_7
        have t_16 := MI_f45 m0
        have b_17 : (gi σ0 74 45).toInt = 10 := congrArg Int32.toInt q_7
        have z_18 : (-4 : Int32).toInt = -4 := rfl
        exact h9ret (-4 : Int32) σ0 m0 f0 (by first | assumption | exact PBA_0 (by omega) | exact PBA_1 (by omega) | exact PBA_2 (by omega) | exact PBA_3 (by omega))
    · intro q_5
      have b_19 : r3.toInt = 0 := congrArg Int32.toInt q_5
      have z_20 : (-1 : Int32).toInt = -1 := rfl
      exact h9ret (-1 : Int32) σ0 m0 f0 (by first | assumption | exact PBA_0 (by omega) | exact PBA_1 (by omega) | exact PBA_2 (by omega) | exact PBA_3 (by omega))
  · intro q_1
    have w_21 := Int32.toInt_lt a1
    have w_22 := Int32.le_toInt a1
    have b_23 : a1.toInt = (-1) := congrArg Int32.toInt q_1
    intro σ9 eσ9
    have z_24 : (0 : Int32).toInt = 0 := rfl
    have mσ9 : MI σ9 := by rw [eσ9]; exact MIs_f45 m0 (by omega) (by omega)
    have fσ9 : Fr [74, 147] [45] σ0 σ9 := by rw [eσ9]; exact Fr_si f0 (by decide) (fun _ => by decide)
    have k_25 : (gi σ9 74 45).toInt = 0 := by rw [eσ9]; exact congrArg Int32.toInt gi_si_eq
    exact h9ret (0 : Int32) σ9 mσ9 fσ9 (by first | assumption | exact PBA_0 (by omega) | exact PBA_1 (by omega) | exact PBA_2 (by omega) | exact PBA_3 (by omega))
set_option maxRecDepth 100000 in
set_option maxHeartbeats 4000000 in
theorem kt_X12_book {l : Launch} {V : Vx} {a1 : Int32} {σ0 : Sg} {Qk : Int32 → Sg → Prop} (m0 : MI σ0) (h9ret : ∀ (r : Int32) (σ' : Sg), MI σ' → Fr [74, 148] [46] σ0 σ' → (PBA r a1 (gi σ0 74 46) (gi σ' 74 46) ((gi σ0 74 0).toInt - 1) 8) → Qk r σ') : K_X12_book l V a1 σ0 Qk := by
  refine e_X12_book (fun M hl hV hN C => ?_)
  subst hl
  subst hV
  have f0 : Fr [74, 148] [46] σ0 σ0 := Fr_rf
  refine s_X12_book_0 C hN ?_
  refine ⟨?_, ?_⟩
  · intro q_1
    have w_2 := Int32.toInt_lt a1
    have w_3 := Int32.le_toInt a1
    have b_4 : ¬ a1.toInt = (-1) := fun h9 => q_1 (Int32.toInt_inj.mp h9)
    refine k_X12_isMower m0  (fun r3 σ2 mσ2 cσ2 plσ2 phσ2 (pσ2_0 : (r3.toInt = 1 ∧ 0 ≤ a1.toInt ∧ a1.toInt < (gi σ0 74 0).toInt) ∨ (r3.toInt = 0 ∧ (a1.toInt < 0 ∨ (gi σ0 74 0).toInt ≤ a1.toInt))) => ?_)
    obtain rfl := Fr_nil cσ2
    have t_5 := MI_f0 m0
    refine ⟨?_, ?_⟩
    · intro q_6
      have b_7 : ¬ r3.toInt = 0 := fun h9 => q_6 (Int32.toInt_inj.mp h9)
      refine ⟨?_, ?_⟩
      · intro q_8
        have t_9 := MI_f46 m0
        have b_10 : ¬ (gi σ0 74 46).toInt = 8 := fun h9 => q_8 (Int32.toInt_inj.mp h9)
        have hv_11 : vp_in (gi σ0 74 46) 8 := vp_in_iff.mpr ⟨by omega, by omega⟩
        refine ⟨hv_11, ?_⟩
        intro σ7 eσ7
        have mσ7 : MI σ7 := by rw [eσ7]; exact MIs_au (a := 148) m0 rfl rfl
        have fσ7 : Fr [74, 148] [46] σ0 σ7 := by rw [eσ7]; exact Fr_si f0 (by decide) (fun h9 => absurd h9 (by decide))
        have k_12 : (gi σ7 74 0).toInt = (gi σ0 74 0).toInt := by rw [eσ7]; exact congrArg Int32.toInt (gi_si_ne (Or.inl (by decide)))
        have k_13 : (gi σ7 74 46).toInt = (gi σ0 74 46).toInt := by rw [eσ7]; exact congrArg Int32.toInt (gi_si_ne (Or.inl (by decide)))
        intro σ8 eσ8
        have t_14 := MI_f46 mσ7
        have t_15 : ((gi σ7 74 46) + (1 : Int32)).toInt = (gi σ7 74 46).toInt + 1 := i_add (x := (gi σ7 74 46)) (y := (1 : Int32)) (by show (_ : Int) ≤ (gi σ7 74 46).toInt + 1; omega) (by show (gi σ7 74 46).toInt + 1 ≤ (_ : Int); omega)
        have mσ8 : MI σ8 := by rw [eσ8]; exact MIs_f46 mσ7 (by omega) (by omega)
        have fσ8 : Fr [74, 148] [46] σ0 σ8 := by rw [eσ8]; exact Fr_si fσ7 (by decide) (fun _ => by decide)
        have k_16 : (gi σ8 74 0).toInt = (gi σ7 74 0).toInt := by rw [eσ8]; exact congrArg Int32.toInt (gi_si_ne (Or.inr (by decide)))
        have k_17 : (gi σ8 74 46).toInt = ((gi σ7 74 46) + (1 : Int32)).toInt := by rw [eσ8]; exact congrArg Int32.toInt gi_si_eq
        have t_18 := MI_f46 mσ8
        exact h9ret (gi σ8 74 46) σ8 mσ8 fσ8 (by first | assumption | exact PBA_0 (by omega) | exact PBA_1 (by omega) | exact PBA_2 (by omega) | exact PBA_3 (by omega))
      · intro q_8
        have t_19 := MI_f46 m0
        have b_20 : (gi σ0 74 46).toInt = 8 := congrArg Int32.toInt q_8
        have z_21 : (-4 : Int32).toInt = -4 := rfl
        exact h9ret (-4 : Int32) σ0 m0 f0 (by first | assumption | exact PBA_0 (by omega) | exact PBA_1 (by omega) | exact PBA_2 (by omega) | exact PBA_3 (by omega))
    · intro q_6
      have b_22 : r3.toInt = 0 := congrArg Int32.toInt q_6
      have z_23 : (-1 : Int32).toInt = -1 := rfl
      exact h9ret (-1 : Int32) σ0 m0 f0 (by first | assumption | exact PBA_0 (by omega) | exact PBA_1 (by omega) | exact PBA_2 (by omega) | exact PBA_3 (by omega))
  · intro q_1
    have w_24 := Int32.toInt_lt a1
    have w_25 := Int32.le_toInt a1
    have b_26 : a1.toInt = (-1) := congrArg Int32.toInt q_1
    intro σ9 eσ9
    have z_27 : (0 : Int32).toInt = 0 := rfl
    have mσ9 : MI σ9 := by rw [eσ9]; exact MIs_f46 m0 (by omega) (by omega)
    have fσ9 : Fr [74, 148] [46] σ0 σ9 := by rw [eσ9]; exact Fr_si f0 (by decide) (fun _ => by decide)
    have k_28 : (gi σ9 74 0).toInt = (gi σ0 74 0).toInt := by rw [eσ9]; exact congrArg Int32.toInt (gi_si_ne (Or.inr (by decide)))
    have k_29 : (gi σ9 74 46).toInt = 0 := by rw [eσ9]; exact congrArg Int32.toInt gi_si_eq
    exact h9ret (0 : Int32) σ9 mσ9 fσ9 (by first | assumption | exact PBA_0 (by omega) | exact PBA_1 (by omega) | exact PBA_2 (by omega) | exact PBA_3 (by omega))
