/-! tape's answers: by the arguments alone -/
def TPA (r a1 a2 a3 : Int32) : Prop := ((a1.toInt < 0 ∨ 5 < a1.toInt) → r.toInt = -1) ∧ (0 ≤ a1.toInt → a1.toInt ≤ 5 → (a2.toInt = -1 → r.toInt = 1) ∧ ((a2.toInt < -1 ∨ 4 < a2.toInt ∨ (0 ≤ a2.toInt ∧ 60 < a3.toInt)) → r.toInt = -2) ∧ (0 ≤ a2.toInt → a2.toInt ≤ 4 → a3.toInt < 0 → r.toInt = -14) ∧ (0 ≤ a2.toInt → a2.toInt ≤ 4 → 0 ≤ a3.toInt → a3.toInt ≤ 60 → r.toInt = 1))
theorem TPA_eq {r r' a1 a2 a3 : Int32} (h : TPA r a1 a2 a3) (h' : TPA r' a1 a2 a3) : r = r' := by
  have e : r.toInt = r'.toInt := by
    obtain ⟨h1, h2⟩ := h
    obtain ⟨g1, g2⟩ := h'
    by_cases b0 : a1.toInt < 0 ∨ 5 < a1.toInt
    · rw [h1 b0, g1 b0]
    · obtain ⟨h3, h4, h5, h6⟩ := h2 (by omega) (by omega)
      obtain ⟨g3, g4, g5, g6⟩ := g2 (by omega) (by omega)
      by_cases b1 : a2.toInt = -1
      · rw [h3 b1, g3 b1]
      · by_cases b2 : a2.toInt < -1 ∨ 4 < a2.toInt ∨ (0 ≤ a2.toInt ∧ 60 < a3.toInt)
        · rw [h4 b2, g4 b2]
        · by_cases b3 : a3.toInt < 0
          · rw [h5 (by omega) (by omega) b3, g5 (by omega) (by omega) b3]
          · rw [h6 (by omega) (by omega) (by omega) (by omega), g6 (by omega) (by omega) (by omega) (by omega)]
  exact Int32.toInt_inj.mp e
theorem TPA_0 {a1 a2 a3 : Int32} (h : a1.toInt < 0 ∨ 5 < a1.toInt) : TPA (-1) a1 a2 a3 := ⟨fun _ => rfl, fun _ _ => by omega⟩
theorem TPA_1 {a1 a2 a3 : Int32} (h : 0 ≤ a1.toInt ∧ a1.toInt ≤ 5 ∧ (a2.toInt = -1 ∨ (0 ≤ a2.toInt ∧ a2.toInt ≤ 4 ∧ 0 ≤ a3.toInt ∧ a3.toInt ≤ 60))) : TPA 1 a1 a2 a3 := ⟨fun _ => by omega, fun _ _ => ⟨fun _ => rfl, fun _ => by omega, fun _ _ _ => by omega, fun _ _ _ _ => rfl⟩⟩
theorem TPA_2 {a1 a2 a3 : Int32} (h : 0 ≤ a1.toInt ∧ a1.toInt ≤ 5 ∧ (a2.toInt < -1 ∨ 4 < a2.toInt ∨ (0 ≤ a2.toInt ∧ 60 < a3.toInt))) : TPA (-2) a1 a2 a3 := ⟨fun _ => by omega, fun _ _ => ⟨fun _ => by omega, fun _ => rfl, fun _ _ _ => by omega, fun _ _ _ _ => by omega⟩⟩
theorem TPA_14 {a1 a2 a3 : Int32} (h : 0 ≤ a1.toInt ∧ a1.toInt ≤ 5 ∧ 0 ≤ a2.toInt ∧ a2.toInt ≤ 4 ∧ a3.toInt < 0) : TPA (-14) a1 a2 a3 := ⟨fun _ => by omega, fun _ _ => ⟨fun _ => by omega, fun _ => by omega, fun _ _ _ => rfl, fun _ _ _ _ => by omega⟩⟩
set_option maxRecDepth 100000 in
set_option maxHeartbeats 4000000 in
theorem kt_X11_tape {l : Launch} {V : Vx} {a1 : Int32} {a2 : Int32} {a3 : Int32} {σ0 : Sg} {Qk : Int32 → Sg → Prop} (m0 : XI V σ0) (h9ret : ∀ (r : Int32) (σ' : Sg), XI V σ' → FX (fun id => (53 ≤ id ∧ id ≤ 63)) (fun id k => (52 ≤ id ∧ id ≤ 62)) σ0 σ' → (TPA r a1 a2 a3) → Qk r σ') : K_X11_tape l V a1 a2 a3 σ0 Qk := by
  refine e_X11_tape (fun M hl hV hN C => ?_)
  subst hl
  subst hV
  have f0 : FX (fun id => (53 ≤ id ∧ id ≤ 63)) (fun id k => (52 ≤ id ∧ id ≤ 62)) σ0 σ0 := FX_rf
  refine s_X11_tape_0 C hN  ?_
  refine k_X11_isTape  m0   (fun r2 σ1 mσ1 cσ1 plσ1 phσ1 (pσ1_0 : (r2.toInt = 1 ∧ 0 ≤ a1.toInt ∧ a1.toInt ≤ 5) ∨ (r2.toInt = 0 ∧ (a1.toInt < 0 ∨ 5 < a1.toInt))) => ?_)
  obtain rfl := FX_nil cσ1
  refine ⟨?_, ?_⟩
  · intro q_1
    have b_2 : ¬ r2.toInt = 0 := fun h9 => q_1 (Int32.toInt_inj.mp h9)
    refine ⟨?_, ?_⟩
    · intro q_3
      have w_4 := Int32.toInt_lt a2
      have w_5 := Int32.le_toInt a2
      have b_6 : ¬ a2.toInt = (-1) := fun h9 => q_3 (Int32.toInt_inj.mp h9)
      refine ⟨?_, ?_⟩
      · intro q_7
        have b_8 : a2.toInt < (-1) := Int32.lt_iff_toInt_lt.mp q_7
        have z_9 : (-2 : Int32).toInt = -2 := rfl
        exact h9ret (-2 : Int32) σ0 m0 f0 (by first | assumption | exact TPA_0 (by omega) | exact TPA_1 (by omega) | exact TPA_2 (by omega) | exact TPA_14 (by omega))
      · intro q_7
        have b_10 : ¬ a2.toInt < (-1) := fun h9 => q_7 (Int32.lt_iff_toInt_lt.mpr h9)
        refine ⟨?_, ?_⟩
        · intro q_11
          have b_12 : (4 : Int) < a2.toInt := Int32.lt_iff_toInt_lt.mp q_11
          have z_13 : (-2 : Int32).toInt = -2 := rfl
          exact h9ret (-2 : Int32) σ0 m0 f0 (by first | assumption | exact TPA_0 (by omega) | exact TPA_1 (by omega) | exact TPA_2 (by omega) | exact TPA_14 (by omega))
        · intro q_11
          have b_14 : ¬ (4 : Int) < a2.toInt := fun h9 => q_11 (Int32.lt_iff_toInt_lt.mpr h9)
          refine ⟨?_, ?_⟩
          · intro q_15
            have w_16 := Int32.toInt_lt a3
            have w_17 := Int32.le_toInt a3
            have b_18 : a3.toInt ≤ 60 := Int32.le_iff_toInt_le.mp q_15
            refine ⟨?_, ?_⟩
            · intro q_19
              have b_20 : (0 : Int) ≤ a3.toInt := Int32.le_iff_toInt_le.mp q_19
              have w_21 := Int32.toInt_lt a1
              have w_22 := Int32.le_toInt a1
              have hv_23 : vp_in a1 6 := vp_in_iff.mpr ⟨by omega, by omega⟩
              refine ⟨hv_23, ?_⟩
              have ec_24 := cl_eq (x := a1) (by omega)
              refine k_X9_becomes (isT_of hv_23) m0  (by omega) (by omega) (by omega) (by omega) (fun σ10 mσ10 cσ10 => ?_)
              have fσ10 : FX (fun id => (53 ≤ id ∧ id ≤ 63)) (fun id k => (52 ≤ id ∧ id ≤ 62)) σ0 σ10 := FX_tr f0 cσ10 (fun x (h9 : x = 52 + 2 * a1.toNatClampNeg + 1) => (show (53 ≤ x ∧ x ≤ 63) from ⟨by omega, by omega⟩)) (fun x k (h9 : (x = 52 + 2 * a1.toNatClampNeg ∧ k = 1) ∨ (x = 52 + 2 * a1.toNatClampNeg ∧ k = 2)) => (show ((53 ≤ x ∧ x ≤ 63)) ∨ ((52 ≤ x ∧ x ≤ 62)) from h9.elim (fun e9 => Or.inr (show (52 ≤ x ∧ x ≤ 62) from ⟨by omega, by omega⟩)) (fun h9 => Or.inr (show (52 ≤ x ∧ x ≤ 62) from ⟨by omega, by omega⟩))))
              have z_25 : (1 : Int32).toInt = 1 := rfl
              exact h9ret (1 : Int32) σ10 mσ10 fσ10 (by first | assumption | exact TPA_0 (by omega) | exact TPA_1 (by omega) | exact TPA_2 (by omega) | exact TPA_14 (by omega))
            · intro q_19
              have b_26 : ¬ (0 : Int) ≤ a3.toInt := fun h9 => q_19 (Int32.le_iff_toInt_le.mpr h9)
              have z_27 : (-14 : Int32).toInt = -14 := rfl
              exact h9ret (-14 : Int32) σ0 m0 f0 (by first | assumption | exact TPA_0 (by omega) | exact TPA_1 (by omega) | exact TPA_2 (by omega) | exact TPA_14 (by omega))
          · intro q_15
            have w_28 := Int32.toInt_lt a3
            have w_29 := Int32.le_toInt a3
            have b_30 : ¬ a3.toInt ≤ 60 := fun h9 => q_15 (Int32.le_iff_toInt_le.mpr h9)
            have z_31 : (-2 : Int32).toInt = -2 := rfl
            exact h9ret (-2 : Int32) σ0 m0 f0 (by first | assumption | exact TPA_0 (by omega) | exact TPA_1 (by omega) | exact TPA_2 (by omega) | exact TPA_14 (by omega))
    · intro q_3
      have w_32 := Int32.toInt_lt a2
      have w_33 := Int32.le_toInt a2
      have b_34 : a2.toInt = (-1) := congrArg Int32.toInt q_3
      have w_35 := Int32.toInt_lt a1
      have w_36 := Int32.le_toInt a1
      have hv_37 : vp_in a1 6 := vp_in_iff.mpr ⟨by omega, by omega⟩
      refine ⟨hv_37, ?_⟩
      have ec_38 := cl_eq (x := a1) (by omega)
      have z_39 : (-1 : Int32).toInt = -1 := rfl
      have z_40 : (0 : Int32).toInt = 0 := rfl
      refine k_X9_becomes (isT_of hv_37) m0  (by omega) (by omega) (by omega) (by omega) (fun σ12 mσ12 cσ12 => ?_)
      have fσ12 : FX (fun id => (53 ≤ id ∧ id ≤ 63)) (fun id k => (52 ≤ id ∧ id ≤ 62)) σ0 σ12 := FX_tr f0 cσ12 (fun x (h9 : x = 52 + 2 * a1.toNatClampNeg + 1) => (show (53 ≤ x ∧ x ≤ 63) from ⟨by omega, by omega⟩)) (fun x k (h9 : (x = 52 + 2 * a1.toNatClampNeg ∧ k = 1) ∨ (x = 52 + 2 * a1.toNatClampNeg ∧ k = 2)) => (show ((53 ≤ x ∧ x ≤ 63)) ∨ ((52 ≤ x ∧ x ≤ 62)) from h9.elim (fun e9 => Or.inr (show (52 ≤ x ∧ x ≤ 62) from ⟨by omega, by omega⟩)) (fun h9 => Or.inr (show (52 ≤ x ∧ x ≤ 62) from ⟨by omega, by omega⟩))))
      have z_41 : (1 : Int32).toInt = 1 := rfl
      exact h9ret (1 : Int32) σ12 mσ12 fσ12 (by first | assumption | exact TPA_0 (by omega) | exact TPA_1 (by omega) | exact TPA_2 (by omega) | exact TPA_14 (by omega))
  · intro q_1
    have b_42 : r2.toInt = 0 := congrArg Int32.toInt q_1
    have z_43 : (-1 : Int32).toInt = -1 := rfl
    exact h9ret (-1 : Int32) σ0 m0 f0 (by first | assumption | exact TPA_0 (by omega) | exact TPA_1 (by omega) | exact TPA_2 (by omega) | exact TPA_14 (by omega))
set_option maxRecDepth 100000 in
set_option maxHeartbeats 4000000 in
theorem kt_X12_tape {l : Launch} {V : Vx} {a1 : Int32} {a2 : Int32} {a3 : Int32} {σ0 : Sg} {Qk : Int32 → Sg → Prop} (m0 : MI σ0) (h9ret : ∀ (r : Int32) (σ' : Sg), MI σ' → Fr [171, 172, 173] [] σ0 σ' → (TPA r a1 a2 a3) → Qk r σ') : K_X12_tape l V a1 a2 a3 σ0 Qk := by
  refine e_X12_tape (fun M hl hV hN C => ?_)
  subst hl
  subst hV
  have T : ∀ n : Nat, (∀ (x1 : Int32) (x2 : Int32) (x3 : Int32) (σ : Sg), MI σ → Fr [171, 172, 173] [] σ0 σ → (0 ≤ x1.toInt) → (x1.toInt ≤ 5) → (-1 ≤ x2.toInt) → (x2.toInt ≤ 4) → (x2.toInt < 0 ∨ (0 ≤ x3.toInt ∧ x3.toInt ≤ 60)) → (TPA 1 a1 a2 a3) → 100 < n → PS M 44 [(0, .ref 74), (1, .int x1), (2, .int x2), (3, .int x3)] [] σ (0, 0)) ∧ (∀ (x1 : Int32) (x4 : Int32) (σ : Sg), MI σ → Fr [171, 172, 173] [] σ0 σ → (0 ≤ x1.toInt) → (x1.toInt ≤ 5) → (0 ≤ x4.toInt) → (x4.toInt ≤ 60) → (TPA 1 a1 a2 a3) → (61 - x4.toInt).toNat < n → PS M 69 [(0, .ref 74), (1, .int x1), (4, .int x4)] [] σ (0, 0)) := by
    intro n
    induction n with
    | zero => exact ⟨fun _ _ _ _ _ _ _ _ _ _ _ _ h8 => absurd h8 (Nat.not_lt_zero _), fun _ _ _ _ _ _ _ _ _ _ h8 => absurd h8 (Nat.not_lt_zero _)⟩
    | succ n ih =>
      obtain ⟨ih44, ih69⟩ := ih
      refine ⟨?_, ?_⟩
      · intro x1 x2 x3 σ mσ fσ lx1 ux1 lx2 ux2 i0 i1 hmu
        refine s_X12_tape_44 C hN ?_
        have hv_1 : vp_in x1 6 := vp_in_iff.mpr ⟨by omega, by omega⟩
        refine ⟨hv_1, ?_⟩
        intro σ2 eσ2
        have mσ2 : MI σ2 := by rw [eσ2]; exact MIs_a171 mσ (by omega) (by omega)
        have fσ2 : Fr [171, 172, 173] [] σ0 σ2 := by rw [eσ2]; exact Fr_si fσ (by decide) (fun h9 => absurd h9 (by decide))
        refine ⟨?_, ?_⟩
        · intro q_2
          have b_3 : (0 : Int) ≤ x2.toInt := Int32.le_iff_toInt_le.mp q_2
          refine ⟨hv_1, ?_⟩
          intro σ5 eσ5
          have w_4 := Int32.toInt_lt x3
          have w_5 := Int32.le_toInt x3
          have mσ5 : MI σ5 := by rw [eσ5]; exact MIs_a172 mσ2 (by omega) (by omega)
          have fσ5 : Fr [171, 172, 173] [] σ0 σ5 := by rw [eσ5]; exact Fr_si fσ2 (by decide) (fun h9 => absurd h9 (by decide))
          have z_6 : (0 : Int32).toInt = 0 := rfl
          exact ih69 x1 (0 : Int32) σ5 mσ5 fσ5 (by omega) (by omega) (by omega) (by omega) (by first | assumption | exact TPA_0 (by omega) | exact TPA_1 (by omega) | exact TPA_2 (by omega) | exact TPA_14 (by omega)) (by omega)
        · intro q_2
          have b_7 : ¬ (0 : Int) ≤ x2.toInt := fun h9 => q_2 (Int32.le_iff_toInt_le.mpr h9)
          refine ⟨hv_1, ?_⟩
          intro σ7 eσ7
          have z_8 : (0 : Int32).toInt = 0 := rfl
          have mσ7 : MI σ7 := by rw [eσ7]; exact MIs_a172 mσ2 (by omega) (by omega)
          have fσ7 : Fr [171, 172, 173] [] σ0 σ7 := by rw [eσ7]; exact Fr_si fσ2 (by decide) (fun h9 => absurd h9 (by decide))
          exact ih69 x1 (0 : Int32) σ7 mσ7 fσ7 (by omega) (by omega) (by omega) (by omega) (by first | assumption | exact TPA_0 (by omega) | exact TPA_1 (by omega) | exact TPA_2 (by omega) | exact TPA_14 (by omega)) (by omega)
      · intro x1 x4 σ mσ fσ lx1 ux1 lx4 ux4 i0 hmu
        refine s_X12_tape_69 C hN ?_
        refine ⟨?_, ?_⟩
        · intro q_9
          have b_10 : (60 : Int) ≤ x4.toInt := Int32.le_iff_toInt_le.mp q_9
          have z_11 : (1 : Int32).toInt = 1 := rfl
          exact h9ret (1 : Int32) σ mσ fσ (by first | assumption | exact TPA_0 (by omega) | exact TPA_1 (by omega) | exact TPA_2 (by omega) | exact TPA_14 (by omega))
        · intro q_9
          have b_12 : ¬ (60 : Int) ≤ x4.toInt := fun h9 => q_9 (Int32.le_iff_toInt_le.mpr h9)
          have t_13 : ((60 : Int32) * x1).toInt = 60 * x1.toInt := i_mull rfl (by omega) (by omega)
          have t_14 : (((60 : Int32) * x1) + x4).toInt = ((60 : Int32) * x1).toInt + x4.toInt := i_add (x := ((60 : Int32) * x1)) (y := x4) (by show (_ : Int) ≤ ((60 : Int32) * x1).toInt + x4.toInt; omega) (by show ((60 : Int32) * x1).toInt + x4.toInt ≤ (_ : Int); omega)
          have hv_15 : vp_in (((60 : Int32) * x1) + x4) 360 := vp_in_iff.mpr ⟨by omega, by omega⟩
          refine ⟨hv_15, ?_⟩
          intro σ3 eσ3
          have mσ3 : MI σ3 := by rw [eσ3]; exact MIs_l mσ
          have fσ3 : Fr [171, 172, 173] [] σ0 σ3 := by rw [eσ3]; exact Fr_sl fσ (by decide)
          intro v4 ev4
          have t_16 : (x4 + (1 : Int32)).toInt = x4.toInt + 1 := i_add (x := x4) (y := (1 : Int32)) (by show (_ : Int) ≤ x4.toInt + 1; omega) (by show x4.toInt + 1 ≤ (_ : Int); omega)
          have t_17 : v4.toInt = (x4 + (1 : Int32)).toInt := congrArg Int32.toInt ev4
          exact ih69 x1 v4 σ3 mσ3 fσ3 (by omega) (by omega) (by omega) (by omega) (by first | assumption | exact TPA_0 (by omega) | exact TPA_1 (by omega) | exact TPA_2 (by omega) | exact TPA_14 (by omega)) (by omega)
  obtain ⟨U44, U69⟩ := T 200
  have f0 : Fr [171, 172, 173] [] σ0 σ0 := Fr_rf
  refine s_X12_tape_0 C hN ?_
  refine k_X12_isTape m0  (fun r2 σ1 mσ1 cσ1 plσ1 phσ1 (pσ1_0 : (r2.toInt = 1 ∧ 0 ≤ a1.toInt ∧ a1.toInt ≤ 5) ∨ (r2.toInt = 0 ∧ (a1.toInt < 0 ∨ 5 < a1.toInt))) => ?_)
  obtain rfl := Fr_nil cσ1
  refine ⟨?_, ?_⟩
  · intro q_18
    have b_19 : ¬ r2.toInt = 0 := fun h9 => q_18 (Int32.toInt_inj.mp h9)
    refine k_X12_in m0  (fun r5 σ4 mσ4 cσ4 plσ4 phσ4 (pσ4_0 : (r5.toInt = 1 ∧ ((-1) : Int) ≤ a2.toInt ∧ a2.toInt ≤ (4 : Int)) ∨ (r5.toInt = 0 ∧ (a2.toInt < ((-1) : Int) ∨ (4 : Int) < a2.toInt))) => ?_)
    obtain rfl := Fr_nil cσ4
    refine ⟨?_, ?_⟩
    · intro q_20
      have b_21 : r5.toInt = 0 := congrArg Int32.toInt q_20
      have z_22 : (-2 : Int32).toInt = -2 := rfl
      exact h9ret (-2 : Int32) σ0 m0 f0 (by first | assumption | exact TPA_0 (by omega) | exact TPA_1 (by omega) | exact TPA_2 (by omega) | exact TPA_14 (by omega))
    · intro q_20
      have b_23 : ¬ r5.toInt = 0 := fun h9 => q_20 (Int32.toInt_inj.mp h9)
      refine ⟨?_, ?_⟩
      · intro q_24
        have w_25 := Int32.toInt_lt a2
        have w_26 := Int32.le_toInt a2
        have b_27 : a2.toInt < 0 := Int32.lt_iff_toInt_lt.mp q_24
        refine ⟨?_, ?_⟩
        · intro q_28
          have b_29 : a2.toInt < 0 := Int32.lt_iff_toInt_lt.mp q_28
          exact U44 a1 a2 a3 σ0 m0 f0 (by omega) (by omega) (by omega) (by omega) (by first | rfl | assumption | omega) (by first | assumption | exact TPA_0 (by omega) | exact TPA_1 (by omega) | exact TPA_2 (by omega) | exact TPA_14 (by omega)) (by omega)
        · intro q_28
          have b_30 : ¬ a2.toInt < 0 := fun h9 => q_28 (Int32.lt_iff_toInt_lt.mpr h9)
          refine ⟨?_, ?_⟩
          · intro q_31
            have w_32 := Int32.toInt_lt a3
            have w_33 := Int32.le_toInt a3
            have b_34 : (0 : Int) ≤ a3.toInt := Int32.le_iff_toInt_le.mp q_31
            exact U44 a1 a2 a3 σ0 m0 f0 (by omega) (by omega) (by omega) (by omega) (by first | rfl | assumption | omega) (by first | assumption | exact TPA_0 (by omega) | exact TPA_1 (by omega) | exact TPA_2 (by omega) | exact TPA_14 (by omega)) (by omega)
          · intro q_31
            have w_35 := Int32.toInt_lt a3
            have w_36 := Int32.le_toInt a3
            have b_37 : ¬ (0 : Int) ≤ a3.toInt := fun h9 => q_31 (Int32.le_iff_toInt_le.mpr h9)
            have z_38 : (-14 : Int32).toInt = -14 := rfl
            exact h9ret (-14 : Int32) σ0 m0 f0 (by first | assumption | exact TPA_0 (by omega) | exact TPA_1 (by omega) | exact TPA_2 (by omega) | exact TPA_14 (by omega))
      · intro q_24
        have w_39 := Int32.toInt_lt a2
        have w_40 := Int32.le_toInt a2
        have b_41 : ¬ a2.toInt < 0 := fun h9 => q_24 (Int32.lt_iff_toInt_lt.mpr h9)
        refine ⟨?_, ?_⟩
        · intro q_42
          have w_43 := Int32.toInt_lt a3
          have w_44 := Int32.le_toInt a3
          have b_45 : a3.toInt ≤ 60 := Int32.le_iff_toInt_le.mp q_42
          refine ⟨?_, ?_⟩
          · intro q_46
            have b_47 : a2.toInt < 0 := Int32.lt_iff_toInt_lt.mp q_46
            exact U44 a1 a2 a3 σ0 m0 f0 (by omega) (by omega) (by omega) (by omega) (by first | rfl | assumption | omega) (by first | assumption | exact TPA_0 (by omega) | exact TPA_1 (by omega) | exact TPA_2 (by omega) | exact TPA_14 (by omega)) (by omega)
          · intro q_46
            have b_48 : ¬ a2.toInt < 0 := fun h9 => q_46 (Int32.lt_iff_toInt_lt.mpr h9)
            refine ⟨?_, ?_⟩
            · intro q_49
              have b_50 : (0 : Int) ≤ a3.toInt := Int32.le_iff_toInt_le.mp q_49
              exact U44 a1 a2 a3 σ0 m0 f0 (by omega) (by omega) (by omega) (by omega) (by first | rfl | assumption | omega) (by first | assumption | exact TPA_0 (by omega) | exact TPA_1 (by omega) | exact TPA_2 (by omega) | exact TPA_14 (by omega)) (by omega)
            · intro q_49
              have b_51 : ¬ (0 : Int) ≤ a3.toInt := fun h9 => q_49 (Int32.le_iff_toInt_le.mpr h9)
              have z_52 : (-14 : Int32).toInt = -14 := rfl
              exact h9ret (-14 : Int32) σ0 m0 f0 (by first | assumption | exact TPA_0 (by omega) | exact TPA_1 (by omega) | exact TPA_2 (by omega) | exact TPA_14 (by omega))
        · intro q_42
          have w_53 := Int32.toInt_lt a3
          have w_54 := Int32.le_toInt a3
          have b_55 : ¬ a3.toInt ≤ 60 := fun h9 => q_42 (Int32.le_iff_toInt_le.mpr h9)
          have z_56 : (-2 : Int32).toInt = -2 := rfl
          exact h9ret (-2 : Int32) σ0 m0 f0 (by first | assumption | exact TPA_0 (by omega) | exact TPA_1 (by omega) | exact TPA_2 (by omega) | exact TPA_14 (by omega))
  · intro q_18
    have b_57 : r2.toInt = 0 := congrArg Int32.toInt q_18
    have z_58 : (-1 : Int32).toInt = -1 := rfl
    exact h9ret (-1 : Int32) σ0 m0 f0 (by first | assumption | exact TPA_0 (by omega) | exact TPA_1 (by omega) | exact TPA_2 (by omega) | exact TPA_14 (by omega))
