set_option maxRecDepth 100000 in
set_option maxHeartbeats 4000000 in
theorem k_X12_letterAt {l : Launch} {V : Vx} {a1 : Int32} {σ0 : Sg} {Qk : Int32 → Sg → Prop} (m0 : MI σ0) (h9ret : ∀ (r : Int32) (σ' : Sg), MI σ' → Fr [] [] σ0 σ' → (-1 ≤ r.toInt) → (r.toInt ≤ 5) → (r.toInt = -1 ∨ 0 ≤ a1.toInt) → Qk r σ') : K_X12_letterAt l V a1 σ0 Qk := by
  refine e_X12_letterAt (fun M hl hV hN C => ?_)
  subst hl
  subst hV
  have f0 : Fr [] [] σ0 σ0 := Fr_rf
  refine s_X12_letterAt_0 C hN ?_
  refine ⟨?_, ?_, ?_, ?_, ?_, ?_, ?_, ?_, ?_, ?_, ?_, ?_, ?_, ?_, ?_, ?_, ?_, ?_⟩
  · intro q_1
    have z_2 : (-1 : Int32).toInt = -1 := rfl
    exact h9ret (-1 : Int32) σ0 m0 f0 (by omega) (by omega) (by first | omega | assumption | rfl)
  · intro q_1
    have z_3 : (5 : Int32).toInt = 5 := rfl
    exact h9ret (5 : Int32) σ0 m0 f0 (by omega) (by omega) (by first | omega | assumption | rfl)
  · intro q_1
    have z_4 : (3 : Int32).toInt = 3 := rfl
    exact h9ret (3 : Int32) σ0 m0 f0 (by omega) (by omega) (by first | omega | assumption | rfl)
  · intro q_1
    have z_5 : (-1 : Int32).toInt = -1 := rfl
    exact h9ret (-1 : Int32) σ0 m0 f0 (by omega) (by omega) (by first | omega | assumption | rfl)
  · intro q_1
    have z_6 : (-1 : Int32).toInt = -1 := rfl
    exact h9ret (-1 : Int32) σ0 m0 f0 (by omega) (by omega) (by first | omega | assumption | rfl)
  · intro q_1
    have z_7 : (-1 : Int32).toInt = -1 := rfl
    exact h9ret (-1 : Int32) σ0 m0 f0 (by omega) (by omega) (by first | omega | assumption | rfl)
  · intro q_1
    have z_8 : (-1 : Int32).toInt = -1 := rfl
    exact h9ret (-1 : Int32) σ0 m0 f0 (by omega) (by omega) (by first | omega | assumption | rfl)
  · intro q_1
    have z_9 : (-1 : Int32).toInt = -1 := rfl
    exact h9ret (-1 : Int32) σ0 m0 f0 (by omega) (by omega) (by first | omega | assumption | rfl)
  · intro q_1
    have z_10 : (1 : Int32).toInt = 1 := rfl
    exact h9ret (1 : Int32) σ0 m0 f0 (by omega) (by omega) (by first | omega | assumption | rfl)
  · intro q_1
    have z_11 : (-1 : Int32).toInt = -1 := rfl
    exact h9ret (-1 : Int32) σ0 m0 f0 (by omega) (by omega) (by first | omega | assumption | rfl)
  · intro q_1
    have z_12 : (0 : Int32).toInt = 0 := rfl
    exact h9ret (0 : Int32) σ0 m0 f0 (by omega) (by omega) (by first | omega | assumption | rfl)
  · intro q_1
    have z_13 : (-1 : Int32).toInt = -1 := rfl
    exact h9ret (-1 : Int32) σ0 m0 f0 (by omega) (by omega) (by first | omega | assumption | rfl)
  · intro q_1
    have z_14 : (-1 : Int32).toInt = -1 := rfl
    exact h9ret (-1 : Int32) σ0 m0 f0 (by omega) (by omega) (by first | omega | assumption | rfl)
  · intro q_1
    have z_15 : (2 : Int32).toInt = 2 := rfl
    exact h9ret (2 : Int32) σ0 m0 f0 (by omega) (by omega) (by first | omega | assumption | rfl)
  · intro q_1
    have z_16 : (-1 : Int32).toInt = -1 := rfl
    exact h9ret (-1 : Int32) σ0 m0 f0 (by omega) (by omega) (by first | omega | assumption | rfl)
  · intro q_1
    have z_17 : (-1 : Int32).toInt = -1 := rfl
    exact h9ret (-1 : Int32) σ0 m0 f0 (by omega) (by omega) (by first | omega | assumption | rfl)
  · intro q_1
    have z_18 : (-1 : Int32).toInt = -1 := rfl
    exact h9ret (-1 : Int32) σ0 m0 f0 (by omega) (by omega) (by first | omega | assumption | rfl)
  · intro q_1
    have z_19 : (4 : Int32).toInt = 4 := rfl
    exact h9ret (4 : Int32) σ0 m0 f0 (by omega) (by omega) (by first | omega | assumption | rfl)
/-- what a test that was taken leaves -/
noncomputable def HT (σ σ' : Sg) : Prop := ∀ lo h : Nat, h ≤ 99 → OKP σ lo (gi σ 74 24).toNatClampNeg h → OKP σ' lo (gi σ' 74 24).toNatClampNeg (h + 1)
theorem HT_mk {σ0 σ σ1 σ2 : Sg} {v : Int32} (a24 : (gi σ 74 24).toInt = (gi σ0 74 24).toInt) (a122 : ∀ k, gi σ 122 k = gi σ0 122 k) (hv : 0 ≤ v.toInt) (s24 : 0 ≤ (gi σ 74 24).toInt) (e : EMT σ σ1 v) (e24 : (gi σ1 74 24).toInt = (gi σ 74 24).toInt + 1) (w : HK σ1 σ2) : HT σ0 σ2 := fun lo h hh q => by
  have c1 := cl_eq s24
  have c2 := cl_eq (x := gi σ1 74 24) (by omega)
  have c3 := cl_eq (x := gi σ0 74 24) (by omega)
  refine w lo (h + 1) (by omega) ?_
  rw [show (gi σ1 74 24).toNatClampNeg = (gi σ0 74 24).toNatClampNeg + 1 from by omega]
  have ez : (gi σ 74 24).toNatClampNeg = (gi σ0 74 24).toNatClampNeg := by omega
  obtain ⟨f1, f2⟩ := e
  rw [ez] at f1 f2
  refine OKP_emit (OKP_eq (fun k hk => by rw [f2 k (by omega), a122]) q) (fun z => ?_) (fun _ z => ?_) (fun _ => ⟨hh, rfl⟩)
  · rw [f1] at z; rw [z] at hv; exact absurd hv (by decide)
  · rw [f1] at z; omega
set_option maxRecDepth 100000 in
set_option maxHeartbeats 4000000 in
theorem k_X12_takesTest {l : Launch} {V : Vx} {σ0 : Sg} {Qk : Int32 → Sg → Prop} (m0 : MI σ0) (pre0 : (gi σ0 74 12).toInt < (gi σ0 74 11).toInt) (pre1 : (gi σ0 74 50).toInt < (gi σ0 74 11).toInt) (pre2 : 100 * (gi σ0 74 11).toInt ≤ (gi σ0 74 24).toInt) (pre3 : (gi σ0 74 24).toInt + (gi σ0 74 25).toInt ≤ 100 * (gi σ0 74 11).toInt + (gi σ0 74 14).toInt) (pre4 : (gi σ0 74 14).toInt ≤ (gi σ0 74 13).toInt) (pre5 : (gi σ0 74 11).toInt ≤ 5) (h9ret : ∀ (r : Int32) (σ' : Sg), MI σ' → Fr [74, 122] [14, 15, 24, 25, 26] σ0 σ' → (0 ≤ r.toInt) → (r.toInt ≤ 1) → ((gi σ0 74 14).toInt ≤ (gi σ' 74 14).toInt) → ((gi σ' 74 14).toInt ≤ (gi σ0 74 13).toInt) → ((r.toInt = 1 ∧ (gi σ0 74 14).toInt + 2 ≤ (gi σ' 74 14).toInt ∧ (gi σ' 74 24).toInt + (gi σ' 74 25).toInt = (gi σ0 74 24).toInt + (gi σ0 74 25).toInt + 1 ∧ (gi σ' 74 25).toInt ≤ (gi σ0 74 25).toInt) ∨ r.toInt = 0) → (hid (r.toInt = 1 → HT σ0 σ' ∧ nbw σ' (gi σ' 74 25).toNatClampNeg = nbw σ0 (gi σ0 74 25).toNatClampNeg ∧ BL σ0 σ')) → Qk r σ') : K_X12_takesTest l V σ0 Qk := by
  refine e_X12_takesTest (fun M hl hV hN C => ?_)
  subst hl
  subst hV
  have f0 : Fr [74, 122] [14, 15, 24, 25, 26] σ0 σ0 := Fr_rf
  have mw24 := MI_f24 m0
  have mw25 := MI_f25 m0
  refine s_X12_takesTest_0 C hN ?_
  refine k_X12_next m0  (fun r2 σ1 mσ1 cσ1 (pσ1_0 : r2.toInt = (nxt σ0).toInt) => ?_)
  obtain rfl := Fr_nil cσ1
  have hlt := fun h9 => nxt_lt (by assumption : MI σ0) h9
  have fd9 := MI_f13 (by assumption : MI σ0)
  refine k_X12_letterAt m0  (fun r4 σ3 mσ3 cσ3 plσ3 phσ3 (pσ3_0 : r4.toInt = -1 ∨ 0 ≤ r2.toInt) => ?_)
  obtain rfl := Fr_nil cσ3
  refine ⟨?_, ?_⟩
  · intro q_1
    have b_2 : (0 : Int) ≤ r4.toInt := Int32.le_iff_toInt_le.mp q_1
    intro σ6 eσ6
    have t_3 := MI_f14 m0
    have t_4 : ((gi σ0 74 14) + (1 : Int32)).toInt = (gi σ0 74 14).toInt + 1 := i_add (x := (gi σ0 74 14)) (y := (1 : Int32)) (by show (_ : Int) ≤ (gi σ0 74 14).toInt + 1; omega) (by show (gi σ0 74 14).toInt + 1 ≤ (_ : Int); omega)
    have mσ6 : MI σ6 := by rw [eσ6]; exact MIs_f14 m0 (by omega) (by omega)
    have fσ6 : Fr [74, 122] [14, 15, 24, 25, 26] σ0 σ6 := by rw [eσ6]; exact Fr_si f0 (by decide) (fun _ => by decide)
    have k_5 : (gi σ6 74 11).toInt = (gi σ0 74 11).toInt := by rw [eσ6]; exact congrArg Int32.toInt (gi_si_ne (Or.inr (by decide)))
    have k_6 : (gi σ6 74 12).toInt = (gi σ0 74 12).toInt := by rw [eσ6]; exact congrArg Int32.toInt (gi_si_ne (Or.inr (by decide)))
    have k_7 : (gi σ6 74 13).toInt = (gi σ0 74 13).toInt := by rw [eσ6]; exact congrArg Int32.toInt (gi_si_ne (Or.inr (by decide)))
    have k_8 : (gi σ6 74 14).toInt = ((gi σ0 74 14) + (1 : Int32)).toInt := by rw [eσ6]; exact congrArg Int32.toInt gi_si_eq
    have k_9 : (gi σ6 74 24).toInt = (gi σ0 74 24).toInt := by rw [eσ6]; exact congrArg Int32.toInt (gi_si_ne (Or.inr (by decide)))
    have k_10 : (gi σ6 74 25).toInt = (gi σ0 74 25).toInt := by rw [eσ6]; exact congrArg Int32.toInt (gi_si_ne (Or.inr (by decide)))
    have k_11 : (gi σ6 74 50).toInt = (gi σ0 74 50).toInt := by rw [eσ6]; exact congrArg Int32.toInt (gi_si_ne (Or.inr (by decide)))
    refine k_X12_next mσ6  (fun r8 σ7 mσ7 cσ7 (pσ7_0 : r8.toInt = (nxt σ6).toInt) => ?_)
    obtain rfl := Fr_nil cσ7
    have hlt := fun h9 => nxt_lt (by assumption : MI σ6) h9
    have fd9 := MI_f13 (by assumption : MI σ6)
    refine k_X12_in mσ6  (fun r10 σ9 mσ9 cσ9 plσ9 phσ9 (pσ9_0 : (r10.toInt = 1 ∧ (60 : Int) ≤ r8.toInt ∧ r8.toInt ≤ (62 : Int)) ∨ (r10.toInt = 0 ∧ (r8.toInt < (60 : Int) ∨ (62 : Int) < r8.toInt))) => ?_)
    obtain rfl := Fr_nil cσ9
    refine ⟨?_, ?_⟩
    · intro q_12
      have b_13 : ¬ r10.toInt = 0 := fun h9 => q_12 (Int32.toInt_inj.mp h9)
      intro σ12 eσ12
      have t_14 := MI_f14 mσ6
      have t_15 : ((gi σ6 74 14) + (1 : Int32)).toInt = (gi σ6 74 14).toInt + 1 := i_add (x := (gi σ6 74 14)) (y := (1 : Int32)) (by show (_ : Int) ≤ (gi σ6 74 14).toInt + 1; omega) (by show (gi σ6 74 14).toInt + 1 ≤ (_ : Int); omega)
      have mσ12 : MI σ12 := by rw [eσ12]; exact MIs_f14 mσ6 (by omega) (by omega)
      have fσ12 : Fr [74, 122] [14, 15, 24, 25, 26] σ0 σ12 := by rw [eσ12]; exact Fr_si fσ6 (by decide) (fun _ => by decide)
      have k_16 : (gi σ12 74 11).toInt = (gi σ6 74 11).toInt := by rw [eσ12]; exact congrArg Int32.toInt (gi_si_ne (Or.inr (by decide)))
      have k_17 : (gi σ12 74 12).toInt = (gi σ6 74 12).toInt := by rw [eσ12]; exact congrArg Int32.toInt (gi_si_ne (Or.inr (by decide)))
      have k_18 : (gi σ12 74 13).toInt = (gi σ6 74 13).toInt := by rw [eσ12]; exact congrArg Int32.toInt (gi_si_ne (Or.inr (by decide)))
      have k_19 : (gi σ12 74 14).toInt = ((gi σ6 74 14) + (1 : Int32)).toInt := by rw [eσ12]; exact congrArg Int32.toInt gi_si_eq
      have k_20 : (gi σ12 74 24).toInt = (gi σ6 74 24).toInt := by rw [eσ12]; exact congrArg Int32.toInt (gi_si_ne (Or.inr (by decide)))
      have k_21 : (gi σ12 74 25).toInt = (gi σ6 74 25).toInt := by rw [eσ12]; exact congrArg Int32.toInt (gi_si_ne (Or.inr (by decide)))
      have k_22 : (gi σ12 74 50).toInt = (gi σ6 74 50).toInt := by rw [eσ12]; exact congrArg Int32.toInt (gi_si_ne (Or.inr (by decide)))
      refine k_X12_takesNumber mσ12 (by first | omega | assumption | rfl) (fun r14 σ13 mσ13 cσ13 plσ13 phσ13 (pσ13_0 : (gi σ12 74 14).toInt ≤ (gi σ13 74 14).toInt) (pσ13_1 : (gi σ13 74 14).toInt ≤ (gi σ12 74 13).toInt) => ?_)
      have fσ13 : Fr [74, 122] [14, 15, 24, 25, 26] σ0 σ13 := Fr_tr fσ12 cσ13 (by decide) (by decide)
      have k_23 : (gi σ13 74 11).toInt = (gi σ12 74 11).toInt := congrArg Int32.toInt (cσ13.2.1 11 (by decide))
      have k_24 : (gi σ13 74 12).toInt = (gi σ12 74 12).toInt := congrArg Int32.toInt (cσ13.2.1 12 (by decide))
      have k_25 : (gi σ13 74 13).toInt = (gi σ12 74 13).toInt := congrArg Int32.toInt (cσ13.2.1 13 (by decide))
      have k_26 : (gi σ13 74 24).toInt = (gi σ12 74 24).toInt := congrArg Int32.toInt (cσ13.2.1 24 (by decide))
      have k_27 : (gi σ13 74 25).toInt = (gi σ12 74 25).toInt := congrArg Int32.toInt (cσ13.2.1 25 (by decide))
      have k_28 : (gi σ13 74 50).toInt = (gi σ12 74 50).toInt := congrArg Int32.toInt (cσ13.2.1 50 (by decide))
      have u1 : (r8 - (60 : Int32)).toInt = r8.toInt - 60 := i_sub (y := (60 : Int32)) (by show _ ≤ r8.toInt - 60; omega) (by show r8.toInt - 60 ≤ _; omega)
      have u2 : ((100 : Int32) * (r8 - (60 : Int32))).toInt = 100 * (r8 - (60 : Int32)).toInt := i_mull rfl (by omega) (by omega)
      have u3 : ((1000 : Int32) * r4).toInt = 1000 * r4.toInt := i_mull rfl (by omega) (by omega)
      have u4 : (((1000 : Int32) * r4) + ((100 : Int32) * (r8 - (60 : Int32)))).toInt = ((1000 : Int32) * r4).toInt + ((100 : Int32) * (r8 - (60 : Int32))).toInt := i_add (by omega) (by omega)
      have mw15 := MI_f15 (by assumption : MI σ13)
      have u5 : ((((1000 : Int32) * r4) + ((100 : Int32) * (r8 - (60 : Int32)))) + (gi σ13 74 15)).toInt = (((1000 : Int32) * r4) + ((100 : Int32) * (r8 - (60 : Int32)))).toInt + (gi σ13 74 15).toInt := i_add (by omega) (by omega)
      refine ⟨?_, ?_⟩
      · intro q_29
        have b_30 : ¬ r14.toInt = 0 := fun h9 => q_29 (Int32.toInt_inj.mp h9)
        have t_31 : ((1000 : Int32) * r4).toInt = 1000 * r4.toInt := i_mull rfl (by omega) (by omega)
        have t_32 := MI_f15 mσ13
        refine k_X12_emits mσ13 (by first | omega | assumption | rfl) (by first | omega | assumption | rfl) (by first | omega | assumption | rfl) (by first | omega | assumption | rfl) (fun σ16 mσ16 cσ16 (pσ16_0 : (gi σ16 74 24).toInt = (gi σ13 74 24).toInt + 1) (pσ16_1 : EMT σ13 σ16 ((((1000 : Int32) * r4) + ((100 : Int32) * (r8 - (60 : Int32)))) + (gi σ13 74 15))) => ?_)
        have fσ16 : Fr [74, 122] [14, 15, 24, 25, 26] σ0 σ16 := Fr_tr fσ13 cσ16 (by decide) (by decide)
        have k_33 : (gi σ16 74 11).toInt = (gi σ13 74 11).toInt := congrArg Int32.toInt (cσ16.2.1 11 (by decide))
        have k_34 : (gi σ16 74 12).toInt = (gi σ13 74 12).toInt := congrArg Int32.toInt (cσ16.2.1 12 (by decide))
        have k_35 : (gi σ16 74 13).toInt = (gi σ13 74 13).toInt := congrArg Int32.toInt (cσ16.2.1 13 (by decide))
        have k_36 : (gi σ16 74 14).toInt = (gi σ13 74 14).toInt := congrArg Int32.toInt (cσ16.2.1 14 (by decide))
        have k_37 : (gi σ16 74 15).toInt = (gi σ13 74 15).toInt := congrArg Int32.toInt (cσ16.2.1 15 (by decide))
        have k_38 : (gi σ16 74 25).toInt = (gi σ13 74 25).toInt := congrArg Int32.toInt (cσ16.2.1 25 (by decide))
        have k_39 : (gi σ16 74 50).toInt = (gi σ13 74 50).toInt := congrArg Int32.toInt (cσ16.2.1 50 (by decide))
        refine k_X12_whole mσ16 (by first | omega | assumption | rfl) (by first | omega | assumption | rfl) (by first | omega | assumption | rfl) (by first | omega | assumption | rfl) (fun σ17 mσ17 cσ17 (pσ17_0 : HK σ16 σ17) (pσ17_1 : (gi σ17 74 24).toInt + (gi σ17 74 25).toInt = (gi σ16 74 24).toInt + (gi σ16 74 25).toInt) (pσ17_2 : (gi σ17 74 25).toInt ≤ (gi σ16 74 25).toInt) (pσ17_3 : nbw σ17 (gi σ17 74 25).toNatClampNeg = nbw σ16 (gi σ16 74 25).toNatClampNeg) (pσ17_4 : BL σ16 σ17) (pσ17_5 : (gi σ16 74 24).toInt ≤ (gi σ17 74 24).toInt) => ?_)
        have fσ17 : Fr [74, 122] [14, 15, 24, 25, 26] σ0 σ17 := Fr_tr fσ16 cσ17 (by decide) (by decide)
        have k_40 : (gi σ17 74 11).toInt = (gi σ16 74 11).toInt := congrArg Int32.toInt (cσ17.2.1 11 (by decide))
        have k_41 : (gi σ17 74 12).toInt = (gi σ16 74 12).toInt := congrArg Int32.toInt (cσ17.2.1 12 (by decide))
        have k_42 : (gi σ17 74 13).toInt = (gi σ16 74 13).toInt := congrArg Int32.toInt (cσ17.2.1 13 (by decide))
        have k_43 : (gi σ17 74 14).toInt = (gi σ16 74 14).toInt := congrArg Int32.toInt (cσ17.2.1 14 (by decide))
        have k_44 : (gi σ17 74 15).toInt = (gi σ16 74 15).toInt := congrArg Int32.toInt (cσ17.2.1 15 (by decide))
        have k_45 : (gi σ17 74 50).toInt = (gi σ16 74 50).toInt := congrArg Int32.toInt (cσ17.2.1 50 (by decide))
        have z_46 : (1 : Int32).toInt = 1 := rfl
        exact h9ret (1 : Int32) σ17 mσ17 fσ17 (by omega) (by omega) (by first | omega | assumption | rfl) (by first | omega | assumption | rfl) (by first | omega | assumption | rfl) (by first | exact fun z => absurd z (by decide) | exact fun _ => ⟨@HT_mk σ0 σ13 σ16 σ17 _ (by omega) (fun k => (congrFun (cσ13.1 122 (by decide)).1 k).trans (by show gi σ12 122 k = _; rw [eσ12, gi_si_ne (Or.inl (by decide)), eσ6, gi_si_ne (Or.inl (by decide))])) (by omega) (by have := MI_f24 mσ13; omega) pσ16_1 (by omega) pσ17_0, pσ17_3.trans (by have e9 : (gi σ16 74 25).toNatClampNeg = (gi σ0 74 25).toNatClampNeg := congrArg Int.toNat (show (gi σ16 74 25).toInt = (gi σ0 74 25).toInt from by omega); rw [e9]; exact nbw_eq (fun k _ => congrFun (fσ16.1 123 (by decide)).1 k)), fun k hk => (pσ17_4 k (by omega)).trans ((pσ16_1.2 k (by have := MI_f24 mσ13; have := cl_eq (x := gi σ13 74 24) (by omega); omega)).trans ((fun k => (congrFun (cσ13.1 122 (by decide)).1 k).trans (by show gi σ12 122 k = _; rw [eσ12, gi_si_ne (Or.inl (by decide)), eσ6, gi_si_ne (Or.inl (by decide))])) k))⟩)
      · intro q_29
        have b_47 : r14.toInt = 0 := congrArg Int32.toInt q_29
        have z_48 : (0 : Int32).toInt = 0 := rfl
        exact h9ret (0 : Int32) σ13 mσ13 fσ13 (by omega) (by omega) (by first | omega | assumption | rfl) (by first | omega | assumption | rfl) (by first | omega | assumption | rfl) (by first | exact fun z => absurd z (by decide) | exact fun _ => ⟨@HT_mk σ0 σ13 σ16 σ17 _ (by omega) (fun k => (congrFun (cσ13.1 122 (by decide)).1 k).trans (by show gi σ12 122 k = _; rw [eσ12, gi_si_ne (Or.inl (by decide)), eσ6, gi_si_ne (Or.inl (by decide))])) (by omega) (by have := MI_f24 mσ13; omega) pσ16_1 (by omega) pσ17_0, pσ17_3.trans (by have e9 : (gi σ16 74 25).toNatClampNeg = (gi σ0 74 25).toNatClampNeg := congrArg Int.toNat (show (gi σ16 74 25).toInt = (gi σ0 74 25).toInt from by omega); rw [e9]; exact nbw_eq (fun k _ => congrFun (fσ16.1 123 (by decide)).1 k)), fun k hk => (pσ17_4 k (by omega)).trans ((pσ16_1.2 k (by have := MI_f24 mσ13; have := cl_eq (x := gi σ13 74 24) (by omega); omega)).trans ((fun k => (congrFun (cσ13.1 122 (by decide)).1 k).trans (by show gi σ12 122 k = _; rw [eσ12, gi_si_ne (Or.inl (by decide)), eσ6, gi_si_ne (Or.inl (by decide))])) k))⟩)
    · intro q_12
      have b_49 : r10.toInt = 0 := congrArg Int32.toInt q_12
      have z_50 : (0 : Int32).toInt = 0 := rfl
      exact h9ret (0 : Int32) σ6 mσ6 fσ6 (by omega) (by omega) (by first | omega | assumption | rfl) (by first | omega | assumption | rfl) (by first | omega | assumption | rfl) (by first | exact fun z => absurd z (by decide) | exact fun _ => ⟨@HT_mk σ0 σ13 σ16 σ17 _ (by omega) (fun k => (congrFun (cσ13.1 122 (by decide)).1 k).trans (by show gi σ12 122 k = _; rw [eσ12, gi_si_ne (Or.inl (by decide)), eσ6, gi_si_ne (Or.inl (by decide))])) (by omega) (by have := MI_f24 mσ13; omega) pσ16_1 (by omega) pσ17_0, pσ17_3.trans (by have e9 : (gi σ16 74 25).toNatClampNeg = (gi σ0 74 25).toNatClampNeg := congrArg Int.toNat (show (gi σ16 74 25).toInt = (gi σ0 74 25).toInt from by omega); rw [e9]; exact nbw_eq (fun k _ => congrFun (fσ16.1 123 (by decide)).1 k)), fun k hk => (pσ17_4 k (by omega)).trans ((pσ16_1.2 k (by have := MI_f24 mσ13; have := cl_eq (x := gi σ13 74 24) (by omega); omega)).trans ((fun k => (congrFun (cσ13.1 122 (by decide)).1 k).trans (by show gi σ12 122 k = _; rw [eσ12, gi_si_ne (Or.inl (by decide)), eσ6, gi_si_ne (Or.inl (by decide))])) k))⟩)
  · intro q_1
    have b_51 : ¬ (0 : Int) ≤ r4.toInt := fun h9 => q_1 (Int32.le_iff_toInt_le.mpr h9)
    have z_52 : (0 : Int32).toInt = 0 := rfl
    exact h9ret (0 : Int32) σ0 m0 f0 (by omega) (by omega) (by first | omega | assumption | rfl) (by first | omega | assumption | rfl) (by first | omega | assumption | rfl) (by first | exact fun z => absurd z (by decide) | exact fun _ => ⟨@HT_mk σ0 σ13 σ16 σ17 _ (by omega) (fun k => (congrFun (cσ13.1 122 (by decide)).1 k).trans (by show gi σ12 122 k = _; rw [eσ12, gi_si_ne (Or.inl (by decide)), eσ6, gi_si_ne (Or.inl (by decide))])) (by omega) (by have := MI_f24 mσ13; omega) pσ16_1 (by omega) pσ17_0, pσ17_3.trans (by have e9 : (gi σ16 74 25).toNatClampNeg = (gi σ0 74 25).toNatClampNeg := congrArg Int.toNat (show (gi σ16 74 25).toInt = (gi σ0 74 25).toInt from by omega); rw [e9]; exact nbw_eq (fun k _ => congrFun (fσ16.1 123 (by decide)).1 k)), fun k hk => (pσ17_4 k (by omega)).trans ((pσ16_1.2 k (by have := MI_f24 mσ13; have := cl_eq (x := gi σ13 74 24) (by omega); omega)).trans ((fun k => (congrFun (cσ13.1 122 (by decide)).1 k).trans (by show gi σ12 122 k = _; rw [eσ12, gi_si_ne (Or.inl (by decide)), eσ6, gi_si_ne (Or.inl (by decide))])) k))⟩)
