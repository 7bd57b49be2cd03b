theorem FV_hi {σ : Sg} {a k : Nat} {v : Int32} (h : FV σ) (ha : a = 118 ∨ a = 120 ∨ a = 121) (h1 : (gi σ 74 12).toInt < (gi σ 74 11).toInt) (h2 : (gi σ 74 50).toInt < (gi σ 74 11).toInt) (hk : 10 * (gi σ 74 11).toInt ≤ (k : Int)) : FV (si σ a k v) := by
  intro f hf hc
  rw [gi_si_ne (Or.inl (by omega)), gi_si_ne (Or.inl (by omega)), gi_si_ne (Or.inl (by omega))] at hc
  have hlt : (f : Int) < (gi σ 74 11).toInt := by omega
  intro n hn hcl hw
  rw [gi_si_ne (Or.inl (by omega))] at hcl
  rw [gi_si_ne (Or.inr (by omega))] at hw
  obtain ⟨lo, hi, e1, e2, e3, e4, e5, e6⟩ := h f hf hc n hn hcl hw
  exact ⟨lo, hi, by rw [gi_si_ne (Or.inr (by omega))]; exact e1, by rw [gi_si_ne (Or.inr (by omega))]; exact e2, e3, e4, e5, okSeg_eq (fun j j1 j2 => gi_si_ne (Or.inl (by omega))) e6⟩
set_option maxRecDepth 100000 in
set_option maxHeartbeats 4000000 in
theorem k_X12_takesHead {l : Launch} {V : Vx} {a1 : Int32} {σ0 : Sg} {Qk : Int32 → Sg → Prop} (m0 : MI σ0) (l_a1 : 0 ≤ a1.toInt) (u_a1 : a1.toInt ≤ 59) (pre0 : (gi σ0 74 12).toInt < (gi σ0 74 11).toInt) (pre1 : (gi σ0 74 50).toInt < (gi σ0 74 11).toInt) (pre2 : 10 * (gi σ0 74 11).toInt ≤ a1.toInt) (pre3 : (gi σ0 74 14).toInt ≤ (gi σ0 74 13).toInt) (h9ret : ∀ (r : Int32) (σ' : Sg), MI σ' → Fr [74, 118] [14] σ0 σ' → (0 ≤ r.toInt) → (r.toInt ≤ 1) → ((gi σ0 74 14).toInt ≤ (gi σ' 74 14).toInt) → ((gi σ' 74 14).toInt ≤ (gi σ0 74 13).toInt) → (hid (∀ k : Nat, ¬ k = a1.toNatClampNeg → gi σ' 118 k = gi σ0 118 k)) → Qk r σ') : K_X12_takesHead l V a1 σ0 Qk := by
  refine e_X12_takesHead (fun M hl hV hN C => ?_)
  subst hl
  subst hV
  have f0 : Fr [74, 118] [14] σ0 σ0 := Fr_rf
  have e_a1 := cl_eq (x := a1) (by omega)
  refine s_X12_takesHead_0 C hN ?_
  refine k_X12_next m0  (fun r2 σ1 mσ1 cσ1 (pσ1_0 : r2.toInt = (nxt σ0).toInt) => ?_)
  obtain rfl := Fr_nil cσ1
  refine ⟨?_, ?_, ?_, ?_, ?_⟩
  · intro q_1
    have hv_2 : vp_in a1 60 := vp_in_iff.mpr ⟨by omega, by omega⟩
    refine ⟨hv_2, ?_⟩
    intro σ5 eσ5
    have mσ5 : MI σ5 := by rw [eσ5]; exact MIs_au0 m0 rfl (FV_hi m0.2.2 (by decide) (by omega) (by omega) (by omega))
    have fσ5 : Fr [74, 118] [14] σ0 σ5 := by rw [eσ5]; exact Fr_si f0 (by decide) (fun h9 => absurd h9 (by decide))
    have k_3 : (gi σ5 74 11).toInt = (gi σ0 74 11).toInt := by rw [eσ5]; exact congrArg Int32.toInt (gi_si_ne (Or.inl (by decide)))
    have k_4 : (gi σ5 74 12).toInt = (gi σ0 74 12).toInt := by rw [eσ5]; exact congrArg Int32.toInt (gi_si_ne (Or.inl (by decide)))
    have k_5 : (gi σ5 74 13).toInt = (gi σ0 74 13).toInt := by rw [eσ5]; exact congrArg Int32.toInt (gi_si_ne (Or.inl (by decide)))
    have k_6 : (gi σ5 74 14).toInt = (gi σ0 74 14).toInt := by rw [eσ5]; exact congrArg Int32.toInt (gi_si_ne (Or.inl (by decide)))
    have k_7 : (gi σ5 74 50).toInt = (gi σ0 74 50).toInt := by rw [eσ5]; exact congrArg Int32.toInt (gi_si_ne (Or.inl (by decide)))
    have hW9 : hid (∀ k : Nat, ¬ k = a1.toNatClampNeg → gi σ5 118 k = gi σ0 118 k) := fun k hk => by rw [eσ5, gi_si_ne (Or.inr hk)]
    have z_8 : (15 : Int32).toInt = 15 := rfl
    have z_9 : (4 : Int32).toInt = 4 := rfl
    refine k_X12_takesWord mσ5 (by omega) (by omega) (by omega) (by omega) (by first | omega | assumption | rfl) (by first | omega | assumption | rfl) (fun r7 σ6 mσ6 cσ6 plσ6 phσ6 (pσ6_0 : (gi σ5 74 14).toInt ≤ (gi σ6 74 14).toInt) (pσ6_1 : (gi σ6 74 14).toInt ≤ (gi σ5 74 13).toInt) => ?_)
    have fσ6 : Fr [74, 118] [14] σ0 σ6 := Fr_tr fσ5 cσ6 (by decide) (by decide)
    have k_10 : (gi σ6 74 11).toInt = (gi σ5 74 11).toInt := congrArg Int32.toInt (cσ6.2.1 11 (by decide))
    have k_11 : (gi σ6 74 12).toInt = (gi σ5 74 12).toInt := congrArg Int32.toInt (cσ6.2.1 12 (by decide))
    have k_12 : (gi σ6 74 13).toInt = (gi σ5 74 13).toInt := congrArg Int32.toInt (cσ6.2.1 13 (by decide))
    have k_13 : (gi σ6 74 50).toInt = (gi σ5 74 50).toInt := congrArg Int32.toInt (cσ6.2.1 50 (by decide))
    have hW9 : hid (∀ k : Nat, ¬ k = a1.toNatClampNeg → gi σ6 118 k = gi σ0 118 k) := fun k hk => (congrFun (cσ6.1 118 (by decide)).1 k).trans (un hW9 k hk)
    refine ⟨i_bool (by omega) (by omega), ?_⟩
    exact h9ret r7 σ6 mσ6 fσ6 (by omega) (by omega) (by first | omega | assumption | rfl) (by first | omega | assumption | rfl) (by first | omega | assumption | rfl)
  · intro q_1
    have hv_14 : vp_in a1 60 := vp_in_iff.mpr ⟨by omega, by omega⟩
    refine ⟨hv_14, ?_⟩
    intro σ9 eσ9
    have mσ9 : MI σ9 := by rw [eσ9]; exact MIs_au0 m0 rfl (FV_hi m0.2.2 (by decide) (by omega) (by omega) (by omega))
    have fσ9 : Fr [74, 118] [14] σ0 σ9 := by rw [eσ9]; exact Fr_si f0 (by decide) (fun h9 => absurd h9 (by decide))
    have k_15 : (gi σ9 74 11).toInt = (gi σ0 74 11).toInt := by rw [eσ9]; exact congrArg Int32.toInt (gi_si_ne (Or.inl (by decide)))
    have k_16 : (gi σ9 74 12).toInt = (gi σ0 74 12).toInt := by rw [eσ9]; exact congrArg Int32.toInt (gi_si_ne (Or.inl (by decide)))
    have k_17 : (gi σ9 74 13).toInt = (gi σ0 74 13).toInt := by rw [eσ9]; exact congrArg Int32.toInt (gi_si_ne (Or.inl (by decide)))
    have k_18 : (gi σ9 74 14).toInt = (gi σ0 74 14).toInt := by rw [eσ9]; exact congrArg Int32.toInt (gi_si_ne (Or.inl (by decide)))
    have k_19 : (gi σ9 74 50).toInt = (gi σ0 74 50).toInt := by rw [eσ9]; exact congrArg Int32.toInt (gi_si_ne (Or.inl (by decide)))
    have hW9 : hid (∀ k : Nat, ¬ k = a1.toNatClampNeg → gi σ9 118 k = gi σ0 118 k) := fun k hk => by rw [eσ9, gi_si_ne (Or.inr hk)]
    have z_20 : (0 : Int32).toInt = 0 := rfl
    have z_21 : (4 : Int32).toInt = 4 := rfl
    refine k_X12_takesWord mσ9 (by omega) (by omega) (by omega) (by omega) (by first | omega | assumption | rfl) (by first | omega | assumption | rfl) (fun r11 σ10 mσ10 cσ10 plσ10 phσ10 (pσ10_0 : (gi σ9 74 14).toInt ≤ (gi σ10 74 14).toInt) (pσ10_1 : (gi σ10 74 14).toInt ≤ (gi σ9 74 13).toInt) => ?_)
    have fσ10 : Fr [74, 118] [14] σ0 σ10 := Fr_tr fσ9 cσ10 (by decide) (by decide)
    have k_22 : (gi σ10 74 11).toInt = (gi σ9 74 11).toInt := congrArg Int32.toInt (cσ10.2.1 11 (by decide))
    have k_23 : (gi σ10 74 12).toInt = (gi σ9 74 12).toInt := congrArg Int32.toInt (cσ10.2.1 12 (by decide))
    have k_24 : (gi σ10 74 13).toInt = (gi σ9 74 13).toInt := congrArg Int32.toInt (cσ10.2.1 13 (by decide))
    have k_25 : (gi σ10 74 50).toInt = (gi σ9 74 50).toInt := congrArg Int32.toInt (cσ10.2.1 50 (by decide))
    have hW9 : hid (∀ k : Nat, ¬ k = a1.toNatClampNeg → gi σ10 118 k = gi σ0 118 k) := fun k hk => (congrFun (cσ10.1 118 (by decide)).1 k).trans (un hW9 k hk)
    refine ⟨i_bool (by omega) (by omega), ?_⟩
    exact h9ret r11 σ10 mσ10 fσ10 (by omega) (by omega) (by first | omega | assumption | rfl) (by first | omega | assumption | rfl) (by first | omega | assumption | rfl)
  · intro q_1
    have hv_26 : vp_in a1 60 := vp_in_iff.mpr ⟨by omega, by omega⟩
    refine ⟨hv_26, ?_⟩
    intro σ13 eσ13
    have mσ13 : MI σ13 := by rw [eσ13]; exact MIs_au0 m0 rfl (FV_hi m0.2.2 (by decide) (by omega) (by omega) (by omega))
    have fσ13 : Fr [74, 118] [14] σ0 σ13 := by rw [eσ13]; exact Fr_si f0 (by decide) (fun h9 => absurd h9 (by decide))
    have k_27 : (gi σ13 74 11).toInt = (gi σ0 74 11).toInt := by rw [eσ13]; exact congrArg Int32.toInt (gi_si_ne (Or.inl (by decide)))
    have k_28 : (gi σ13 74 12).toInt = (gi σ0 74 12).toInt := by rw [eσ13]; exact congrArg Int32.toInt (gi_si_ne (Or.inl (by decide)))
    have k_29 : (gi σ13 74 13).toInt = (gi σ0 74 13).toInt := by rw [eσ13]; exact congrArg Int32.toInt (gi_si_ne (Or.inl (by decide)))
    have k_30 : (gi σ13 74 14).toInt = (gi σ0 74 14).toInt := by rw [eσ13]; exact congrArg Int32.toInt (gi_si_ne (Or.inl (by decide)))
    have k_31 : (gi σ13 74 50).toInt = (gi σ0 74 50).toInt := by rw [eσ13]; exact congrArg Int32.toInt (gi_si_ne (Or.inl (by decide)))
    have hW9 : hid (∀ k : Nat, ¬ k = a1.toNatClampNeg → gi σ13 118 k = gi σ0 118 k) := fun k hk => by rw [eσ13, gi_si_ne (Or.inr hk)]
    have z_32 : (8 : Int32).toInt = 8 := rfl
    have z_33 : (3 : Int32).toInt = 3 := rfl
    refine k_X12_takesWord mσ13 (by omega) (by omega) (by omega) (by omega) (by first | omega | assumption | rfl) (by first | omega | assumption | rfl) (fun r15 σ14 mσ14 cσ14 plσ14 phσ14 (pσ14_0 : (gi σ13 74 14).toInt ≤ (gi σ14 74 14).toInt) (pσ14_1 : (gi σ14 74 14).toInt ≤ (gi σ13 74 13).toInt) => ?_)
    have fσ14 : Fr [74, 118] [14] σ0 σ14 := Fr_tr fσ13 cσ14 (by decide) (by decide)
    have k_34 : (gi σ14 74 11).toInt = (gi σ13 74 11).toInt := congrArg Int32.toInt (cσ14.2.1 11 (by decide))
    have k_35 : (gi σ14 74 12).toInt = (gi σ13 74 12).toInt := congrArg Int32.toInt (cσ14.2.1 12 (by decide))
    have k_36 : (gi σ14 74 13).toInt = (gi σ13 74 13).toInt := congrArg Int32.toInt (cσ14.2.1 13 (by decide))
    have k_37 : (gi σ14 74 50).toInt = (gi σ13 74 50).toInt := congrArg Int32.toInt (cσ14.2.1 50 (by decide))
    have hW9 : hid (∀ k : Nat, ¬ k = a1.toNatClampNeg → gi σ14 118 k = gi σ0 118 k) := fun k hk => (congrFun (cσ14.1 118 (by decide)).1 k).trans (un hW9 k hk)
    refine ⟨i_bool (by omega) (by omega), ?_⟩
    exact h9ret r15 σ14 mσ14 fσ14 (by omega) (by omega) (by first | omega | assumption | rfl) (by first | omega | assumption | rfl) (by first | omega | assumption | rfl)
  · intro q_1
    have hv_38 : vp_in a1 60 := vp_in_iff.mpr ⟨by omega, by omega⟩
    refine ⟨hv_38, ?_⟩
    intro σ17 eσ17
    have mσ17 : MI σ17 := by rw [eσ17]; exact MIs_au0 m0 rfl (FV_hi m0.2.2 (by decide) (by omega) (by omega) (by omega))
    have fσ17 : Fr [74, 118] [14] σ0 σ17 := by rw [eσ17]; exact Fr_si f0 (by decide) (fun h9 => absurd h9 (by decide))
    have k_39 : (gi σ17 74 11).toInt = (gi σ0 74 11).toInt := by rw [eσ17]; exact congrArg Int32.toInt (gi_si_ne (Or.inl (by decide)))
    have k_40 : (gi σ17 74 12).toInt = (gi σ0 74 12).toInt := by rw [eσ17]; exact congrArg Int32.toInt (gi_si_ne (Or.inl (by decide)))
    have k_41 : (gi σ17 74 13).toInt = (gi σ0 74 13).toInt := by rw [eσ17]; exact congrArg Int32.toInt (gi_si_ne (Or.inl (by decide)))
    have k_42 : (gi σ17 74 14).toInt = (gi σ0 74 14).toInt := by rw [eσ17]; exact congrArg Int32.toInt (gi_si_ne (Or.inl (by decide)))
    have k_43 : (gi σ17 74 50).toInt = (gi σ0 74 50).toInt := by rw [eσ17]; exact congrArg Int32.toInt (gi_si_ne (Or.inl (by decide)))
    have hW9 : hid (∀ k : Nat, ¬ k = a1.toNatClampNeg → gi σ17 118 k = gi σ0 118 k) := fun k hk => by rw [eσ17, gi_si_ne (Or.inr hk)]
    have z_44 : (4 : Int32).toInt = 4 := rfl
    refine k_X12_takesWord mσ17 (by omega) (by omega) (by omega) (by omega) (by first | omega | assumption | rfl) (by first | omega | assumption | rfl) (fun r19 σ18 mσ18 cσ18 plσ18 phσ18 (pσ18_0 : (gi σ17 74 14).toInt ≤ (gi σ18 74 14).toInt) (pσ18_1 : (gi σ18 74 14).toInt ≤ (gi σ17 74 13).toInt) => ?_)
    have fσ18 : Fr [74, 118] [14] σ0 σ18 := Fr_tr fσ17 cσ18 (by decide) (by decide)
    have k_45 : (gi σ18 74 11).toInt = (gi σ17 74 11).toInt := congrArg Int32.toInt (cσ18.2.1 11 (by decide))
    have k_46 : (gi σ18 74 12).toInt = (gi σ17 74 12).toInt := congrArg Int32.toInt (cσ18.2.1 12 (by decide))
    have k_47 : (gi σ18 74 13).toInt = (gi σ17 74 13).toInt := congrArg Int32.toInt (cσ18.2.1 13 (by decide))
    have k_48 : (gi σ18 74 50).toInt = (gi σ17 74 50).toInt := congrArg Int32.toInt (cσ18.2.1 50 (by decide))
    have hW9 : hid (∀ k : Nat, ¬ k = a1.toNatClampNeg → gi σ18 118 k = gi σ0 118 k) := fun k hk => (congrFun (cσ18.1 118 (by decide)).1 k).trans (un hW9 k hk)
    refine ⟨i_bool (by omega) (by omega), ?_⟩
    exact h9ret r19 σ18 mσ18 fσ18 (by omega) (by omega) (by first | omega | assumption | rfl) (by first | omega | assumption | rfl) (by first | omega | assumption | rfl)
  · intro q_1
    have hv_49 : vp_in a1 60 := vp_in_iff.mpr ⟨by omega, by omega⟩
    refine ⟨hv_49, ?_⟩
    intro σ21 eσ21
    have mσ21 : MI σ21 := by rw [eσ21]; exact MIs_au0 m0 rfl (FV_hi m0.2.2 (by decide) (by omega) (by omega) (by omega))
    have fσ21 : Fr [74, 118] [14] σ0 σ21 := by rw [eσ21]; exact Fr_si f0 (by decide) (fun h9 => absurd h9 (by decide))
    have k_50 : (gi σ21 74 11).toInt = (gi σ0 74 11).toInt := by rw [eσ21]; exact congrArg Int32.toInt (gi_si_ne (Or.inl (by decide)))
    have k_51 : (gi σ21 74 12).toInt = (gi σ0 74 12).toInt := by rw [eσ21]; exact congrArg Int32.toInt (gi_si_ne (Or.inl (by decide)))
    have k_52 : (gi σ21 74 13).toInt = (gi σ0 74 13).toInt := by rw [eσ21]; exact congrArg Int32.toInt (gi_si_ne (Or.inl (by decide)))
    have k_53 : (gi σ21 74 14).toInt = (gi σ0 74 14).toInt := by rw [eσ21]; exact congrArg Int32.toInt (gi_si_ne (Or.inl (by decide)))
    have k_54 : (gi σ21 74 50).toInt = (gi σ0 74 50).toInt := by rw [eσ21]; exact congrArg Int32.toInt (gi_si_ne (Or.inl (by decide)))
    have hW9 : hid (∀ k : Nat, ¬ k = a1.toNatClampNeg → gi σ21 118 k = gi σ0 118 k) := fun k hk => by rw [eσ21, gi_si_ne (Or.inr hk)]
    have z_55 : (11 : Int32).toInt = 11 := rfl
    have z_56 : (4 : Int32).toInt = 4 := rfl
    refine k_X12_takesWord mσ21 (by omega) (by omega) (by omega) (by omega) (by first | omega | assumption | rfl) (by first | omega | assumption | rfl) (fun r23 σ22 mσ22 cσ22 plσ22 phσ22 (pσ22_0 : (gi σ21 74 14).toInt ≤ (gi σ22 74 14).toInt) (pσ22_1 : (gi σ22 74 14).toInt ≤ (gi σ21 74 13).toInt) => ?_)
    have fσ22 : Fr [74, 118] [14] σ0 σ22 := Fr_tr fσ21 cσ22 (by decide) (by decide)
    have k_57 : (gi σ22 74 11).toInt = (gi σ21 74 11).toInt := congrArg Int32.toInt (cσ22.2.1 11 (by decide))
    have k_58 : (gi σ22 74 12).toInt = (gi σ21 74 12).toInt := congrArg Int32.toInt (cσ22.2.1 12 (by decide))
    have k_59 : (gi σ22 74 13).toInt = (gi σ21 74 13).toInt := congrArg Int32.toInt (cσ22.2.1 13 (by decide))
    have k_60 : (gi σ22 74 50).toInt = (gi σ21 74 50).toInt := congrArg Int32.toInt (cσ22.2.1 50 (by decide))
    have hW9 : hid (∀ k : Nat, ¬ k = a1.toNatClampNeg → gi σ22 118 k = gi σ0 118 k) := fun k hk => (congrFun (cσ22.1 118 (by decide)).1 k).trans (un hW9 k hk)
    refine ⟨i_bool (by omega) (by omega), ?_⟩
    exact h9ret r23 σ22 mσ22 fσ22 (by omega) (by omega) (by first | omega | assumption | rfl) (by first | omega | assumption | rfl) (by first | omega | assumption | rfl)
