/-! a clause, a text: what stays as it was -/
noncomputable def CZ (σ0 σ : Sg) (c : Nat) : Prop := (∀ k, gi σ 122 k = gi σ0 122 k) ∧ (∀ k, gi σ 120 k = gi σ0 120 k) ∧ (∀ k, gi σ 121 k = gi σ0 121 k) ∧ (∀ k, ¬ k = c → gi σ 118 k = gi σ0 118 k) ∧ gi σ 74 24 = gi σ0 74 24
theorem CZ_head {S F : List Nat} {σ0 σ : Sg} {c : Nat} (f : Fr S F σ0 σ) (h1 : 122 ∉ S) (h2 : 120 ∉ S) (h3 : 121 ∉ S) (h4 : 24 ∉ F) (p : ∀ k : Nat, ¬ k = c → gi σ 118 k = gi σ0 118 k) : CZ σ0 σ c :=
  ⟨fun k => congrFun (f.1 122 h1).1 k, fun k => congrFun (f.1 120 h2).1 k, fun k => congrFun (f.1 121 h3).1 k, p, f.2.1 24 h4⟩
theorem CZ_fr {S F : List Nat} {σ0 σ σ' : Sg} {c : Nat} (q : CZ σ0 σ c) (f : Fr S F σ σ') (h1 : 122 ∉ S) (h2 : 120 ∉ S) (h3 : 121 ∉ S) (h5 : 118 ∉ S) (h4 : 24 ∉ F) : CZ σ0 σ' c :=
  ⟨fun k => (congrFun (f.1 122 h1).1 k).trans (q.1 k), fun k => (congrFun (f.1 120 h2).1 k).trans (q.2.1 k), fun k => (congrFun (f.1 121 h3).1 k).trans (q.2.2.1 k), fun k hk => (congrFun (f.1 118 h5).1 k).trans (q.2.2.2.1 k hk), (f.2.1 24 h4).trans q.2.2.2.2⟩
theorem CZ_119 {σ0 σ : Sg} {c j : Nat} {v : Int32} (q : CZ σ0 σ c) : CZ σ0 (si σ 119 j v) c :=
  ⟨fun k => (gi_si_ne (Or.inl (by decide))).trans (q.1 k), fun k => (gi_si_ne (Or.inl (by decide))).trans (q.2.1 k), fun k => (gi_si_ne (Or.inl (by decide))).trans (q.2.2.1 k), fun k hk => (gi_si_ne (Or.inl (by decide))).trans (q.2.2.2.1 k hk), (gi_si_ne (Or.inl (by decide))).trans q.2.2.2.2⟩
noncomputable def CLA (σ σ' : Sg) (c : Nat) : Prop := BL σ σ' ∧ (∀ k, ¬ k = c → gi σ' 118 k = gi σ 118 k ∧ gi σ' 120 k = gi σ 120 k ∧ gi σ' 121 k = gi σ 121 k) ∧ ((gi σ' 118 c).toInt ≤ 1 → gi σ' 120 c = gi σ 74 24 ∧ gi σ' 121 c = gi σ' 74 24 ∧ OKP σ' (gi σ 74 24).toNatClampNeg (gi σ' 74 24).toNatClampNeg 1)
theorem CLA_z {σ0 σ : Sg} {c : Nat} (h : CZ σ0 σ c) (w : ¬ (gi σ 118 c).toInt ≤ 1) : CLA σ0 σ c :=
  ⟨fun k _ => h.1 k, fun k hk => ⟨h.2.2.2.1 k hk, h.2.1 k, h.2.2.1 k⟩, fun z => absurd z w⟩
theorem CLA_e {σ0 σ1 σ2 : Sg} {c : Nat} (h : CZ σ0 σ1 c) (e : TE σ1 σ2 c) (k8 : ∀ k, gi σ2 118 k = gi σ1 118 k) : CLA σ0 σ2 c := by
  obtain ⟨e1, e2, e3, e4, e5⟩ := e
  obtain ⟨h1, h2, h3, h4, h5⟩ := h
  refine ⟨fun k hk => (e2 k (by rw [h5]; exact hk)).trans (h1 k), fun k hk => ⟨(k8 k).trans (h4 k hk), (e5 k hk).1.trans (h2 k), (e5 k hk).2.trans (h3 k)⟩, fun _ => ⟨e3.trans h5, e4, ?_⟩⟩
  rw [← h5]; exact e1
noncomputable def OKN (σ : Sg) (f : Nat) (n : Int) : Prop := ∀ i : Nat, (i : Int) < n → (gi σ 118 (10 * f + i)).toInt ≤ 1 → ∃ lo hi : Nat, (gi σ 120 (10 * f + i)).toInt = lo ∧ (gi σ 121 (10 * f + i)).toInt = hi ∧ 100 * f ≤ lo ∧ lo ≤ hi ∧ (hi : Int) ≤ (gi σ 74 24).toInt ∧ okSeg σ lo hi
theorem OKN_step {σ σ' : Sg} {f c : Nat} {n : Int} (h : OKN σ f n) (cl : CLA σ σ' c) (hc : (c : Int) = 10 * f + n) (h0 : 0 ≤ n) (s0 : 100 * (f : Int) ≤ (gi σ 74 24).toInt) (s1 : (gi σ 74 24).toInt ≤ (gi σ' 74 24).toInt) : OKN σ' f (n + 1) := by
  intro i hi hw
  by_cases e : (i : Int) = n
  · rw [show 10 * f + i = c from by omega] at hw ⊢
    obtain ⟨e1, e2, q⟩ := cl.2.2 hw
    have c1 := cl_eq (x := gi σ 74 24) (by omega)
    have c2 := cl_eq (x := gi σ' 74 24) (by omega)
    exact ⟨(gi σ 74 24).toNatClampNeg, (gi σ' 74 24).toNatClampNeg, by rw [e1]; exact c1.symm, by rw [e2]; exact c2.symm, by omega, by omega, by omega, OKP_seg q⟩
  · obtain ⟨k1, k2, k3⟩ := cl.2.1 (10 * f + i) (by omega)
    rw [k1] at hw
    obtain ⟨lo, hi', e1, e2, e3, e4, e5, e6⟩ := h i (by omega) hw
    exact ⟨lo, hi', by rw [k2]; exact e1, by rw [k3]; exact e2, e3, e4, by omega, okSeg_eq (fun j _ j2 => cl.1 j (by omega)) e6⟩
theorem OKN_fr {S F : List Nat} {σ σ' : Sg} {f : Nat} {n : Int} (h : OKN σ f n) (q : Fr S F σ σ') (h1 : 122 ∉ S) (h2 : 120 ∉ S) (h3 : 121 ∉ S) (h5 : 118 ∉ S) (h4 : 24 ∉ F) : OKN σ' f n := by
  intro i hi hw
  rw [show gi σ' 118 (10 * f + i) = gi σ 118 (10 * f + i) from congrFun (q.1 118 h5).1 _] at hw
  obtain ⟨lo, hi', e1, e2, e3, e4, e5, e6⟩ := h i hi hw
  refine ⟨lo, hi', ?_, ?_, e3, e4, ?_, okSeg_eq (fun j _ _ => congrFun (q.1 122 h1).1 j) e6⟩
  · rw [show gi σ' 120 (10 * f + i) = gi σ 120 (10 * f + i) from congrFun (q.1 120 h2).1 _]; exact e1
  · rw [show gi σ' 121 (10 * f + i) = gi σ 121 (10 * f + i) from congrFun (q.1 121 h3).1 _]; exact e2
  · rw [q.2.1 24 h4]; exact e5
theorem OKN_117 {σ : Sg} {f j : Nat} {n : Int} {v : Int32} (h : OKN σ f n) : OKN (si σ 117 j v) f n := by
  intro i hi hw
  rw [gi_si_ne (Or.inl (by decide))] at hw
  obtain ⟨lo, hi', e1, e2, e3, e4, e5, e6⟩ := h i hi hw
  exact ⟨lo, hi', by rw [gi_si_ne (Or.inl (by decide))]; exact e1, by rw [gi_si_ne (Or.inl (by decide))]; exact e2, e3, e4, by rw [gi_si_ne (Or.inl (by decide))]; exact e5, okSeg_eq (fun k _ _ => gi_si_ne (Or.inl (by decide))) e6⟩
theorem OKN_end {σ : Sg} {f : Nat} {n : Int} (h : OKN σ f n) (hc : (gi σ 117 f).toInt = n) (hs : (gi σ 74 24).toInt ≤ 100 * (f : Int) + 100) : okF σ f := by
  intro i hi hcl hw
  rw [hc] at hcl
  obtain ⟨lo, hi', e1, e2, e3, e4, e5, e6⟩ := h i hcl hw
  exact ⟨lo, hi', e1, e2, e3, e4, by omega, e6⟩
theorem FV_cl {σ : Sg} {k : Nat} {v : Int32} (h : FV σ) (h1 : (gi σ 74 12).toInt < (gi σ 74 11).toInt) (h2 : (gi σ 74 50).toInt < (gi σ 74 11).toInt) (hk : (gi σ 74 11).toInt ≤ (k : Int)) : FV (si σ 117 k v) := by
  intro f hf hc
  rw [gi_si_ne (Or.inl (by decide)), gi_si_ne (Or.inl (by decide)), gi_si_ne (Or.inl (by decide))] at hc
  intro n hn hcl hw
  rw [gi_si_ne (Or.inr (by omega))] at hcl
  rw [gi_si_ne (Or.inl (by decide))] at hw
  obtain ⟨lo, hi, e1, e2, e3, e4, e5, e6⟩ := h f hf hc n hn hcl hw
  exact ⟨lo, hi, by rw [gi_si_ne (Or.inl (by decide))]; exact e1, by rw [gi_si_ne (Or.inl (by decide))]; exact e2, e3, e4, e5, okSeg_eq (fun j _ _ => gi_si_ne (Or.inl (by decide))) e6⟩
theorem FV_the {σ : Sg} {f : Nat} (h : FV σ) (q : okF σ f) (e : (gi σ 74 11).toInt = (f : Int)) : FV (si σ 74 12 (gi σ 74 11)) := by
  intro g hg hc
  refine okF_si rfl ?_
  rw [gi_si_ne (Or.inr (by decide)), gi_si_eq, gi_si_ne (Or.inr (by decide))] at hc
  by_cases z : (g : Int) = (gi σ 74 11).toInt
  · rw [show g = f from by omega]; exact q
  · exact h g hg (by omega)
theorem FV_more {σ : Sg} {v : Int32} (h : FV σ) (e : (gi σ 74 12).toInt = (gi σ 74 11).toInt) (hv : v.toInt = (gi σ 74 11).toInt + 1) : FV (si σ 74 11 v) := by
  intro g hg hc
  refine okF_si rfl (h g hg ?_)
  rw [gi_si_eq, gi_si_ne (Or.inr (by decide)), gi_si_ne (Or.inr (by decide)), hv] at hc
  omega
set_option maxRecDepth 100000 in
set_option maxHeartbeats 4000000 in
theorem k_X12_takesClause {l : Launch} {V : Vx} {a1 : Int32} {σ0 : Sg} {Qk : Int32 → Sg → Prop} (m0 : MI σ0) (l_a1 : 0 ≤ a1.toInt) (u_a1 : a1.toInt ≤ 59) (pre0 : (gi σ0 74 12).toInt < (gi σ0 74 11).toInt) (pre1 : (gi σ0 74 50).toInt < (gi σ0 74 11).toInt) (pre2 : 100 * (gi σ0 74 11).toInt ≤ (gi σ0 74 24).toInt) (pre3 : (gi σ0 74 24).toInt ≤ 100 * (gi σ0 74 11).toInt + (gi σ0 74 14).toInt) (pre4 : (gi σ0 74 14).toInt ≤ (gi σ0 74 13).toInt) (pre5 : (gi σ0 74 11).toInt ≤ 5) (pre6 : 10 * (gi σ0 74 11).toInt ≤ a1.toInt) (h9ret : ∀ (r : Int32) (σ' : Sg), MI σ' → Fr [74, 118, 119, 120, 121, 122, 123] [14, 15, 24, 25, 26] σ0 σ' → (0 ≤ r.toInt) → (r.toInt ≤ 1) → ((gi σ0 74 14).toInt ≤ (gi σ' 74 14).toInt) → ((gi σ' 74 14).toInt ≤ (gi σ0 74 13).toInt) → ((r.toInt = 1 ∧ (gi σ0 74 24).toInt ≤ (gi σ' 74 24).toInt ∧ (gi σ' 74 24).toInt ≤ 100 * (gi σ0 74 11).toInt + (gi σ' 74 14).toInt) ∨ r.toInt = 0) → (hid (r.toInt = 1 → CLA σ0 σ' a1.toNatClampNeg)) → Qk r σ') : K_X12_takesClause l V a1 σ0 Qk := by
  refine e_X12_takesClause (fun M hl hV hN C => ?_)
  subst hl
  subst hV
  have f0 : Fr [74, 118, 119, 120, 121, 122, 123] [14, 15, 24, 25, 26] σ0 σ0 := Fr_rf
  have mw13 := MI_f13 m0
  refine s_X12_takesClause_0 C hN ?_
  refine k_X12_takesHead m0 (by omega) (by omega) (by first | omega | assumption | rfl) (by first | omega | assumption | rfl) (by first | omega | assumption | rfl) (by first | omega | assumption | rfl) (fun r2 σ1 mσ1 cσ1 plσ1 phσ1 (pσ1_0 : (gi σ0 74 14).toInt ≤ (gi σ1 74 14).toInt) (pσ1_1 : (gi σ1 74 14).toInt ≤ (gi σ0 74 13).toInt) (pσ1_2 : hid (∀ k : Nat, ¬ k = a1.toNatClampNeg → gi σ1 118 k = gi σ0 118 k)) => ?_)
  have fσ1 : Fr [74, 118, 119, 120, 121, 122, 123] [14, 15, 24, 25, 26] σ0 σ1 := Fr_tr f0 cσ1 (by decide) (by decide)
  have k_1 : (gi σ1 74 11).toInt = (gi σ0 74 11).toInt := congrArg Int32.toInt (cσ1.2.1 11 (by decide))
  have k_2 : (gi σ1 74 12).toInt = (gi σ0 74 12).toInt := congrArg Int32.toInt (cσ1.2.1 12 (by decide))
  have k_3 : (gi σ1 74 13).toInt = (gi σ0 74 13).toInt := congrArg Int32.toInt (cσ1.2.1 13 (by decide))
  have k_4 : (gi σ1 74 24).toInt = (gi σ0 74 24).toInt := congrArg Int32.toInt (cσ1.2.1 24 (by decide))
  have k_5 : (gi σ1 74 50).toInt = (gi σ0 74 50).toInt := congrArg Int32.toInt (cσ1.2.1 50 (by decide))
  have hZ9 : CZ σ0 σ1 a1.toNatClampNeg := CZ_head cσ1 (by decide) (by decide) (by decide) (by decide) pσ1_2
  refine ⟨?_, ?_⟩
  · intro q_6
    have b_7 : r2.toInt = 0 := congrArg Int32.toInt q_6
    have z_8 : (0 : Int32).toInt = 0 := rfl
    exact h9ret (0 : Int32) σ1 mσ1 fσ1 (by omega) (by omega) (by first | omega | assumption | rfl) (by first | omega | assumption | rfl) (by first | omega | assumption | rfl) (by first | exact fun z => absurd z (by decide) | exact fun _ => CLA_z hZ9 (by omega) | exact fun _ => CLA_e hZ9 (un pσ14_3 (by omega)) (fun k => congrFun (cσ14.1 118 (by decide)).1 k))
  · intro q_6
    have b_9 : ¬ r2.toInt = 0 := fun h9 => q_6 (Int32.toInt_inj.mp h9)
    refine k_X12_takesNumber mσ1 (by first | omega | assumption | rfl) (fun r5 σ4 mσ4 cσ4 plσ4 phσ4 (pσ4_0 : (gi σ1 74 14).toInt ≤ (gi σ4 74 14).toInt) (pσ4_1 : (gi σ4 74 14).toInt ≤ (gi σ1 74 13).toInt) => ?_)
    have fσ4 : Fr [74, 118, 119, 120, 121, 122, 123] [14, 15, 24, 25, 26] σ0 σ4 := Fr_tr fσ1 cσ4 (by decide) (by decide)
    have k_10 : (gi σ4 74 11).toInt = (gi σ1 74 11).toInt := congrArg Int32.toInt (cσ4.2.1 11 (by decide))
    have k_11 : (gi σ4 74 12).toInt = (gi σ1 74 12).toInt := congrArg Int32.toInt (cσ4.2.1 12 (by decide))
    have k_12 : (gi σ4 74 13).toInt = (gi σ1 74 13).toInt := congrArg Int32.toInt (cσ4.2.1 13 (by decide))
    have k_13 : (gi σ4 74 24).toInt = (gi σ1 74 24).toInt := congrArg Int32.toInt (cσ4.2.1 24 (by decide))
    have k_14 : (gi σ4 74 50).toInt = (gi σ1 74 50).toInt := congrArg Int32.toInt (cσ4.2.1 50 (by decide))
    have hZ9 : CZ σ0 σ4 a1.toNatClampNeg := CZ_fr hZ9 cσ4 (by decide) (by decide) (by decide) (by decide) (by decide)
    refine ⟨?_, ?_⟩
    · intro q_15
      have b_16 : ¬ r5.toInt = 0 := fun h9 => q_15 (Int32.toInt_inj.mp h9)
      have hv_17 : vp_in a1 60 := vp_in_iff.mpr ⟨by omega, by omega⟩
      refine ⟨hv_17, ?_⟩
      intro σ8 eσ8
      have mσ8 : MI σ8 := by rw [eσ8]; exact MIs_au (a := 119) mσ4 rfl rfl
      have fσ8 : Fr [74, 118, 119, 120, 121, 122, 123] [14, 15, 24, 25, 26] σ0 σ8 := by rw [eσ8]; exact Fr_si fσ4 (by decide) (fun h9 => absurd h9 (by decide))
      have k_18 : (gi σ8 74 11).toInt = (gi σ4 74 11).toInt := by rw [eσ8]; exact congrArg Int32.toInt (gi_si_ne (Or.inl (by decide)))
      have k_19 : (gi σ8 74 12).toInt = (gi σ4 74 12).toInt := by rw [eσ8]; exact congrArg Int32.toInt (gi_si_ne (Or.inl (by decide)))
      have k_20 : (gi σ8 74 13).toInt = (gi σ4 74 13).toInt := by rw [eσ8]; exact congrArg Int32.toInt (gi_si_ne (Or.inl (by decide)))
      have k_21 : (gi σ8 74 14).toInt = (gi σ4 74 14).toInt := by rw [eσ8]; exact congrArg Int32.toInt (gi_si_ne (Or.inl (by decide)))
      have k_22 : (gi σ8 74 24).toInt = (gi σ4 74 24).toInt := by rw [eσ8]; exact congrArg Int32.toInt (gi_si_ne (Or.inl (by decide)))
      have k_23 : (gi σ8 74 50).toInt = (gi σ4 74 50).toInt := by rw [eσ8]; exact congrArg Int32.toInt (gi_si_ne (Or.inl (by decide)))
      have hZ9 : CZ σ0 σ8 a1.toNatClampNeg := by rw [eσ8]; exact CZ_119 hZ9
      refine ⟨hv_17, ?_⟩
      refine ⟨?_, ?_⟩
      · intro q_24
        have b_25 : (2 : Int) ≤ (gi σ8 118 a1.toNatClampNeg).toInt := Int32.le_iff_toInt_le.mp q_24
        have z_26 : (1 : Int32).toInt = 1 := rfl
        exact h9ret (1 : Int32) σ8 mσ8 fσ8 (by omega) (by omega) (by first | omega | assumption | rfl) (by first | omega | assumption | rfl) (by first | omega | assumption | rfl) (by first | exact fun z => absurd z (by decide) | exact fun _ => CLA_z hZ9 (by omega) | exact fun _ => CLA_e hZ9 (un pσ14_3 (by omega)) (fun k => congrFun (cσ14.1 118 (by decide)).1 k))
      · intro q_24
        have b_27 : ¬ (2 : Int) ≤ (gi σ8 118 a1.toNatClampNeg).toInt := fun h9 => q_24 (Int32.le_iff_toInt_le.mpr h9)
        have z_28 : (32 : Int32).toInt = 32 := rfl
        refine k_X12_takes mσ8 (by omega) (by omega) (fun r12 σ11 mσ11 cσ11 plσ11 phσ11 (pσ11_0 : (r12.toInt = 1 ∧ (gi σ11 74 14).toInt = (gi σ8 74 14).toInt + 1 ∧ (gi σ8 74 14).toInt < (gi σ8 74 13).toInt) ∨ (r12.toInt = 0 ∧ (gi σ11 74 14).toInt = (gi σ8 74 14).toInt)) => ?_)
        have fσ11 : Fr [74, 118, 119, 120, 121, 122, 123] [14, 15, 24, 25, 26] σ0 σ11 := Fr_tr fσ8 cσ11 (by decide) (by decide)
        have k_29 : (gi σ11 74 11).toInt = (gi σ8 74 11).toInt := congrArg Int32.toInt (cσ11.2.1 11 (by decide))
        have k_30 : (gi σ11 74 12).toInt = (gi σ8 74 12).toInt := congrArg Int32.toInt (cσ11.2.1 12 (by decide))
        have k_31 : (gi σ11 74 13).toInt = (gi σ8 74 13).toInt := congrArg Int32.toInt (cσ11.2.1 13 (by decide))
        have k_32 : (gi σ11 74 24).toInt = (gi σ8 74 24).toInt := congrArg Int32.toInt (cσ11.2.1 24 (by decide))
        have k_33 : (gi σ11 74 50).toInt = (gi σ8 74 50).toInt := congrArg Int32.toInt (cσ11.2.1 50 (by decide))
        have hZ9 : CZ σ0 σ11 a1.toNatClampNeg := CZ_fr hZ9 cσ11 (by decide) (by decide) (by decide) (by decide) (by decide)
        refine ⟨?_, ?_⟩
        · intro q_34
          have b_35 : r12.toInt = 0 := congrArg Int32.toInt q_34
          have z_36 : (0 : Int32).toInt = 0 := rfl
          exact h9ret (0 : Int32) σ11 mσ11 fσ11 (by omega) (by omega) (by first | omega | assumption | rfl) (by first | omega | assumption | rfl) (by first | omega | assumption | rfl) (by first | exact fun z => absurd z (by decide) | exact fun _ => CLA_z hZ9 (by omega) | exact fun _ => CLA_e hZ9 (un pσ14_3 (by omega)) (fun k => congrFun (cσ14.1 118 (by decide)).1 k))
        · intro q_34
          have b_37 : ¬ r12.toInt = 0 := fun h9 => q_34 (Int32.toInt_inj.mp h9)
          refine k_X12_takesE mσ11 (by omega) (by omega) (by first | omega | assumption | rfl) (by first | omega | assumption | rfl) (by first | omega | assumption | rfl) (by first | omega | assumption | rfl) (by first | omega | assumption | rfl) (by first | omega | assumption | rfl) (by first | omega | assumption | rfl) (fun r15 σ14 mσ14 cσ14 plσ14 phσ14 (pσ14_0 : (gi σ11 74 14).toInt ≤ (gi σ14 74 14).toInt) (pσ14_1 : (gi σ14 74 14).toInt ≤ (gi σ11 74 13).toInt) (pσ14_2 : (r15.toInt = 1 ∧ (gi σ11 74 24).toInt ≤ (gi σ14 74 24).toInt ∧ (gi σ14 74 24).toInt + 1 ≤ 100 * (gi σ11 74 11).toInt + (gi σ14 74 14).toInt) ∨ r15.toInt = 0) (pσ14_3 : hid (r15.toInt = 1 → TE σ11 σ14 a1.toNatClampNeg)) => ?_)
          have fσ14 : Fr [74, 118, 119, 120, 121, 122, 123] [14, 15, 24, 25, 26] σ0 σ14 := Fr_tr fσ11 cσ14 (by decide) (by decide)
          have k_38 : (gi σ14 74 11).toInt = (gi σ11 74 11).toInt := congrArg Int32.toInt (cσ14.2.1 11 (by decide))
          have k_39 : (gi σ14 74 12).toInt = (gi σ11 74 12).toInt := congrArg Int32.toInt (cσ14.2.1 12 (by decide))
          have k_40 : (gi σ14 74 13).toInt = (gi σ11 74 13).toInt := congrArg Int32.toInt (cσ14.2.1 13 (by decide))
          have k_41 : (gi σ14 74 50).toInt = (gi σ11 74 50).toInt := congrArg Int32.toInt (cσ14.2.1 50 (by decide))
          refine ⟨?_, ?_⟩
          · intro q_42
            have b_43 : r15.toInt = 0 := congrArg Int32.toInt q_42
            have z_44 : (0 : Int32).toInt = 0 := rfl
            exact h9ret (0 : Int32) σ14 mσ14 fσ14 (by omega) (by omega) (by first | omega | assumption | rfl) (by first | omega | assumption | rfl) (by first | omega | assumption | rfl) (by first | exact fun z => absurd z (by decide) | exact fun _ => CLA_z hZ9 (by omega) | exact fun _ => CLA_e hZ9 (un pσ14_3 (by omega)) (fun k => congrFun (cσ14.1 118 (by decide)).1 k))
          · intro q_42
            have b_45 : ¬ r15.toInt = 0 := fun h9 => q_42 (Int32.toInt_inj.mp h9)
            have z_46 : (1 : Int32).toInt = 1 := rfl
            exact h9ret (1 : Int32) σ14 mσ14 fσ14 (by omega) (by omega) (by first | omega | assumption | rfl) (by first | omega | assumption | rfl) (by first | omega | assumption | rfl) (by first | exact fun z => absurd z (by decide) | exact fun _ => CLA_z hZ9 (by omega) | exact fun _ => CLA_e hZ9 (un pσ14_3 (by omega)) (fun k => congrFun (cσ14.1 118 (by decide)).1 k))
    · intro q_15
      have b_47 : r5.toInt = 0 := congrArg Int32.toInt q_15
      have z_48 : (0 : Int32).toInt = 0 := rfl
      exact h9ret (0 : Int32) σ4 mσ4 fσ4 (by omega) (by omega) (by first | omega | assumption | rfl) (by first | omega | assumption | rfl) (by first | omega | assumption | rfl) (by first | exact fun z => absurd z (by decide) | exact fun _ => CLA_z hZ9 (by omega) | exact fun _ => CLA_e hZ9 (un pσ14_3 (by omega)) (fun k => congrFun (cσ14.1 118 (by decide)).1 k))
set_option maxRecDepth 100000 in
set_option maxHeartbeats 4000000 in
theorem k_X12_goesText {l : Launch} {V : Vx} {a1 : Int32} {σ0 : Sg} {Qk : Int32 → Sg → Prop} (m0 : MI σ0) (l_a1 : 0 ≤ a1.toInt) (u_a1 : a1.toInt ≤ 5) (pre0 : (gi σ0 74 12).toInt < (gi σ0 74 11).toInt) (pre1 : (gi σ0 74 50).toInt < (gi σ0 74 11).toInt) (pre2 : (gi σ0 74 11).toInt = a1.toInt) (h9ret : ∀ (r : Int32) (σ' : Sg), MI σ' → Fr [74, 117, 118, 119, 120, 121, 122, 123] [14, 15, 24, 25, 26] σ0 σ' → (0 ≤ r.toInt) → (r.toInt ≤ 1) → (hid (r.toInt = 1 → okF σ' a1.toNatClampNeg)) → Qk r σ') : K_X12_goesText l V a1 σ0 Qk := by
  refine e_X12_goesText (fun M hl hV hN C => ?_)
  subst hl
  subst hV
  have T : ∀ n : Nat, (∀ (x1 : Int32) (x2 : Int32) (σ : Sg), MI σ → Fr [74, 117, 118, 119, 120, 121, 122, 123] [14, 15, 24, 25, 26] σ0 σ → (0 ≤ x1.toInt) → (x1.toInt ≤ 5) → (0 ≤ x2.toInt) → (x2.toInt ≤ 9) → (x1 = a1) → ((gi σ 74 12).toInt < (gi σ 74 11).toInt) → ((gi σ 74 50).toInt < (gi σ 74 11).toInt) → ((gi σ 74 11).toInt = x1.toInt) → (OKN σ x1.toNatClampNeg x2.toInt) → ((gi σ 74 24).toInt ≤ 100 * (gi σ 74 11).toInt + (gi σ 74 14).toInt) → (100 * (gi σ 74 11).toInt ≤ (gi σ 74 24).toInt) → ((gi σ 74 14).toInt ≤ (gi σ 74 13).toInt) → (10 - x2.toInt).toNat < n → PS M 15 [(0, .ref 74), (1, .int x1), (2, .int x2)] [] σ (0, 0)) := by
    intro n
    induction n with
    | zero => exact fun _ _ _ _ _ _ _ _ _ _ _ _ _ _ _ _ _ h8 => absurd h8 (Nat.not_lt_zero _)
    | succ n ih =>
      have ih15 := ih
      · intro x1 x2 σ mσ fσ lx1 ux1 lx2 ux2 i0 i1 i2 i3 i4 i5 i6 i7 hmu
        have mw13 := MI_f13 mσ
        have e_x1 := cl_eq (x := x1) (by omega)
        have i0n : x1.toNatClampNeg = a1.toNatClampNeg := by rw [i0]
        have e_c := cl_eq (x := (((10 : Int32) * x1) + x2)) (by have h9 := i_mull (c := (10 : Int32)) (y := x1) (k := 10) rfl (by omega) (by omega); have h8 := i_add (x := ((10 : Int32) * x1)) (y := x2) (by omega) (by omega); omega)
        refine s_X12_goesText_15 C hN ?_
        have t_1 : ((10 : Int32) * x1).toInt = 10 * x1.toInt := i_mull rfl (by omega) (by omega)
        have t_2 : (((10 : Int32) * x1) + x2).toInt = ((10 : Int32) * x1).toInt + x2.toInt := i_add (x := ((10 : Int32) * x1)) (y := x2) (by show (_ : Int) ≤ ((10 : Int32) * x1).toInt + x2.toInt; omega) (by show ((10 : Int32) * x1).toInt + x2.toInt ≤ (_ : Int); omega)
        refine k_X12_takesClause mσ (by omega) (by omega) (by first | omega | assumption | rfl) (by first | omega | assumption | rfl) (by first | omega | assumption | rfl) (by first | omega | assumption | rfl) (by first | omega | assumption | rfl) (by first | omega | assumption | rfl) (by first | omega | assumption | rfl) (fun r2 σ1 mσ1 cσ1 plσ1 phσ1 (pσ1_0 : (gi σ 74 14).toInt ≤ (gi σ1 74 14).toInt) (pσ1_1 : (gi σ1 74 14).toInt ≤ (gi σ 74 13).toInt) (pσ1_2 : (r2.toInt = 1 ∧ (gi σ 74 24).toInt ≤ (gi σ1 74 24).toInt ∧ (gi σ1 74 24).toInt ≤ 100 * (gi σ 74 11).toInt + (gi σ1 74 14).toInt) ∨ r2.toInt = 0) (pσ1_3 : hid (r2.toInt = 1 → CLA σ σ1 (((10 : Int32) * x1) + x2).toNatClampNeg)) => ?_)
        have fσ1 : Fr [74, 117, 118, 119, 120, 121, 122, 123] [14, 15, 24, 25, 26] σ0 σ1 := Fr_tr fσ cσ1 (by decide) (by decide)
        have k_3 : (gi σ1 74 11).toInt = (gi σ 74 11).toInt := congrArg Int32.toInt (cσ1.2.1 11 (by decide))
        have k_4 : (gi σ1 74 12).toInt = (gi σ 74 12).toInt := congrArg Int32.toInt (cσ1.2.1 12 (by decide))
        have k_5 : (gi σ1 74 13).toInt = (gi σ 74 13).toInt := congrArg Int32.toInt (cσ1.2.1 13 (by decide))
        have k_6 : (gi σ1 74 50).toInt = (gi σ 74 50).toInt := congrArg Int32.toInt (cσ1.2.1 50 (by decide))
        try have hN9 : OKN σ1 x1.toNatClampNeg (x2.toInt + 1) := OKN_fr (by assumption) cσ1 (by decide) (by decide) (by decide) (by decide) (by decide)
        refine ⟨?_, ?_⟩
        · intro q_7
          have b_8 : ¬ r2.toInt = 0 := fun h9 => q_7 (Int32.toInt_inj.mp h9)
          have hN9 : OKN σ1 x1.toNatClampNeg (x2.toInt + 1) := OKN_step i4 (un pσ1_3 (by omega)) (by omega) (by omega) (by omega) (by omega)
          intro v4 ev4
          have t_9 : (x2 + (1 : Int32)).toInt = x2.toInt + 1 := i_add (x := x2) (y := (1 : Int32)) (by show (_ : Int) ≤ x2.toInt + 1; omega) (by show x2.toInt + 1 ≤ (_ : Int); omega)
          have t_10 : v4.toInt = (x2 + (1 : Int32)).toInt := congrArg Int32.toInt ev4
          have hv_11 : vp_in x1 6 := vp_in_iff.mpr ⟨by omega, by omega⟩
          refine ⟨hv_11, ?_⟩
          intro σ6 eσ6
          have mσ6 : MI σ6 := by rw [eσ6]; exact MIs_a117 mσ1 (by omega) (by omega) (FV_cl mσ1.2.2 (by omega) (by omega) (by omega))
          have fσ6 : Fr [74, 117, 118, 119, 120, 121, 122, 123] [14, 15, 24, 25, 26] σ0 σ6 := by rw [eσ6]; exact Fr_si fσ1 (by decide) (fun h9 => absurd h9 (by decide))
          have k_12 : (gi σ6 74 11).toInt = (gi σ1 74 11).toInt := by rw [eσ6]; exact congrArg Int32.toInt (gi_si_ne (Or.inl (by decide)))
          have k_13 : (gi σ6 74 12).toInt = (gi σ1 74 12).toInt := by rw [eσ6]; exact congrArg Int32.toInt (gi_si_ne (Or.inl (by decide)))
          have k_14 : (gi σ6 74 13).toInt = (gi σ1 74 13).toInt := by rw [eσ6]; exact congrArg Int32.toInt (gi_si_ne (Or.inl (by decide)))
          have k_15 : (gi σ6 74 14).toInt = (gi σ1 74 14).toInt := by rw [eσ6]; exact congrArg Int32.toInt (gi_si_ne (Or.inl (by decide)))
          have k_16 : (gi σ6 74 24).toInt = (gi σ1 74 24).toInt := by rw [eσ6]; exact congrArg Int32.toInt (gi_si_ne (Or.inl (by decide)))
          have k_17 : (gi σ6 74 50).toInt = (gi σ1 74 50).toInt := by rw [eσ6]; exact congrArg Int32.toInt (gi_si_ne (Or.inl (by decide)))
          have hN9 : OKN σ6 x1.toNatClampNeg (x2.toInt + 1) := by rw [eσ6]; exact OKN_117 (by assumption)
          refine ⟨?_, ?_⟩
          · intro q_18
            have t_19 := MI_f14 mσ6
            have t_20 := MI_f13 mσ6
            have b_21 : ¬ (gi σ6 74 14).toInt = (gi σ6 74 13).toInt := fun h9 => q_18 (Int32.toInt_inj.mp h9)
            refine ⟨?_, ?_⟩
            · intro q_22
              have b_23 : v4.toInt = 10 := congrArg Int32.toInt q_22
              have z_24 : (0 : Int32).toInt = 0 := rfl
              exact h9ret (0 : Int32) σ6 mσ6 fσ6 (by omega) (by omega) (by first | exact fun z => absurd z (by decide) | exact fun _ => by rw [← i0n]; exact OKN_end (n := x2.toInt + 1) (by assumption) (by rw [eσ6, gi_si_eq]; omega) (by omega))
            · intro q_22
              have b_25 : ¬ v4.toInt = 10 := fun h9 => q_22 (Int32.toInt_inj.mp h9)
              have z_26 : (59 : Int32).toInt = 59 := rfl
              refine k_X12_takes mσ6 (by omega) (by omega) (fun r10 σ9 mσ9 cσ9 plσ9 phσ9 (pσ9_0 : (r10.toInt = 1 ∧ (gi σ9 74 14).toInt = (gi σ6 74 14).toInt + 1 ∧ (gi σ6 74 14).toInt < (gi σ6 74 13).toInt) ∨ (r10.toInt = 0 ∧ (gi σ9 74 14).toInt = (gi σ6 74 14).toInt)) => ?_)
              have fσ9 : Fr [74, 117, 118, 119, 120, 121, 122, 123] [14, 15, 24, 25, 26] σ0 σ9 := Fr_tr fσ6 cσ9 (by decide) (by decide)
              have k_27 : (gi σ9 74 11).toInt = (gi σ6 74 11).toInt := congrArg Int32.toInt (cσ9.2.1 11 (by decide))
              have k_28 : (gi σ9 74 12).toInt = (gi σ6 74 12).toInt := congrArg Int32.toInt (cσ9.2.1 12 (by decide))
              have k_29 : (gi σ9 74 13).toInt = (gi σ6 74 13).toInt := congrArg Int32.toInt (cσ9.2.1 13 (by decide))
              have k_30 : (gi σ9 74 24).toInt = (gi σ6 74 24).toInt := congrArg Int32.toInt (cσ9.2.1 24 (by decide))
              have k_31 : (gi σ9 74 50).toInt = (gi σ6 74 50).toInt := congrArg Int32.toInt (cσ9.2.1 50 (by decide))
              try have hN9 : OKN σ9 x1.toNatClampNeg (x2.toInt + 1) := OKN_fr (by assumption) cσ9 (by decide) (by decide) (by decide) (by decide) (by decide)
              refine ⟨?_, ?_⟩
              · intro q_32
                have b_33 : ¬ r10.toInt = 0 := fun h9 => q_32 (Int32.toInt_inj.mp h9)
                exact ih15 x1 v4 σ9 mσ9 fσ9 (by omega) (by omega) (by omega) (by omega) (by first | omega | assumption | rfl) (by first | omega | assumption | rfl) (by first | omega | assumption | rfl) (by first | omega | assumption | rfl) (by first | exact fun i h9 => absurd h9 (by show ¬ ((i : Int) < 0); omega) | (rw [show v4.toInt = x2.toInt + 1 from by omega]; assumption)) (by first | omega | assumption | rfl) (by first | omega | assumption | rfl) (by first | omega | assumption | rfl) (by omega)
              · intro q_32
                have b_34 : r10.toInt = 0 := congrArg Int32.toInt q_32
                have z_35 : (0 : Int32).toInt = 0 := rfl
                exact h9ret (0 : Int32) σ9 mσ9 fσ9 (by omega) (by omega) (by first | exact fun z => absurd z (by decide) | exact fun _ => by rw [← i0n]; exact OKN_end (n := x2.toInt + 1) (by assumption) (by rw [eσ6, gi_si_eq]; omega) (by omega))
          · intro q_18
            have t_36 := MI_f14 mσ6
            have t_37 := MI_f13 mσ6
            have b_38 : (gi σ6 74 14).toInt = (gi σ6 74 13).toInt := congrArg Int32.toInt q_18
            have z_39 : (1 : Int32).toInt = 1 := rfl
            exact h9ret (1 : Int32) σ6 mσ6 fσ6 (by omega) (by omega) (by first | exact fun z => absurd z (by decide) | exact fun _ => by rw [← i0n]; exact OKN_end (n := x2.toInt + 1) (by assumption) (by rw [eσ6, gi_si_eq]; omega) (by omega))
        · intro q_7
          have b_40 : r2.toInt = 0 := congrArg Int32.toInt q_7
          have z_41 : (0 : Int32).toInt = 0 := rfl
          exact h9ret (0 : Int32) σ1 mσ1 fσ1 (by omega) (by omega) (by first | exact fun z => absurd z (by decide) | exact fun _ => by rw [← i0n]; exact OKN_end (n := x2.toInt + 1) (by assumption) (by rw [eσ6, gi_si_eq]; omega) (by omega))
  have U15 := T 20
  have f0 : Fr [74, 117, 118, 119, 120, 121, 122, 123] [14, 15, 24, 25, 26] σ0 σ0 := Fr_rf
  have mw13 := MI_f13 m0
  have e_a1 := cl_eq (x := a1) (by omega)
  refine s_X12_goesText_0 C hN ?_
  intro σ1 eσ1
  have z_42 : (0 : Int32).toInt = 0 := rfl
  have mσ1 : MI σ1 := by rw [eσ1]; exact MIs_f14 m0 (by omega) (by omega)
  have fσ1 : Fr [74, 117, 118, 119, 120, 121, 122, 123] [14, 15, 24, 25, 26] σ0 σ1 := by rw [eσ1]; exact Fr_si f0 (by decide) (fun _ => by decide)
  have k_43 : (gi σ1 74 11).toInt = (gi σ0 74 11).toInt := by rw [eσ1]; exact congrArg Int32.toInt (gi_si_ne (Or.inr (by decide)))
  have k_44 : (gi σ1 74 12).toInt = (gi σ0 74 12).toInt := by rw [eσ1]; exact congrArg Int32.toInt (gi_si_ne (Or.inr (by decide)))
  have k_45 : (gi σ1 74 13).toInt = (gi σ0 74 13).toInt := by rw [eσ1]; exact congrArg Int32.toInt (gi_si_ne (Or.inr (by decide)))
  have k_46 : (gi σ1 74 14).toInt = 0 := by rw [eσ1]; exact congrArg Int32.toInt gi_si_eq
  have k_47 : (gi σ1 74 24).toInt = (gi σ0 74 24).toInt := by rw [eσ1]; exact congrArg Int32.toInt (gi_si_ne (Or.inr (by decide)))
  have k_48 : (gi σ1 74 50).toInt = (gi σ0 74 50).toInt := by rw [eσ1]; exact congrArg Int32.toInt (gi_si_ne (Or.inr (by decide)))
  intro σ2 eσ2
  have t_49 : ((100 : Int32) * a1).toInt = 100 * a1.toInt := i_mull rfl (by omega) (by omega)
  have mσ2 : MI σ2 := by rw [eσ2]; exact MIs_f24 mσ1 (by omega) (by omega)
  have fσ2 : Fr [74, 117, 118, 119, 120, 121, 122, 123] [14, 15, 24, 25, 26] σ0 σ2 := by rw [eσ2]; exact Fr_si fσ1 (by decide) (fun _ => by decide)
  have k_50 : (gi σ2 74 11).toInt = (gi σ1 74 11).toInt := by rw [eσ2]; exact congrArg Int32.toInt (gi_si_ne (Or.inr (by decide)))
  have k_51 : (gi σ2 74 12).toInt = (gi σ1 74 12).toInt := by rw [eσ2]; exact congrArg Int32.toInt (gi_si_ne (Or.inr (by decide)))
  have k_52 : (gi σ2 74 13).toInt = (gi σ1 74 13).toInt := by rw [eσ2]; exact congrArg Int32.toInt (gi_si_ne (Or.inr (by decide)))
  have k_53 : (gi σ2 74 14).toInt = (gi σ1 74 14).toInt := by rw [eσ2]; exact congrArg Int32.toInt (gi_si_ne (Or.inr (by decide)))
  have k_54 : (gi σ2 74 24).toInt = ((100 : Int32) * a1).toInt := by rw [eσ2]; exact congrArg Int32.toInt gi_si_eq
  have k_55 : (gi σ2 74 50).toInt = (gi σ1 74 50).toInt := by rw [eσ2]; exact congrArg Int32.toInt (gi_si_ne (Or.inr (by decide)))
  exact U15 a1 (0 : Int32) σ2 mσ2 fσ2 (by omega) (by omega) (by omega) (by omega) (by first | omega | assumption | rfl) (by first | omega | assumption | rfl) (by first | omega | assumption | rfl) (by first | omega | assumption | rfl) (by first | exact fun i h9 => absurd h9 (by show ¬ ((i : Int) < 0); omega) | (rw [show v4.toInt = x2.toInt + 1 from by omega]; assumption)) (by first | omega | assumption | rfl) (by first | omega | assumption | rfl) (by first | omega | assumption | rfl) (by omega)
set_option maxRecDepth 100000 in
set_option maxHeartbeats 4000000 in
theorem k_X12_field {l : Launch} {V : Vx} {σ0 : Sg} {Qk : Int32 → Sg → Prop} (m0 : MI σ0) (pre0 : (gi σ0 74 12).toInt < (gi σ0 74 11).toInt) (pre1 : (gi σ0 74 50).toInt < (gi σ0 74 11).toInt) (h9ret : ∀ (r : Int32) (σ' : Sg), MI σ' → Fr [74, 117, 118, 119, 120, 121, 122, 123] [11, 12, 13, 14, 15, 24, 25, 26] σ0 σ' → ((gi σ' 74 12).toInt < (gi σ' 74 11).toInt) → ((gi σ' 74 50).toInt < (gi σ' 74 11).toInt) → Qk r σ') : K_X12_field l V σ0 Qk := by
  refine e_X12_field (fun M hl hV hN C => ?_)
  subst hl
  subst hV
  have f0 : Fr [74, 117, 118, 119, 120, 121, 122, 123] [11, 12, 13, 14, 15, 24, 25, 26] σ0 σ0 := Fr_rf
  have mw11 := MI_f11 m0
  have e11 := cl_eq (x := gi σ0 74 11) (by omega)
  refine s_X12_field_0 C hN ?_
  refine ⟨?_, ?_⟩
  · intro q_1
    have t_2 := MI_f11 m0
    have b_3 : ¬ (gi σ0 74 11).toInt = 6 := fun h9 => q_1 (Int32.toInt_inj.mp h9)
    refine k_X12_goesText m0 (by omega) (by omega) (by first | omega | assumption | rfl) (by first | omega | assumption | rfl) (by first | omega | assumption | rfl) (fun r3 σ2 mσ2 cσ2 plσ2 phσ2 (pσ2_0 : hid (r3.toInt = 1 → okF σ2 (gi σ0 74 11).toNatClampNeg)) => ?_)
    have fσ2 : Fr [74, 117, 118, 119, 120, 121, 122, 123] [11, 12, 13, 14, 15, 24, 25, 26] σ0 σ2 := Fr_tr f0 cσ2 (by decide) (by decide)
    have k_4 : (gi σ2 74 11).toInt = (gi σ0 74 11).toInt := congrArg Int32.toInt (cσ2.2.1 11 (by decide))
    have k_5 : (gi σ2 74 12).toInt = (gi σ0 74 12).toInt := congrArg Int32.toInt (cσ2.2.1 12 (by decide))
    have k_6 : (gi σ2 74 13).toInt = (gi σ0 74 13).toInt := congrArg Int32.toInt (cσ2.2.1 13 (by decide))
    have k_7 : (gi σ2 74 50).toInt = (gi σ0 74 50).toInt := congrArg Int32.toInt (cσ2.2.1 50 (by decide))
    intro σ4 eσ4
    have z_8 : (0 : Int32).toInt = 0 := rfl
    have mσ4 : MI σ4 := by rw [eσ4]; exact MIs_f13 mσ2 (by omega) (by omega)
    have fσ4 : Fr [74, 117, 118, 119, 120, 121, 122, 123] [11, 12, 13, 14, 15, 24, 25, 26] σ0 σ4 := by rw [eσ4]; exact Fr_si fσ2 (by decide) (fun _ => by decide)
    have k_9 : (gi σ4 74 11).toInt = (gi σ2 74 11).toInt := by rw [eσ4]; exact congrArg Int32.toInt (gi_si_ne (Or.inr (by decide)))
    have k_10 : (gi σ4 74 12).toInt = (gi σ2 74 12).toInt := by rw [eσ4]; exact congrArg Int32.toInt (gi_si_ne (Or.inr (by decide)))
    have k_11 : (gi σ4 74 13).toInt = 0 := by rw [eσ4]; exact congrArg Int32.toInt gi_si_eq
    have k_12 : (gi σ4 74 14).toInt = (gi σ2 74 14).toInt := by rw [eσ4]; exact congrArg Int32.toInt (gi_si_ne (Or.inr (by decide)))
    have k_13 : (gi σ4 74 50).toInt = (gi σ2 74 50).toInt := by rw [eσ4]; exact congrArg Int32.toInt (gi_si_ne (Or.inr (by decide)))
    refine ⟨?_, ?_⟩
    · intro q_14
      have b_15 : ¬ r3.toInt = 0 := fun h9 => q_14 (Int32.toInt_inj.mp h9)
      intro σ6 eσ6
      have t_16 := MI_f11 mσ4
      have mσ6 : MI σ6 := by rw [eσ6]; exact MIs_f12 mσ4 (by omega) (by omega) (FV_the mσ4.2.2 (by rw [eσ4]; exact okF_si rfl (un pσ2_0 (by omega))) (by omega))
      have fσ6 : Fr [74, 117, 118, 119, 120, 121, 122, 123] [11, 12, 13, 14, 15, 24, 25, 26] σ0 σ6 := by rw [eσ6]; exact Fr_si fσ4 (by decide) (fun _ => by decide)
      have k_17 : (gi σ6 74 11).toInt = (gi σ4 74 11).toInt := by rw [eσ6]; exact congrArg Int32.toInt (gi_si_ne (Or.inr (by decide)))
      have k_18 : (gi σ6 74 12).toInt = (gi σ4 74 11).toInt := by rw [eσ6]; exact congrArg Int32.toInt gi_si_eq
      have k_19 : (gi σ6 74 13).toInt = (gi σ4 74 13).toInt := by rw [eσ6]; exact congrArg Int32.toInt (gi_si_ne (Or.inr (by decide)))
      have k_20 : (gi σ6 74 14).toInt = (gi σ4 74 14).toInt := by rw [eσ6]; exact congrArg Int32.toInt (gi_si_ne (Or.inr (by decide)))
      have k_21 : (gi σ6 74 50).toInt = (gi σ4 74 50).toInt := by rw [eσ6]; exact congrArg Int32.toInt (gi_si_ne (Or.inr (by decide)))
      intro σ7 eσ7
      have t_22 := MI_f11 mσ6
      have t_23 : ((gi σ6 74 11) + (1 : Int32)).toInt = (gi σ6 74 11).toInt + 1 := i_add (x := (gi σ6 74 11)) (y := (1 : Int32)) (by show (_ : Int) ≤ (gi σ6 74 11).toInt + 1; omega) (by show (gi σ6 74 11).toInt + 1 ≤ (_ : Int); omega)
      have mσ7 : MI σ7 := by rw [eσ7]; exact MIs_f11 mσ6 (by omega) (by omega) (FV_more mσ6.2.2 (by omega) (by omega))
      have fσ7 : Fr [74, 117, 118, 119, 120, 121, 122, 123] [11, 12, 13, 14, 15, 24, 25, 26] σ0 σ7 := by rw [eσ7]; exact Fr_si fσ6 (by decide) (fun _ => by decide)
      have k_24 : (gi σ7 74 11).toInt = ((gi σ6 74 11) + (1 : Int32)).toInt := by rw [eσ7]; exact congrArg Int32.toInt gi_si_eq
      have k_25 : (gi σ7 74 12).toInt = (gi σ6 74 12).toInt := by rw [eσ7]; exact congrArg Int32.toInt (gi_si_ne (Or.inr (by decide)))
      have k_26 : (gi σ7 74 13).toInt = (gi σ6 74 13).toInt := by rw [eσ7]; exact congrArg Int32.toInt (gi_si_ne (Or.inr (by decide)))
      have k_27 : (gi σ7 74 14).toInt = (gi σ6 74 14).toInt := by rw [eσ7]; exact congrArg Int32.toInt (gi_si_ne (Or.inr (by decide)))
      have k_28 : (gi σ7 74 50).toInt = (gi σ6 74 50).toInt := by rw [eσ7]; exact congrArg Int32.toInt (gi_si_ne (Or.inr (by decide)))
      have t_29 := MI_f12 mσ7
      exact h9ret (gi σ7 74 12) σ7 mσ7 fσ7 (by first | omega | assumption | rfl) (by first | omega | assumption | rfl)
    · intro q_14
      have b_30 : r3.toInt = 0 := congrArg Int32.toInt q_14
      have t_31 := MI_f14 mσ4
      have t_32 : ((-10 : Int32) - (gi σ4 74 14)).toInt = (-10) - (gi σ4 74 14).toInt := i_sub (x := (-10 : Int32)) (y := (gi σ4 74 14)) (by show (_ : Int) ≤ (-10) - (gi σ4 74 14).toInt; omega) (by show (-10) - (gi σ4 74 14).toInt ≤ (_ : Int); omega)
      exact h9ret ((-10 : Int32) - (gi σ4 74 14)) σ4 mσ4 fσ4 (by first | omega | assumption | rfl) (by first | omega | assumption | rfl)
  · intro q_1
    have t_33 := MI_f11 m0
    have b_34 : (gi σ0 74 11).toInt = 6 := congrArg Int32.toInt q_1
    have z_35 : (-4 : Int32).toInt = -4 := rfl
    exact h9ret (-4 : Int32) σ0 m0 f0 (by first | omega | assumption | rfl) (by first | omega | assumption | rfl)
