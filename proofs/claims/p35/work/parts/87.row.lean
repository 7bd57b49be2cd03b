/-! the row: who stands where -/
noncomputable def HL (σ : Sg) (a : Int32) (h : Nat) : Prop := ∀ m : Nat, (m : Int) < (gi σ 74 0).toInt → nI m ≠ a → ∃ k : Nat, (k : Int) < (gi σ 74 0).toInt ∧ k ≠ h ∧ gi σ 110 k = nI m
theorem HL_start {σ : Sg} {a : Int32} {h : Nat} (q : PL σ) (e : gi σ 110 h = a) : HL σ a h := fun m hm hne => by
  obtain ⟨k, hk, ek⟩ := q m hm
  exact ⟨k, hk, fun z => hne (by rw [← ek, z, e]), ek⟩
theorem HL_step {σ : Sg} {a v : Int32} {h h' : Nat} (q : HL σ a h) (hv : v = gi σ 110 h') (hne : h ≠ h') (hc : (h : Int) < (gi σ 74 0).toInt) : HL (si σ 110 h v) a h' := fun m hm hma => by
  rw [gi_si_ne (Or.inl (by decide))] at hm ⊢
  obtain ⟨k, hk, kh, ek⟩ := q m hm hma
  by_cases e : k = h'
  · exact ⟨h, hc, hne, by rw [gi_si_eq, hv, ← e]; exact ek⟩
  · exact ⟨k, hk, e, by rw [gi_si_ne (Or.inr kh)]; exact ek⟩
theorem PL_end {σ : Sg} {a : Int32} {h : Nat} (q : HL σ a h) (hc : (h : Int) < (gi σ 74 0).toInt) : PL (si σ 110 h a) := fun m hm => by
  rw [gi_si_ne (Or.inl (by decide))] at hm ⊢
  by_cases e : nI m = a
  · exact ⟨h, hc, by rw [gi_si_eq]; exact e.symm⟩
  · obtain ⟨k, hk, kh, ek⟩ := q m hm e
    exact ⟨k, hk, by rw [gi_si_ne (Or.inr kh)]; exact ek⟩
noncomputable def HZ (σ : Sg) (a x2 x4 : Int32) : Prop := (x4.toInt ≤ x2.toInt → HL σ a x2.toNatClampNeg) ∧ (x2.toInt < x4.toInt → HL σ a x4.toNatClampNeg)
theorem HL_tn {σ : Sg} {a x y : Int32} (e : x.toInt = y.toInt) (q : HL σ a x.toNatClampNeg) : HL σ a y.toNatClampNeg := by rw [← tnc e]; exact q
/-- a row holds what another held at first, as far as the n-th -/
noncomputable def CD (σ0 σ : Sg) (a b : Nat) (n : Int) : Prop := ∀ k : Nat, (k : Int) < n → gi σ a k = gi σ0 b k
theorem CD_0 {σ0 σ : Sg} {a b : Nat} {n : Int} (h : n ≤ 0) : CD σ0 σ a b n := fun k hk => by omega
theorem CD_rf {σ : Sg} {a : Nat} {n : Int} : CD σ σ a a n := fun _ _ => rfl
theorem CD_st {σ0 σ : Sg} {a b c j : Nat} {v : Int32} {n : Int} (h : CD σ0 σ a b n) (hc : c ≠ a) : CD σ0 (si σ c j v) a b n := fun k hk => (gi_si_ne (Or.inl (fun e => hc e.symm))).trans (h k hk)
theorem CD_fr {S F : List Nat} {σ0 σ σ' : Sg} {a b : Nat} {n : Int} (h : CD σ0 σ a b n) (f : Fr S F σ σ') (ha : a ∉ S) : CD σ0 σ' a b n := fun k hk => (congrFun (f.1 a ha).1 k).trans (h k hk)
theorem CD_step {σ0 σ : Sg} {a b c : Nat} {x : Int32} (h : CD σ0 σ a b x.toInt) (l : CD σ0 σ c b 6) (h0 : 0 ≤ x.toInt) (h6 : x.toInt ≤ 5) : CD σ0 (si σ a x.toNatClampNeg (gi σ c x.toNatClampNeg)) a b (x.toInt + 1) := fun k hk => by
  have e := cl_eq h0
  by_cases z : k = x.toNatClampNeg
  · rw [z, gi_si_eq]; exact l _ (by omega)
  · rw [gi_si_ne (Or.inr z)]; exact h k (by omega)
theorem CD_le {σ0 σ : Sg} {a b : Nat} {n m : Int} (h : CD σ0 σ a b n) (q : m ≤ n) : CD σ0 σ a b m := fun k hk => h k (by omega)
theorem PL_cd {σ σ' : Sg} (m : MI σ) (h : PL σ) (c : CD σ σ' 110 110 6) (e : (gi σ' 74 0).toInt = (gi σ 74 0).toInt) : PL σ' := fun j hj => by
  rw [e] at hj ⊢
  obtain ⟨k, hk, ek⟩ := h j hj
  have b := MI_f0 m
  exact ⟨k, hk, (c k (by omega)).trans ek⟩
/-- the image's row -/
noncomputable def PLI (σ : Sg) : Prop := ∀ m : Nat, (m : Int) < (gi σ 74 51).toInt → ∃ k : Nat, (k : Int) < (gi σ 74 51).toInt ∧ gi σ 162 k = nI m
theorem PLI_fr {S F : List Nat} {σ σ' : Sg} (h : PLI σ) (f : Fr S F σ σ') (h1 : 162 ∉ S) (h2 : 51 ∉ F) : PLI σ' := by
  intro m hm
  rw [f.2.1 51 h2] at hm ⊢
  obtain ⟨k, hk, e⟩ := h m hm
  exact ⟨k, hk, (congrFun (f.1 162 h1).1 k).trans e⟩
theorem PLI_mk {σ σ' : Sg} (m : MI σ) (h : PL σ) (c : CD σ σ' 162 110 6) (e : (gi σ' 74 51).toInt = (gi σ 74 0).toInt) : PLI σ' := fun j hj => by
  rw [e] at hj ⊢
  obtain ⟨k, hk, ek⟩ := h j hj
  have b := MI_f0 m
  exact ⟨k, hk, (c k (by omega)).trans ek⟩
theorem PL_un {σ σ' : Sg} (m : MI σ) (h : PLI σ) (c : CD σ σ' 110 162 6) (e : (gi σ' 74 0).toInt = (gi σ 74 51).toInt) : PL σ' := fun j hj => by
  rw [e] at hj ⊢
  obtain ⟨k, hk, ek⟩ := h j hj
  have b := MI_f51 m
  exact ⟨k, hk, (c k (by omega)).trans ek⟩
noncomputable def PLx (σ : Sg) (n : Int) : Prop := ∀ m : Nat, (m : Int) < n → ∃ k : Nat, (k : Int) < n ∧ gi σ 110 k = nI m
theorem PLx_new {σ : Sg} {x : Int32} (h : PL σ) (h0 : 0 ≤ x.toInt) (e : x.toInt = (gi σ 74 0).toInt) : PLx (si σ 110 x.toNatClampNeg x) ((gi σ 74 0).toInt + 1) := fun m hm => by
  have ec := cl_eq h0
  have ex : x = nI x.toNatClampNeg := Int32.toInt_inj.mp (by rw [nI_toInt (by have := Int32.toInt_lt x; omega)]; exact ec.symm)
  by_cases z : m = x.toNatClampNeg
  · exact ⟨x.toNatClampNeg, by omega, by rw [gi_si_eq, z]; exact ex⟩
  · obtain ⟨k, hk, ek⟩ := h m (by omega)
    exact ⟨k, by omega, by rw [gi_si_ne (Or.inr (by omega))]; exact ek⟩
theorem PLx_st {σ : Sg} {n : Int} {c j : Nat} {v : Int32} (h : PLx σ n) (hc : c ≠ 110) : PLx (si σ c j v) n := fun m hm => by
  obtain ⟨k, hk, ek⟩ := h m hm
  exact ⟨k, hk, by rw [gi_si_ne (Or.inl (fun e => hc e.symm))]; exact ek⟩
theorem PL_st {σ : Sg} {c j : Nat} {v : Int32} (h : PL σ) (hc : c ≠ 110) (h74 : c ≠ 74) : PL (si σ c j v) := fun m hm => by
  rw [gi_si_ne (Or.inl (fun e => h74 e.symm))] at hm ⊢
  obtain ⟨k, hk, ek⟩ := h m hm
  exact ⟨k, hk, by rw [gi_si_ne (Or.inl (fun e => hc e.symm))]; exact ek⟩
theorem CD_tr {σ0 σ σ' : Sg} {a : Nat} {n : Int} (h : CD σ0 σ a a n) (g : CD σ σ' a a n) : CD σ0 σ' a a n := fun k hk => (g k hk).trans (h k hk)
set_option maxRecDepth 100000 in
set_option maxHeartbeats 4000000 in
theorem k_X12_place {l : Launch} {V : Vx} {a1 : Int32} {a2 : Int32} {σ0 : Sg} {Qk : Int32 → Sg → Prop} (m0 : MI σ0) (pre0 : PL σ0) (h9ret : ∀ (r : Int32) (σ' : Sg), MI σ' → Fr [110] [] σ0 σ' → (PL σ') → Qk r σ') : K_X12_place l V a1 a2 σ0 Qk := by
  refine e_X12_place (fun M hl hV hN C => ?_)
  subst hl
  subst hV
  have T : ∀ n : Nat, (∀ (x1 : Int32) (x2 : Int32) (x3 : Int32) (x4 : Int32) (σ : Sg), MI σ → Fr [110] [] σ0 σ → (0 ≤ x1.toInt) → (x1.toInt ≤ 5) → (0 ≤ x2.toInt) → (x2.toInt ≤ 5) → (0 ≤ x3.toInt) → (x3.toInt ≤ 5) → (0 ≤ x4.toInt) → (x4.toInt ≤ 5) → (x1.toInt < (gi σ 74 0).toInt) → (x2.toInt < (gi σ 74 0).toInt) → (x3.toInt ≤ x4.toInt) → (x4.toInt < (gi σ 74 0).toInt) → (x4.toInt ≤ x2.toInt ∨ x4.toInt = x3.toInt) → (HL σ x1 x4.toNatClampNeg) → (7 - x4.toInt).toNat + 20 < n → PS M 34 [(0, .ref 74), (1, .int x1), (2, .int x2), (3, .int x3), (4, .int x4)] [] σ (0, 0)) ∧ (∀ (x1 : Int32) (x2 : Int32) (x3 : Int32) (x4 : Int32) (σ : Sg), MI σ → Fr [110] [] σ0 σ → (0 ≤ x1.toInt) → (x1.toInt ≤ 5) → (0 ≤ x2.toInt) → (x2.toInt ≤ 5) → (0 ≤ x4.toInt) → (x4.toInt ≤ 5) → (x1.toInt < (gi σ 74 0).toInt) → (x2.toInt < (gi σ 74 0).toInt) → (x4.toInt < (gi σ 74 0).toInt) → (HZ σ x1 x2 x4) → x4.toInt.toNat < n → PS M 65 [(0, .ref 74), (1, .int x1), (2, .int x2), (3, .int x3), (4, .int x4)] [] σ (0, 0)) := by
    intro n
    induction n with
    | zero => exact ⟨fun _ _ _ _ _ _ _ _ _ _ _ _ _ _ _ _ _ _ _ _ _ h8 => absurd h8 (Nat.not_lt_zero _), fun _ _ _ _ _ _ _ _ _ _ _ _ _ _ _ _ _ h8 => absurd h8 (Nat.not_lt_zero _)⟩
    | succ n ih =>
      obtain ⟨ih34, ih65⟩ := ih
      refine ⟨?_, ?_⟩
      · intro x1 x2 x3 x4 σ mσ fσ lx1 ux1 lx2 ux2 lx3 ux3 lx4 ux4 i0 i1 i2 i3 i4 i5 hmu
        refine s_X12_place_34 C hN ?_
        refine ⟨?_, ?_⟩
        · intro q_1
          have b_2 : x2.toInt ≤ x4.toInt := Int32.le_iff_toInt_le.mp q_1
          exact ih65 x1 x2 x3 x3 σ mσ fσ (by omega) (by omega) (by omega) (by omega) (by omega) (by omega) (by first | omega | assumption | rfl) (by first | omega | assumption | rfl) (by first | omega | assumption | rfl) (by first | exact ⟨fun z => HL_tn (by omega) i5, fun z => HL_tn (by omega) i5⟩ | (rw [eσ6]; exact (fun h9 => ⟨fun z => HL_tn (by omega) h9, fun _ => h9⟩) (HL_step (h' := v7.toNatClampNeg) (i3.2 (by omega)) (by rw [ev7]) (by have := cl_eq (x := x4) (by omega); have := cl_eq (x := v7) (by omega); omega) (by have := cl_eq (x := x4) (by omega); omega)))) (by omega)
        · intro q_1
          have b_3 : ¬ x2.toInt ≤ x4.toInt := fun h9 => q_1 (Int32.le_iff_toInt_le.mpr h9)
          have t_4 : (x4 + (1 : Int32)).toInt = x4.toInt + 1 := i_add (x := x4) (y := (1 : Int32)) (by show (_ : Int) ≤ x4.toInt + 1; omega) (by show x4.toInt + 1 ≤ (_ : Int); omega)
          have hv_5 : vp_in (x4 + (1 : Int32)) 6 := vp_in_iff.mpr ⟨by omega, by omega⟩
          refine ⟨hv_5, ?_⟩
          have hv_6 : vp_in x4 6 := vp_in_iff.mpr ⟨by omega, by omega⟩
          refine ⟨hv_6, ?_⟩
          intro σ4 eσ4
          have t_7 := MI_a110 mσ hv_5
          have mσ4 : MI σ4 := by rw [eσ4]; exact MIs_a110 mσ (by omega) (by omega)
          have fσ4 : Fr [110] [] σ0 σ4 := by rw [eσ4]; exact Fr_si fσ (by decide) (fun h9 => absurd h9 (by decide))
          have k_8 : (gi σ4 74 0).toInt = (gi σ 74 0).toInt := by rw [eσ4]; exact congrArg Int32.toInt (gi_si_ne (Or.inl (by decide)))
          intro v5 ev5
          have t_9 : v5.toInt = (x4 + (1 : Int32)).toInt := congrArg Int32.toInt ev5
          exact ih34 x1 x2 x3 v5 σ4 mσ4 fσ4 (by omega) (by omega) (by omega) (by omega) (by omega) (by omega) (by omega) (by omega) (by first | omega | assumption | rfl) (by first | omega | assumption | rfl) (by first | omega | assumption | rfl) (by first | omega | assumption | rfl) (by first | omega | assumption | rfl) (by first | exact HL_start pre0 pσ7_1 | (rw [eσ4]; exact HL_step i5 (by rw [ev5]) (by have := cl_eq (x := x4) (by omega); have := cl_eq (x := v5) (by omega); omega) (by have := cl_eq (x := x4) (by omega); omega))) (by omega)
      · intro x1 x2 x3 x4 σ mσ fσ lx1 ux1 lx2 ux2 lx4 ux4 i0 i1 i2 i3 hmu
        refine s_X12_place_65 C hN ?_
        refine ⟨?_, ?_⟩
        · intro q_10
          have b_11 : x4.toInt ≤ x2.toInt := Int32.le_iff_toInt_le.mp q_10
          have hv_12 : vp_in x2 6 := vp_in_iff.mpr ⟨by omega, by omega⟩
          refine ⟨hv_12, ?_⟩
          intro σ3 eσ3
          have mσ3 : MI σ3 := by rw [eσ3]; exact MIs_a110 mσ (by omega) (by omega)
          have fσ3 : Fr [110] [] σ0 σ3 := by rw [eσ3]; exact Fr_si fσ (by decide) (fun h9 => absurd h9 (by decide))
          have k_13 : (gi σ3 74 0).toInt = (gi σ 74 0).toInt := by rw [eσ3]; exact congrArg Int32.toInt (gi_si_ne (Or.inl (by decide)))
          exact h9ret x3 σ3 mσ3 fσ3 (by first | assumption | (rw [eσ3]; exact PL_end (i3.1 (by omega)) (by have := cl_eq (x := x2) (by omega); omega)))
        · intro q_10
          have b_14 : ¬ x4.toInt ≤ x2.toInt := fun h9 => q_10 (Int32.le_iff_toInt_le.mpr h9)
          have t_15 : (x4 - (1 : Int32)).toInt = x4.toInt - 1 := i_sub (x := x4) (y := (1 : Int32)) (by show (_ : Int) ≤ x4.toInt - 1; omega) (by show x4.toInt - 1 ≤ (_ : Int); omega)
          have hv_16 : vp_in (x4 - (1 : Int32)) 6 := vp_in_iff.mpr ⟨by omega, by omega⟩
          refine ⟨hv_16, ?_⟩
          have hv_17 : vp_in x4 6 := vp_in_iff.mpr ⟨by omega, by omega⟩
          refine ⟨hv_17, ?_⟩
          intro σ6 eσ6
          have t_18 := MI_a110 mσ hv_16
          have mσ6 : MI σ6 := by rw [eσ6]; exact MIs_a110 mσ (by omega) (by omega)
          have fσ6 : Fr [110] [] σ0 σ6 := by rw [eσ6]; exact Fr_si fσ (by decide) (fun h9 => absurd h9 (by decide))
          have k_19 : (gi σ6 74 0).toInt = (gi σ 74 0).toInt := by rw [eσ6]; exact congrArg Int32.toInt (gi_si_ne (Or.inl (by decide)))
          intro v7 ev7
          have t_20 : v7.toInt = (x4 - (1 : Int32)).toInt := congrArg Int32.toInt ev7
          exact ih65 x1 x2 x3 v7 σ6 mσ6 fσ6 (by omega) (by omega) (by omega) (by omega) (by omega) (by omega) (by first | omega | assumption | rfl) (by first | omega | assumption | rfl) (by first | omega | assumption | rfl) (by first | exact ⟨fun z => HL_tn (by omega) i5, fun z => HL_tn (by omega) i5⟩ | (rw [eσ6]; exact (fun h9 => ⟨fun z => HL_tn (by omega) h9, fun _ => h9⟩) (HL_step (h' := v7.toNatClampNeg) (i3.2 (by omega)) (by rw [ev7]) (by have := cl_eq (x := x4) (by omega); have := cl_eq (x := v7) (by omega); omega) (by have := cl_eq (x := x4) (by omega); omega)))) (by omega)
  obtain ⟨U34, U65⟩ := T 60
  have f0 : Fr [110] [] σ0 σ0 := Fr_rf
  have mw := MI_f0 m0
  refine s_X12_place_0 C hN ?_
  refine k_X12_isMower m0  (fun r2 σ1 mσ1 cσ1 plσ1 phσ1 (pσ1_0 : (r2.toInt = 1 ∧ 0 ≤ a1.toInt ∧ a1.toInt < (gi σ0 74 0).toInt) ∨ (r2.toInt = 0 ∧ (a1.toInt < 0 ∨ (gi σ0 74 0).toInt ≤ a1.toInt))) => ?_)
  obtain rfl := Fr_nil cσ1
  have t_21 := MI_f0 m0
  refine ⟨?_, ?_⟩
  · intro q_22
    have b_23 : r2.toInt = 0 := congrArg Int32.toInt q_22
    have z_24 : (-1 : Int32).toInt = -1 := rfl
    exact h9ret (-1 : Int32) σ0 m0 f0 (by first | assumption | (rw [eσ3]; exact PL_end (i3.1 (by omega)) (by have := cl_eq (x := x2) (by omega); omega)))
  · intro q_22
    have b_25 : ¬ r2.toInt = 0 := fun h9 => q_22 (Int32.toInt_inj.mp h9)
    have t_26 : ((gi σ0 74 0) - (1 : Int32)).toInt = (gi σ0 74 0).toInt - 1 := i_sub (x := (gi σ0 74 0)) (y := (1 : Int32)) (by show (_ : Int) ≤ (gi σ0 74 0).toInt - 1; omega) (by show (gi σ0 74 0).toInt - 1 ≤ (_ : Int); omega)
    refine k_X12_in m0  (fun r5 σ4 mσ4 cσ4 plσ4 phσ4 (pσ4_0 : (r5.toInt = 1 ∧ (0 : Int) ≤ a2.toInt ∧ a2.toInt ≤ ((gi σ0 74 0) - (1 : Int32)).toInt) ∨ (r5.toInt = 0 ∧ (a2.toInt < (0 : Int) ∨ ((gi σ0 74 0) - (1 : Int32)).toInt < a2.toInt))) => ?_)
    obtain rfl := Fr_nil cσ4
    refine ⟨?_, ?_⟩
    · intro q_27
      have b_28 : ¬ r5.toInt = 0 := fun h9 => q_27 (Int32.toInt_inj.mp h9)
      refine k_X12_placeOf m0 (by omega) (by omega) (by first | omega | assumption | rfl) (by first | omega | assumption | rfl) (fun r8 σ7 mσ7 cσ7 plσ7 phσ7 (pσ7_0 : r8.toInt < (gi σ0 74 0).toInt) (pσ7_1 : gi σ0 110 r8.toNatClampNeg = a1) => ?_)
      obtain rfl := Fr_nil cσ7
      exact U34 a1 a2 r8 r8 σ0 m0 f0 (by omega) (by omega) (by omega) (by omega) (by omega) (by omega) (by omega) (by omega) (by first | omega | assumption | rfl) (by first | omega | assumption | rfl) (by first | omega | assumption | rfl) (by first | omega | assumption | rfl) (by first | omega | assumption | rfl) (by first | exact HL_start pre0 pσ7_1 | (rw [eσ4]; exact HL_step i5 (by rw [ev5]) (by have := cl_eq (x := x4) (by omega); have := cl_eq (x := v5) (by omega); omega) (by have := cl_eq (x := x4) (by omega); omega))) (by omega)
    · intro q_27
      have b_29 : r5.toInt = 0 := congrArg Int32.toInt q_27
      have z_30 : (-1 : Int32).toInt = -1 := rfl
      exact h9ret (-1 : Int32) σ0 m0 f0 (by first | assumption | (rw [eσ3]; exact PL_end (i3.1 (by omega)) (by have := cl_eq (x := x2) (by omega); omega)))
set_option maxRecDepth 100000 in
set_option maxHeartbeats 4000000 in
theorem kl_X12_mower {l : Launch} {V : Vx} {a1 : Int32} {a2 : Int32} {σ0 : Sg} {Qk : Int32 → Sg → Prop} (m0 : MI σ0) (pre0 : PL σ0) (h9ret : ∀ (r : Int32) (σ' : Sg), MI σ' → Fr [74, 103, 104, 105, 106, 107, 108, 109, 110] [0, 2] σ0 σ' → (PL σ') → (((gi σ' 74 0).toInt = (gi σ0 74 0).toInt ∨ (gi σ' 74 0).toInt = (gi σ0 74 0).toInt + 1)) → Qk r σ') : K_X12_mower l V a1 a2 σ0 Qk := by
  refine e_X12_mower (fun M hl hV hN C => ?_)
  subst hl
  subst hV
  have T : ∀ n : Nat, (∀ (x3 : Int32) (σ : Sg), MI σ → Fr [74, 103, 104, 105, 106, 107, 108, 109, 110] [0, 2] σ0 σ → (0 ≤ x3.toInt) → (x3.toInt ≤ 4) → ((gi σ 74 0).toInt = (gi σ0 74 0).toInt) → ((gi σ0 74 0).toInt ≤ 5) → (PLx σ ((gi σ 74 0).toInt + 1)) → (5 - x3.toInt).toNat < n → PS M 115 [(0, .ref 74), (3, .int x3)] [] σ (0, 0)) := by
    intro n
    induction n with
    | zero => exact fun _ _ _ _ _ _ _ _ _ h8 => absurd h8 (Nat.not_lt_zero _)
    | succ n ih =>
      have ih115 := ih
      · intro x3 σ mσ fσ lx3 ux3 i0 i1 i2 hmu
        refine s_X12_mower_115 C hN ?_
        refine ⟨?_, ?_⟩
        · intro q_1
          have b_2 : (4 : Int) ≤ x3.toInt := Int32.le_iff_toInt_le.mp q_1
          intro σ2 eσ2
          have t_3 := MI_f0 mσ
          have t_4 : ((gi σ 74 0) + (1 : Int32)).toInt = (gi σ 74 0).toInt + 1 := i_add (x := (gi σ 74 0)) (y := (1 : Int32)) (by show (_ : Int) ≤ (gi σ 74 0).toInt + 1; omega) (by show (gi σ 74 0).toInt + 1 ≤ (_ : Int); omega)
          have mσ2 : MI σ2 := by rw [eσ2]; exact MIs_f0 mσ (by omega) (by omega)
          have fσ2 : Fr [74, 103, 104, 105, 106, 107, 108, 109, 110] [0, 2] σ0 σ2 := by rw [eσ2]; exact Fr_si fσ (by decide) (fun _ => by decide)
          have k_5 : (gi σ2 74 0).toInt = ((gi σ 74 0) + (1 : Int32)).toInt := by rw [eσ2]; exact congrArg Int32.toInt gi_si_eq
          intro σ3 eσ3
          have t_6 := MI_f0 mσ2
          have mσ3 : MI σ3 := by rw [eσ3]; exact MIs_f2 mσ2 (by omega) (by omega)
          have fσ3 : Fr [74, 103, 104, 105, 106, 107, 108, 109, 110] [0, 2] σ0 σ3 := by rw [eσ3]; exact Fr_si fσ2 (by decide) (fun _ => by decide)
          have k_7 : (gi σ3 74 0).toInt = (gi σ2 74 0).toInt := by rw [eσ3]; exact congrArg Int32.toInt (gi_si_ne (Or.inr (by decide)))
          have t_8 := MI_f0 mσ3
          have t_9 : ((gi σ3 74 0) - (1 : Int32)).toInt = (gi σ3 74 0).toInt - 1 := i_sub (x := (gi σ3 74 0)) (y := (1 : Int32)) (by show (_ : Int) ≤ (gi σ3 74 0).toInt - 1; omega) (by show (gi σ3 74 0).toInt - 1 ≤ (_ : Int); omega)
          exact h9ret ((gi σ3 74 0) - (1 : Int32)) σ3 mσ3 fσ3 (by first | assumption | (show PLx σ3 (gi σ3 74 0).toInt; rw [show (gi σ3 74 0).toInt = (gi σ 74 0).toInt + 1 from by omega, eσ3, eσ2]; exact PLx_st (PLx_st i2 (by decide)) (by decide))) (by first | omega | assumption | rfl)
        · intro q_1
          have b_10 : ¬ (4 : Int) ≤ x3.toInt := fun h9 => q_1 (Int32.le_iff_toInt_le.mpr h9)
          have t_11 := MI_f0 mσ
          have t_12 : ((4 : Int32) * (gi σ 74 0)).toInt = 4 * (gi σ 74 0).toInt := i_mull rfl (by omega) (by omega)
          have t_13 : (((4 : Int32) * (gi σ 74 0)) + x3).toInt = ((4 : Int32) * (gi σ 74 0)).toInt + x3.toInt := i_add (x := ((4 : Int32) * (gi σ 74 0))) (y := x3) (by show (_ : Int) ≤ ((4 : Int32) * (gi σ 74 0)).toInt + x3.toInt; omega) (by show ((4 : Int32) * (gi σ 74 0)).toInt + x3.toInt ≤ (_ : Int); omega)
          have hv_14 : vp_in (((4 : Int32) * (gi σ 74 0)) + x3) 24 := vp_in_iff.mpr ⟨by omega, by omega⟩
          refine ⟨hv_14, ?_⟩
          intro σ5 eσ5
          have mσ5 : MI σ5 := by rw [eσ5]; exact MIs_au (a := 109) mσ rfl rfl
          have fσ5 : Fr [74, 103, 104, 105, 106, 107, 108, 109, 110] [0, 2] σ0 σ5 := by rw [eσ5]; exact Fr_si fσ (by decide) (fun h9 => absurd h9 (by decide))
          have k_15 : (gi σ5 74 0).toInt = (gi σ 74 0).toInt := by rw [eσ5]; exact congrArg Int32.toInt (gi_si_ne (Or.inl (by decide)))
          intro v6 ev6
          have t_16 : (x3 + (1 : Int32)).toInt = x3.toInt + 1 := i_add (x := x3) (y := (1 : Int32)) (by show (_ : Int) ≤ x3.toInt + 1; omega) (by show x3.toInt + 1 ≤ (_ : Int); omega)
          have t_17 : v6.toInt = (x3 + (1 : Int32)).toInt := congrArg Int32.toInt ev6
          exact ih115 v6 σ5 mσ5 fσ5 (by omega) (by omega) (by first | omega | assumption | rfl) (by first | omega | assumption | rfl) (by first | (rw [show (gi σ21 74 0).toInt + 1 = (gi σ19 74 0).toInt + 1 from by omega, eσ21]; exact PLx_new (by assumption) (by omega) rfl) | (rw [show (gi σ5 74 0).toInt + 1 = (gi σ 74 0).toInt + 1 from by omega, eσ5]; exact PLx_st i2 (by decide))) (by omega)
  have U115 := T 20
  have f0 : Fr [74, 103, 104, 105, 106, 107, 108, 109, 110] [0, 2] σ0 σ0 := Fr_rf
  refine s_X12_mower_0 C hN ?_
  refine k_X12_in m0  (fun r2 σ1 mσ1 cσ1 plσ1 phσ1 (pσ1_0 : (r2.toInt = 1 ∧ (0 : Int) ≤ a1.toInt ∧ a1.toInt ≤ (6 : Int)) ∨ (r2.toInt = 0 ∧ (a1.toInt < (0 : Int) ∨ (6 : Int) < a1.toInt))) => ?_)
  obtain rfl := Fr_nil cσ1
  refine ⟨?_, ?_⟩
  · intro q_18
    have b_19 : ¬ r2.toInt = 0 := fun h9 => q_18 (Int32.toInt_inj.mp h9)
    refine k_X12_in m0  (fun r5 σ4 mσ4 cσ4 plσ4 phσ4 (pσ4_0 : (r5.toInt = 1 ∧ (0 : Int) ≤ a2.toInt ∧ a2.toInt ≤ (9 : Int)) ∨ (r5.toInt = 0 ∧ (a2.toInt < (0 : Int) ∨ (9 : Int) < a2.toInt))) => ?_)
    obtain rfl := Fr_nil cσ4
    refine ⟨?_, ?_⟩
    · intro q_20
      have b_21 : ¬ r5.toInt = 0 := fun h9 => q_20 (Int32.toInt_inj.mp h9)
      refine ⟨?_, ?_⟩
      · intro q_22
        have t_23 := MI_f0 m0
        have b_24 : ¬ (gi σ0 74 0).toInt = 6 := fun h9 => q_22 (Int32.toInt_inj.mp h9)
        have hv_25 : vp_in (gi σ0 74 0) 6 := vp_in_iff.mpr ⟨by omega, by omega⟩
        refine ⟨hv_25, ?_⟩
        intro σ9 eσ9
        have mσ9 : MI σ9 := by rw [eσ9]; exact MIs_au (a := 103) m0 rfl rfl
        have fσ9 : Fr [74, 103, 104, 105, 106, 107, 108, 109, 110] [0, 2] σ0 σ9 := by rw [eσ9]; exact Fr_si f0 (by decide) (fun h9 => absurd h9 (by decide))
        have k_26 : (gi σ9 74 0).toInt = (gi σ0 74 0).toInt := by rw [eσ9]; exact congrArg Int32.toInt (gi_si_ne (Or.inl (by decide)))
        try have hP9 : PL σ9 := by rw [eσ9]; exact PL_st (by assumption) (by decide) (by decide)
        have t_27 := MI_f0 mσ9
        have hv_28 : vp_in (gi σ9 74 0) 6 := vp_in_iff.mpr ⟨by omega, by omega⟩
        refine ⟨hv_28, ?_⟩
        intro σ11 eσ11
        have mσ11 : MI σ11 := by rw [eσ11]; exact MIs_au (a := 104) mσ9 rfl rfl
        have fσ11 : Fr [74, 103, 104, 105, 106, 107, 108, 109, 110] [0, 2] σ0 σ11 := by rw [eσ11]; exact Fr_si fσ9 (by decide) (fun h9 => absurd h9 (by decide))
        have k_29 : (gi σ11 74 0).toInt = (gi σ9 74 0).toInt := by rw [eσ11]; exact congrArg Int32.toInt (gi_si_ne (Or.inl (by decide)))
        try have hP9 : PL σ11 := by rw [eσ11]; exact PL_st (by assumption) (by decide) (by decide)
        have t_30 := MI_f0 mσ11
        have hv_31 : vp_in (gi σ11 74 0) 6 := vp_in_iff.mpr ⟨by omega, by omega⟩
        refine ⟨hv_31, ?_⟩
        intro σ13 eσ13
        have z_32 : (0 : Int32).toInt = 0 := rfl
        have mσ13 : MI σ13 := by rw [eσ13]; exact MIs_a105 mσ11 (by omega) (by omega)
        have fσ13 : Fr [74, 103, 104, 105, 106, 107, 108, 109, 110] [0, 2] σ0 σ13 := by rw [eσ13]; exact Fr_si fσ11 (by decide) (fun h9 => absurd h9 (by decide))
        have k_33 : (gi σ13 74 0).toInt = (gi σ11 74 0).toInt := by rw [eσ13]; exact congrArg Int32.toInt (gi_si_ne (Or.inl (by decide)))
        try have hP9 : PL σ13 := by rw [eσ13]; exact PL_st (by assumption) (by decide) (by decide)
        have t_34 := MI_f0 mσ13
        have hv_35 : vp_in (gi σ13 74 0) 6 := vp_in_iff.mpr ⟨by omega, by omega⟩
        refine ⟨hv_35, ?_⟩
        intro σ15 eσ15
        have mσ15 : MI σ15 := by rw [eσ15]; exact MIs_au (a := 106) mσ13 rfl rfl
        have fσ15 : Fr [74, 103, 104, 105, 106, 107, 108, 109, 110] [0, 2] σ0 σ15 := by rw [eσ15]; exact Fr_si fσ13 (by decide) (fun h9 => absurd h9 (by decide))
        have k_36 : (gi σ15 74 0).toInt = (gi σ13 74 0).toInt := by rw [eσ15]; exact congrArg Int32.toInt (gi_si_ne (Or.inl (by decide)))
        try have hP9 : PL σ15 := by rw [eσ15]; exact PL_st (by assumption) (by decide) (by decide)
        have t_37 := MI_f0 mσ15
        have hv_38 : vp_in (gi σ15 74 0) 6 := vp_in_iff.mpr ⟨by omega, by omega⟩
        refine ⟨hv_38, ?_⟩
        intro σ17 eσ17
        have mσ17 : MI σ17 := by rw [eσ17]; exact MIs_au (a := 107) mσ15 rfl rfl
        have fσ17 : Fr [74, 103, 104, 105, 106, 107, 108, 109, 110] [0, 2] σ0 σ17 := by rw [eσ17]; exact Fr_si fσ15 (by decide) (fun h9 => absurd h9 (by decide))
        have k_39 : (gi σ17 74 0).toInt = (gi σ15 74 0).toInt := by rw [eσ17]; exact congrArg Int32.toInt (gi_si_ne (Or.inl (by decide)))
        try have hP9 : PL σ17 := by rw [eσ17]; exact PL_st (by assumption) (by decide) (by decide)
        have t_40 := MI_f0 mσ17
        have hv_41 : vp_in (gi σ17 74 0) 6 := vp_in_iff.mpr ⟨by omega, by omega⟩
        refine ⟨hv_41, ?_⟩
        intro σ19 eσ19
        have mσ19 : MI σ19 := by rw [eσ19]; exact MIs_au (a := 108) mσ17 rfl rfl
        have fσ19 : Fr [74, 103, 104, 105, 106, 107, 108, 109, 110] [0, 2] σ0 σ19 := by rw [eσ19]; exact Fr_si fσ17 (by decide) (fun h9 => absurd h9 (by decide))
        have k_42 : (gi σ19 74 0).toInt = (gi σ17 74 0).toInt := by rw [eσ19]; exact congrArg Int32.toInt (gi_si_ne (Or.inl (by decide)))
        try have hP9 : PL σ19 := by rw [eσ19]; exact PL_st (by assumption) (by decide) (by decide)
        have t_43 := MI_f0 mσ19
        have hv_44 : vp_in (gi σ19 74 0) 6 := vp_in_iff.mpr ⟨by omega, by omega⟩
        refine ⟨hv_44, ?_⟩
        intro σ21 eσ21
        have mσ21 : MI σ21 := by rw [eσ21]; exact MIs_a110 mσ19 (by omega) (by omega)
        have fσ21 : Fr [74, 103, 104, 105, 106, 107, 108, 109, 110] [0, 2] σ0 σ21 := by rw [eσ21]; exact Fr_si fσ19 (by decide) (fun h9 => absurd h9 (by decide))
        have k_45 : (gi σ21 74 0).toInt = (gi σ19 74 0).toInt := by rw [eσ21]; exact congrArg Int32.toInt (gi_si_ne (Or.inl (by decide)))
        try have hP9 : PL σ21 := by rw [eσ21]; exact PL_st (by assumption) (by decide) (by decide)
        exact U115 (0 : Int32) σ21 mσ21 fσ21 (by omega) (by omega) (by first | omega | assumption | rfl) (by first | omega | assumption | rfl) (by first | (rw [show (gi σ21 74 0).toInt + 1 = (gi σ19 74 0).toInt + 1 from by omega, eσ21]; exact PLx_new (by assumption) (by omega) rfl) | (rw [show (gi σ5 74 0).toInt + 1 = (gi σ0 74 0).toInt + 1 from by omega, eσ5]; exact PLx_st i2 (by decide))) (by omega)
      · intro q_22
        have t_46 := MI_f0 m0
        have b_47 : (gi σ0 74 0).toInt = 6 := congrArg Int32.toInt q_22
        have z_48 : (-4 : Int32).toInt = -4 := rfl
        exact h9ret (-4 : Int32) σ0 m0 f0 (by first | assumption | (show PLx σ3 (gi σ3 74 0).toInt; rw [show (gi σ3 74 0).toInt = (gi σ0 74 0).toInt + 1 from by omega, eσ3, eσ2]; exact PLx_st (PLx_st i2 (by decide)) (by decide))) (by first | omega | assumption | rfl)
    · intro q_20
      have b_49 : r5.toInt = 0 := congrArg Int32.toInt q_20
      have z_50 : (-2 : Int32).toInt = -2 := rfl
      exact h9ret (-2 : Int32) σ0 m0 f0 (by first | assumption | (show PLx σ3 (gi σ3 74 0).toInt; rw [show (gi σ3 74 0).toInt = (gi σ0 74 0).toInt + 1 from by omega, eσ3, eσ2]; exact PLx_st (PLx_st i2 (by decide)) (by decide))) (by first | omega | assumption | rfl)
  · intro q_18
    have b_51 : r2.toInt = 0 := congrArg Int32.toInt q_18
    have z_52 : (-1 : Int32).toInt = -1 := rfl
    exact h9ret (-1 : Int32) σ0 m0 f0 (by first | assumption | (show PLx σ3 (gi σ3 74 0).toInt; rw [show (gi σ3 74 0).toInt = (gi σ0 74 0).toInt + 1 from by omega, eσ3, eσ2]; exact PLx_st (PLx_st i2 (by decide)) (by decide))) (by first | omega | assumption | rfl)
set_option maxRecDepth 100000 in
set_option maxHeartbeats 4000000 in
theorem kl_X12_image {l : Launch} {V : Vx} {σ0 : Sg} {Qk : Int32 → Sg → Prop} (m0 : MI σ0) (pre0 : PL σ0) (h9ret : ∀ (r : Int32) (σ' : Sg), MI σ' → Fr [74, 156, 157, 158, 159, 160, 161, 162, 163, 164, 165, 166, 167, 168] [49, 50, 51, 52, 53, 54, 55] σ0 σ' → ((gi σ' 74 51).toInt = (gi σ0 74 0).toInt) → ((gi σ' 74 52).toInt = (gi σ0 74 1).toInt) → ((gi σ' 74 50).toInt = (gi σ0 74 12).toInt) → (PLI σ') → Qk r σ') : K_X12_image l V σ0 Qk := by
  refine e_X12_image (fun M hl hV hN C => ?_)
  subst hl
  subst hV
  have T : ∀ n : Nat, (∀ (x1 : Int32) (σ : Sg), MI σ → Fr [74, 156, 157, 158, 159, 160, 161, 162, 163, 164, 165, 166, 167, 168] [49, 50, 51, 52, 53, 54, 55] σ0 σ → (0 ≤ x1.toInt) → (x1.toInt ≤ 6) → ((gi σ 74 51).toInt = (gi σ0 74 0).toInt) → ((gi σ 74 52).toInt = (gi σ0 74 1).toInt) → ((gi σ 74 50).toInt = (gi σ0 74 12).toInt) → (CD σ0 σ 110 110 6) → (CD σ0 σ 162 110 x1.toInt) → (7 - x1.toInt).toNat + 300 < n → PS M 55 [(0, .ref 74), (1, .int x1)] [] σ (0, 0)) ∧ (∀ (x1 : Int32) (σ : Sg), MI σ → Fr [74, 156, 157, 158, 159, 160, 161, 162, 163, 164, 165, 166, 167, 168] [49, 50, 51, 52, 53, 54, 55] σ0 σ → (0 ≤ x1.toInt) → (x1.toInt ≤ 24) → ((gi σ 74 51).toInt = (gi σ0 74 0).toInt) → ((gi σ 74 52).toInt = (gi σ0 74 1).toInt) → ((gi σ 74 50).toInt = (gi σ0 74 12).toInt) → (CD σ0 σ 162 110 6) → (25 - x1.toInt).toNat + 200 < n → PS M 189 [(0, .ref 74), (1, .int x1)] [] σ (0, 0)) ∧ (∀ (x1 : Int32) (σ : Sg), MI σ → Fr [74, 156, 157, 158, 159, 160, 161, 162, 163, 164, 165, 166, 167, 168] [49, 50, 51, 52, 53, 54, 55] σ0 σ → (0 ≤ x1.toInt) → (x1.toInt ≤ 10) → ((gi σ 74 51).toInt = (gi σ0 74 0).toInt) → ((gi σ 74 52).toInt = (gi σ0 74 1).toInt) → ((gi σ 74 50).toInt = (gi σ0 74 12).toInt) → (CD σ0 σ 162 110 6) → (11 - x1.toInt).toNat + 100 < n → PS M 215 [(0, .ref 74), (1, .int x1)] [] σ (0, 0)) ∧ (∀ (x1 : Int32) (σ : Sg), MI σ → Fr [74, 156, 157, 158, 159, 160, 161, 162, 163, 164, 165, 166, 167, 168] [49, 50, 51, 52, 53, 54, 55] σ0 σ → (0 ≤ x1.toInt) → (x1.toInt ≤ 8) → ((gi σ 74 51).toInt = (gi σ0 74 0).toInt) → ((gi σ 74 52).toInt = (gi σ0 74 1).toInt) → ((gi σ 74 50).toInt = (gi σ0 74 12).toInt) → (CD σ0 σ 162 110 6) → (9 - x1.toInt).toNat < n → PS M 241 [(0, .ref 74), (1, .int x1)] [] σ (0, 0)) := by
    intro n
    induction n with
    | zero => exact ⟨fun _ _ _ _ _ _ _ _ _ _ _ h8 => absurd h8 (Nat.not_lt_zero _), fun _ _ _ _ _ _ _ _ _ _ h8 => absurd h8 (Nat.not_lt_zero _), fun _ _ _ _ _ _ _ _ _ _ h8 => absurd h8 (Nat.not_lt_zero _), fun _ _ _ _ _ _ _ _ _ _ h8 => absurd h8 (Nat.not_lt_zero _)⟩
    | succ n ih =>
      obtain ⟨ih55, ih189, ih215, ih241⟩ := ih
      refine ⟨?_, ?_, ?_, ?_⟩
      · intro x1 σ mσ fσ lx1 ux1 i0 i1 i2 i3 i4 hmu
        refine s_X12_image_55 C hN ?_
        refine ⟨?_, ?_⟩
        · intro q_1
          have b_2 : (6 : Int) ≤ x1.toInt := Int32.le_iff_toInt_le.mp q_1
          have z_3 : (0 : Int32).toInt = 0 := rfl
          exact ih189 (0 : Int32) σ mσ fσ (by omega) (by omega) (by first | omega | assumption | rfl) (by first | omega | assumption | rfl) (by first | omega | assumption | rfl) (by first | assumption | exact CD_le (by assumption) (by omega)) (by omega)
        · intro q_1
          have b_4 : ¬ (6 : Int) ≤ x1.toInt := fun h9 => q_1 (Int32.le_iff_toInt_le.mpr h9)
          have hv_5 : vp_in x1 6 := vp_in_iff.mpr ⟨by omega, by omega⟩
          refine ⟨hv_5, ?_⟩
          refine ⟨hv_5, ?_⟩
          intro σ4 eσ4
          have mσ4 : MI σ4 := by rw [eσ4]; exact MIs_au (a := 156) mσ rfl rfl
          have fσ4 : Fr [74, 156, 157, 158, 159, 160, 161, 162, 163, 164, 165, 166, 167, 168] [49, 50, 51, 52, 53, 54, 55] σ0 σ4 := by rw [eσ4]; exact Fr_si fσ (by decide) (fun h9 => absurd h9 (by decide))
          have k_6 : (gi σ4 74 0).toInt = (gi σ 74 0).toInt := by rw [eσ4]; exact congrArg Int32.toInt (gi_si_ne (Or.inl (by decide)))
          have k_7 : (gi σ4 74 1).toInt = (gi σ 74 1).toInt := by rw [eσ4]; exact congrArg Int32.toInt (gi_si_ne (Or.inl (by decide)))
          have k_8 : (gi σ4 74 12).toInt = (gi σ 74 12).toInt := by rw [eσ4]; exact congrArg Int32.toInt (gi_si_ne (Or.inl (by decide)))
          have k_9 : (gi σ4 74 50).toInt = (gi σ 74 50).toInt := by rw [eσ4]; exact congrArg Int32.toInt (gi_si_ne (Or.inl (by decide)))
          have k_10 : (gi σ4 74 51).toInt = (gi σ 74 51).toInt := by rw [eσ4]; exact congrArg Int32.toInt (gi_si_ne (Or.inl (by decide)))
          have k_11 : (gi σ4 74 52).toInt = (gi σ 74 52).toInt := by rw [eσ4]; exact congrArg Int32.toInt (gi_si_ne (Or.inl (by decide)))
          try have hC9 : CD σ0 σ4 110 110 (6) := by rw [eσ4]; exact CD_st (by assumption) (by decide)
          try have hC9 : CD σ0 σ4 162 110 (6) := by rw [eσ4]; exact CD_st (by assumption) (by decide)
          try have hC9 : CD σ0 σ4 162 110 (x1.toInt) := by rw [eσ4]; exact CD_st (by assumption) (by decide)
          try have hD9 : CD σ0 σ4 162 110 (x1.toInt + 1) := by rw [eσ4]; first | exact CD_st (by assumption) (by decide) | exact CD_step (c := 110) (by assumption) (by assumption) (by omega) (by omega)
          refine ⟨hv_5, ?_⟩
          refine ⟨hv_5, ?_⟩
          intro σ7 eσ7
          have mσ7 : MI σ7 := by rw [eσ7]; exact MIs_au (a := 157) mσ4 rfl rfl
          have fσ7 : Fr [74, 156, 157, 158, 159, 160, 161, 162, 163, 164, 165, 166, 167, 168] [49, 50, 51, 52, 53, 54, 55] σ0 σ7 := by rw [eσ7]; exact Fr_si fσ4 (by decide) (fun h9 => absurd h9 (by decide))
          have k_12 : (gi σ7 74 0).toInt = (gi σ4 74 0).toInt := by rw [eσ7]; exact congrArg Int32.toInt (gi_si_ne (Or.inl (by decide)))
          have k_13 : (gi σ7 74 1).toInt = (gi σ4 74 1).toInt := by rw [eσ7]; exact congrArg Int32.toInt (gi_si_ne (Or.inl (by decide)))
          have k_14 : (gi σ7 74 12).toInt = (gi σ4 74 12).toInt := by rw [eσ7]; exact congrArg Int32.toInt (gi_si_ne (Or.inl (by decide)))
          have k_15 : (gi σ7 74 50).toInt = (gi σ4 74 50).toInt := by rw [eσ7]; exact congrArg Int32.toInt (gi_si_ne (Or.inl (by decide)))
          have k_16 : (gi σ7 74 51).toInt = (gi σ4 74 51).toInt := by rw [eσ7]; exact congrArg Int32.toInt (gi_si_ne (Or.inl (by decide)))
          have k_17 : (gi σ7 74 52).toInt = (gi σ4 74 52).toInt := by rw [eσ7]; exact congrArg Int32.toInt (gi_si_ne (Or.inl (by decide)))
          try have hC9 : CD σ0 σ7 110 110 (6) := by rw [eσ7]; exact CD_st (by assumption) (by decide)
          try have hC9 : CD σ0 σ7 162 110 (6) := by rw [eσ7]; exact CD_st (by assumption) (by decide)
          try have hC9 : CD σ0 σ7 162 110 (x1.toInt) := by rw [eσ7]; exact CD_st (by assumption) (by decide)
          try have hD9 : CD σ0 σ7 162 110 (x1.toInt + 1) := by rw [eσ7]; first | exact CD_st (by assumption) (by decide) | exact CD_step (c := 110) (by assumption) (by assumption) (by omega) (by omega)
          refine ⟨hv_5, ?_⟩
          refine ⟨hv_5, ?_⟩
          intro σ10 eσ10
          have t_18 := MI_a105 mσ7 hv_5
          have mσ10 : MI σ10 := by rw [eσ10]; exact MIs_a158 mσ7 (by omega) (by omega)
          have fσ10 : Fr [74, 156, 157, 158, 159, 160, 161, 162, 163, 164, 165, 166, 167, 168] [49, 50, 51, 52, 53, 54, 55] σ0 σ10 := by rw [eσ10]; exact Fr_si fσ7 (by decide) (fun h9 => absurd h9 (by decide))
          have k_19 : (gi σ10 74 0).toInt = (gi σ7 74 0).toInt := by rw [eσ10]; exact congrArg Int32.toInt (gi_si_ne (Or.inl (by decide)))
          have k_20 : (gi σ10 74 1).toInt = (gi σ7 74 1).toInt := by rw [eσ10]; exact congrArg Int32.toInt (gi_si_ne (Or.inl (by decide)))
          have k_21 : (gi σ10 74 12).toInt = (gi σ7 74 12).toInt := by rw [eσ10]; exact congrArg Int32.toInt (gi_si_ne (Or.inl (by decide)))
          have k_22 : (gi σ10 74 50).toInt = (gi σ7 74 50).toInt := by rw [eσ10]; exact congrArg Int32.toInt (gi_si_ne (Or.inl (by decide)))
          have k_23 : (gi σ10 74 51).toInt = (gi σ7 74 51).toInt := by rw [eσ10]; exact congrArg Int32.toInt (gi_si_ne (Or.inl (by decide)))
          have k_24 : (gi σ10 74 52).toInt = (gi σ7 74 52).toInt := by rw [eσ10]; exact congrArg Int32.toInt (gi_si_ne (Or.inl (by decide)))
          try have hC9 : CD σ0 σ10 110 110 (6) := by rw [eσ10]; exact CD_st (by assumption) (by decide)
          try have hC9 : CD σ0 σ10 162 110 (6) := by rw [eσ10]; exact CD_st (by assumption) (by decide)
          try have hC9 : CD σ0 σ10 162 110 (x1.toInt) := by rw [eσ10]; exact CD_st (by assumption) (by decide)
          try have hD9 : CD σ0 σ10 162 110 (x1.toInt + 1) := by rw [eσ10]; first | exact CD_st (by assumption) (by decide) | exact CD_step (c := 110) (by assumption) (by assumption) (by omega) (by omega)
          refine ⟨hv_5, ?_⟩
          refine ⟨hv_5, ?_⟩
          intro σ13 eσ13
          have mσ13 : MI σ13 := by rw [eσ13]; exact MIs_au (a := 159) mσ10 rfl rfl
          have fσ13 : Fr [74, 156, 157, 158, 159, 160, 161, 162, 163, 164, 165, 166, 167, 168] [49, 50, 51, 52, 53, 54, 55] σ0 σ13 := by rw [eσ13]; exact Fr_si fσ10 (by decide) (fun h9 => absurd h9 (by decide))
          have k_25 : (gi σ13 74 0).toInt = (gi σ10 74 0).toInt := by rw [eσ13]; exact congrArg Int32.toInt (gi_si_ne (Or.inl (by decide)))
          have k_26 : (gi σ13 74 1).toInt = (gi σ10 74 1).toInt := by rw [eσ13]; exact congrArg Int32.toInt (gi_si_ne (Or.inl (by decide)))
          have k_27 : (gi σ13 74 12).toInt = (gi σ10 74 12).toInt := by rw [eσ13]; exact congrArg Int32.toInt (gi_si_ne (Or.inl (by decide)))
          have k_28 : (gi σ13 74 50).toInt = (gi σ10 74 50).toInt := by rw [eσ13]; exact congrArg Int32.toInt (gi_si_ne (Or.inl (by decide)))
          have k_29 : (gi σ13 74 51).toInt = (gi σ10 74 51).toInt := by rw [eσ13]; exact congrArg Int32.toInt (gi_si_ne (Or.inl (by decide)))
          have k_30 : (gi σ13 74 52).toInt = (gi σ10 74 52).toInt := by rw [eσ13]; exact congrArg Int32.toInt (gi_si_ne (Or.inl (by decide)))
          try have hC9 : CD σ0 σ13 110 110 (6) := by rw [eσ13]; exact CD_st (by assumption) (by decide)
          try have hC9 : CD σ0 σ13 162 110 (6) := by rw [eσ13]; exact CD_st (by assumption) (by decide)
          try have hC9 : CD σ0 σ13 162 110 (x1.toInt) := by rw [eσ13]; exact CD_st (by assumption) (by decide)
          try have hD9 : CD σ0 σ13 162 110 (x1.toInt + 1) := by rw [eσ13]; first | exact CD_st (by assumption) (by decide) | exact CD_step (c := 110) (by assumption) (by assumption) (by omega) (by omega)
          refine ⟨hv_5, ?_⟩
          refine ⟨hv_5, ?_⟩
          intro σ16 eσ16
          have mσ16 : MI σ16 := by rw [eσ16]; exact MIs_au (a := 160) mσ13 rfl rfl
          have fσ16 : Fr [74, 156, 157, 158, 159, 160, 161, 162, 163, 164, 165, 166, 167, 168] [49, 50, 51, 52, 53, 54, 55] σ0 σ16 := by rw [eσ16]; exact Fr_si fσ13 (by decide) (fun h9 => absurd h9 (by decide))
          have k_31 : (gi σ16 74 0).toInt = (gi σ13 74 0).toInt := by rw [eσ16]; exact congrArg Int32.toInt (gi_si_ne (Or.inl (by decide)))
          have k_32 : (gi σ16 74 1).toInt = (gi σ13 74 1).toInt := by rw [eσ16]; exact congrArg Int32.toInt (gi_si_ne (Or.inl (by decide)))
          have k_33 : (gi σ16 74 12).toInt = (gi σ13 74 12).toInt := by rw [eσ16]; exact congrArg Int32.toInt (gi_si_ne (Or.inl (by decide)))
          have k_34 : (gi σ16 74 50).toInt = (gi σ13 74 50).toInt := by rw [eσ16]; exact congrArg Int32.toInt (gi_si_ne (Or.inl (by decide)))
          have k_35 : (gi σ16 74 51).toInt = (gi σ13 74 51).toInt := by rw [eσ16]; exact congrArg Int32.toInt (gi_si_ne (Or.inl (by decide)))
          have k_36 : (gi σ16 74 52).toInt = (gi σ13 74 52).toInt := by rw [eσ16]; exact congrArg Int32.toInt (gi_si_ne (Or.inl (by decide)))
          try have hC9 : CD σ0 σ16 110 110 (6) := by rw [eσ16]; exact CD_st (by assumption) (by decide)
          try have hC9 : CD σ0 σ16 162 110 (6) := by rw [eσ16]; exact CD_st (by assumption) (by decide)
          try have hC9 : CD σ0 σ16 162 110 (x1.toInt) := by rw [eσ16]; exact CD_st (by assumption) (by decide)
          try have hD9 : CD σ0 σ16 162 110 (x1.toInt + 1) := by rw [eσ16]; first | exact CD_st (by assumption) (by decide) | exact CD_step (c := 110) (by assumption) (by assumption) (by omega) (by omega)
          refine ⟨hv_5, ?_⟩
          refine ⟨hv_5, ?_⟩
          intro σ19 eσ19
          have mσ19 : MI σ19 := by rw [eσ19]; exact MIs_au (a := 161) mσ16 rfl rfl
          have fσ19 : Fr [74, 156, 157, 158, 159, 160, 161, 162, 163, 164, 165, 166, 167, 168] [49, 50, 51, 52, 53, 54, 55] σ0 σ19 := by rw [eσ19]; exact Fr_si fσ16 (by decide) (fun h9 => absurd h9 (by decide))
          have k_37 : (gi σ19 74 0).toInt = (gi σ16 74 0).toInt := by rw [eσ19]; exact congrArg Int32.toInt (gi_si_ne (Or.inl (by decide)))
          have k_38 : (gi σ19 74 1).toInt = (gi σ16 74 1).toInt := by rw [eσ19]; exact congrArg Int32.toInt (gi_si_ne (Or.inl (by decide)))
          have k_39 : (gi σ19 74 12).toInt = (gi σ16 74 12).toInt := by rw [eσ19]; exact congrArg Int32.toInt (gi_si_ne (Or.inl (by decide)))
          have k_40 : (gi σ19 74 50).toInt = (gi σ16 74 50).toInt := by rw [eσ19]; exact congrArg Int32.toInt (gi_si_ne (Or.inl (by decide)))
          have k_41 : (gi σ19 74 51).toInt = (gi σ16 74 51).toInt := by rw [eσ19]; exact congrArg Int32.toInt (gi_si_ne (Or.inl (by decide)))
          have k_42 : (gi σ19 74 52).toInt = (gi σ16 74 52).toInt := by rw [eσ19]; exact congrArg Int32.toInt (gi_si_ne (Or.inl (by decide)))
          try have hC9 : CD σ0 σ19 110 110 (6) := by rw [eσ19]; exact CD_st (by assumption) (by decide)
          try have hC9 : CD σ0 σ19 162 110 (6) := by rw [eσ19]; exact CD_st (by assumption) (by decide)
          try have hC9 : CD σ0 σ19 162 110 (x1.toInt) := by rw [eσ19]; exact CD_st (by assumption) (by decide)
          try have hD9 : CD σ0 σ19 162 110 (x1.toInt + 1) := by rw [eσ19]; first | exact CD_st (by assumption) (by decide) | exact CD_step (c := 110) (by assumption) (by assumption) (by omega) (by omega)
          refine ⟨hv_5, ?_⟩
          refine ⟨hv_5, ?_⟩
          intro σ22 eσ22
          have t_43 := MI_a110 mσ19 hv_5
          have mσ22 : MI σ22 := by rw [eσ22]; exact MIs_a162 mσ19 (by omega) (by omega)
          have fσ22 : Fr [74, 156, 157, 158, 159, 160, 161, 162, 163, 164, 165, 166, 167, 168] [49, 50, 51, 52, 53, 54, 55] σ0 σ22 := by rw [eσ22]; exact Fr_si fσ19 (by decide) (fun h9 => absurd h9 (by decide))
          have k_44 : (gi σ22 74 0).toInt = (gi σ19 74 0).toInt := by rw [eσ22]; exact congrArg Int32.toInt (gi_si_ne (Or.inl (by decide)))
          have k_45 : (gi σ22 74 1).toInt = (gi σ19 74 1).toInt := by rw [eσ22]; exact congrArg Int32.toInt (gi_si_ne (Or.inl (by decide)))
          have k_46 : (gi σ22 74 12).toInt = (gi σ19 74 12).toInt := by rw [eσ22]; exact congrArg Int32.toInt (gi_si_ne (Or.inl (by decide)))
          have k_47 : (gi σ22 74 50).toInt = (gi σ19 74 50).toInt := by rw [eσ22]; exact congrArg Int32.toInt (gi_si_ne (Or.inl (by decide)))
          have k_48 : (gi σ22 74 51).toInt = (gi σ19 74 51).toInt := by rw [eσ22]; exact congrArg Int32.toInt (gi_si_ne (Or.inl (by decide)))
          have k_49 : (gi σ22 74 52).toInt = (gi σ19 74 52).toInt := by rw [eσ22]; exact congrArg Int32.toInt (gi_si_ne (Or.inl (by decide)))
          try have hC9 : CD σ0 σ22 110 110 (6) := by rw [eσ22]; exact CD_st (by assumption) (by decide)
          try have hC9 : CD σ0 σ22 162 110 (6) := by rw [eσ22]; exact CD_st (by assumption) (by decide)
          try have hC9 : CD σ0 σ22 162 110 (x1.toInt) := by rw [eσ22]; exact CD_st (by assumption) (by decide)
          try have hD9 : CD σ0 σ22 162 110 (x1.toInt + 1) := by rw [eσ22]; first | exact CD_st (by assumption) (by decide) | exact CD_step (c := 110) (by assumption) (by assumption) (by omega) (by omega)
          refine ⟨hv_5, ?_⟩
          refine ⟨hv_5, ?_⟩
          intro σ25 eσ25
          have t_50 := MI_a142 mσ22 hv_5
          have mσ25 : MI σ25 := by rw [eσ25]; exact MIs_a164 mσ22 (by omega) (by omega)
          have fσ25 : Fr [74, 156, 157, 158, 159, 160, 161, 162, 163, 164, 165, 166, 167, 168] [49, 50, 51, 52, 53, 54, 55] σ0 σ25 := by rw [eσ25]; exact Fr_si fσ22 (by decide) (fun h9 => absurd h9 (by decide))
          have k_51 : (gi σ25 74 0).toInt = (gi σ22 74 0).toInt := by rw [eσ25]; exact congrArg Int32.toInt (gi_si_ne (Or.inl (by decide)))
          have k_52 : (gi σ25 74 1).toInt = (gi σ22 74 1).toInt := by rw [eσ25]; exact congrArg Int32.toInt (gi_si_ne (Or.inl (by decide)))
          have k_53 : (gi σ25 74 12).toInt = (gi σ22 74 12).toInt := by rw [eσ25]; exact congrArg Int32.toInt (gi_si_ne (Or.inl (by decide)))
          have k_54 : (gi σ25 74 50).toInt = (gi σ22 74 50).toInt := by rw [eσ25]; exact congrArg Int32.toInt (gi_si_ne (Or.inl (by decide)))
          have k_55 : (gi σ25 74 51).toInt = (gi σ22 74 51).toInt := by rw [eσ25]; exact congrArg Int32.toInt (gi_si_ne (Or.inl (by decide)))
          have k_56 : (gi σ25 74 52).toInt = (gi σ22 74 52).toInt := by rw [eσ25]; exact congrArg Int32.toInt (gi_si_ne (Or.inl (by decide)))
          try have hC9 : CD σ0 σ25 110 110 (6) := by rw [eσ25]; exact CD_st (by assumption) (by decide)
          try have hC9 : CD σ0 σ25 162 110 (6) := by rw [eσ25]; exact CD_st (by assumption) (by decide)
          try have hC9 : CD σ0 σ25 162 110 (x1.toInt) := by rw [eσ25]; exact CD_st (by assumption) (by decide)
          try have hD9 : CD σ0 σ25 162 110 (x1.toInt + 1) := by rw [eσ25]; first | exact CD_st (by assumption) (by decide) | exact CD_step (c := 110) (by assumption) (by assumption) (by omega) (by omega)
          refine ⟨hv_5, ?_⟩
          refine ⟨hv_5, ?_⟩
          intro σ28 eσ28
          have t_57 := MI_a143 mσ25 hv_5
          have mσ28 : MI σ28 := by rw [eσ28]; exact MIs_a165 mσ25 (by omega) (by omega)
          have fσ28 : Fr [74, 156, 157, 158, 159, 160, 161, 162, 163, 164, 165, 166, 167, 168] [49, 50, 51, 52, 53, 54, 55] σ0 σ28 := by rw [eσ28]; exact Fr_si fσ25 (by decide) (fun h9 => absurd h9 (by decide))
          have k_58 : (gi σ28 74 0).toInt = (gi σ25 74 0).toInt := by rw [eσ28]; exact congrArg Int32.toInt (gi_si_ne (Or.inl (by decide)))
          have k_59 : (gi σ28 74 1).toInt = (gi σ25 74 1).toInt := by rw [eσ28]; exact congrArg Int32.toInt (gi_si_ne (Or.inl (by decide)))
          have k_60 : (gi σ28 74 12).toInt = (gi σ25 74 12).toInt := by rw [eσ28]; exact congrArg Int32.toInt (gi_si_ne (Or.inl (by decide)))
          have k_61 : (gi σ28 74 50).toInt = (gi σ25 74 50).toInt := by rw [eσ28]; exact congrArg Int32.toInt (gi_si_ne (Or.inl (by decide)))
          have k_62 : (gi σ28 74 51).toInt = (gi σ25 74 51).toInt := by rw [eσ28]; exact congrArg Int32.toInt (gi_si_ne (Or.inl (by decide)))
          have k_63 : (gi σ28 74 52).toInt = (gi σ25 74 52).toInt := by rw [eσ28]; exact congrArg Int32.toInt (gi_si_ne (Or.inl (by decide)))
          try have hC9 : CD σ0 σ28 110 110 (6) := by rw [eσ28]; exact CD_st (by assumption) (by decide)
          try have hC9 : CD σ0 σ28 162 110 (6) := by rw [eσ28]; exact CD_st (by assumption) (by decide)
          try have hC9 : CD σ0 σ28 162 110 (x1.toInt) := by rw [eσ28]; exact CD_st (by assumption) (by decide)
          try have hD9 : CD σ0 σ28 162 110 (x1.toInt + 1) := by rw [eσ28]; first | exact CD_st (by assumption) (by decide) | exact CD_step (c := 110) (by assumption) (by assumption) (by omega) (by omega)
          refine ⟨hv_5, ?_⟩
          refine ⟨hv_5, ?_⟩
          intro σ31 eσ31
          have mσ31 : MI σ31 := by rw [eσ31]; exact MIs_au (a := 166) mσ28 rfl rfl
          have fσ31 : Fr [74, 156, 157, 158, 159, 160, 161, 162, 163, 164, 165, 166, 167, 168] [49, 50, 51, 52, 53, 54, 55] σ0 σ31 := by rw [eσ31]; exact Fr_si fσ28 (by decide) (fun h9 => absurd h9 (by decide))
          have k_64 : (gi σ31 74 0).toInt = (gi σ28 74 0).toInt := by rw [eσ31]; exact congrArg Int32.toInt (gi_si_ne (Or.inl (by decide)))
          have k_65 : (gi σ31 74 1).toInt = (gi σ28 74 1).toInt := by rw [eσ31]; exact congrArg Int32.toInt (gi_si_ne (Or.inl (by decide)))
          have k_66 : (gi σ31 74 12).toInt = (gi σ28 74 12).toInt := by rw [eσ31]; exact congrArg Int32.toInt (gi_si_ne (Or.inl (by decide)))
          have k_67 : (gi σ31 74 50).toInt = (gi σ28 74 50).toInt := by rw [eσ31]; exact congrArg Int32.toInt (gi_si_ne (Or.inl (by decide)))
          have k_68 : (gi σ31 74 51).toInt = (gi σ28 74 51).toInt := by rw [eσ31]; exact congrArg Int32.toInt (gi_si_ne (Or.inl (by decide)))
          have k_69 : (gi σ31 74 52).toInt = (gi σ28 74 52).toInt := by rw [eσ31]; exact congrArg Int32.toInt (gi_si_ne (Or.inl (by decide)))
          try have hC9 : CD σ0 σ31 110 110 (6) := by rw [eσ31]; exact CD_st (by assumption) (by decide)
          try have hC9 : CD σ0 σ31 162 110 (6) := by rw [eσ31]; exact CD_st (by assumption) (by decide)
          try have hC9 : CD σ0 σ31 162 110 (x1.toInt) := by rw [eσ31]; exact CD_st (by assumption) (by decide)
          try have hD9 : CD σ0 σ31 162 110 (x1.toInt + 1) := by rw [eσ31]; first | exact CD_st (by assumption) (by decide) | exact CD_step (c := 110) (by assumption) (by assumption) (by omega) (by omega)
          intro v32 ev32
          have t_70 : (x1 + (1 : Int32)).toInt = x1.toInt + 1 := i_add (x := x1) (y := (1 : Int32)) (by show (_ : Int) ≤ x1.toInt + 1; omega) (by show x1.toInt + 1 ≤ (_ : Int); omega)
          have t_71 : v32.toInt = (x1 + (1 : Int32)).toInt := congrArg Int32.toInt ev32
          exact ih55 v32 σ31 mσ31 fσ31 (by omega) (by omega) (by first | omega | assumption | rfl) (by first | omega | assumption | rfl) (by first | omega | assumption | rfl) (by assumption) (by first | exact CD_0 (Int.le_refl 0) | (rw [show v32.toInt = x1.toInt + 1 from by omega]; assumption)) (by omega)
      · intro x1 σ mσ fσ lx1 ux1 i0 i1 i2 i3 hmu
        refine s_X12_image_189 C hN ?_
        refine ⟨?_, ?_⟩
        · intro q_72
          have b_73 : (24 : Int) ≤ x1.toInt := Int32.le_iff_toInt_le.mp q_72
          have z_74 : (0 : Int32).toInt = 0 := rfl
          exact ih215 (0 : Int32) σ mσ fσ (by omega) (by omega) (by first | omega | assumption | rfl) (by first | omega | assumption | rfl) (by first | omega | assumption | rfl) (by first | assumption | exact CD_le (by assumption) (by omega)) (by omega)
        · intro q_72
          have b_75 : ¬ (24 : Int) ≤ x1.toInt := fun h9 => q_72 (Int32.le_iff_toInt_le.mpr h9)
          have hv_76 : vp_in x1 24 := vp_in_iff.mpr ⟨by omega, by omega⟩
          refine ⟨hv_76, ?_⟩
          refine ⟨hv_76, ?_⟩
          intro σ4 eσ4
          have mσ4 : MI σ4 := by rw [eσ4]; exact MIs_au (a := 163) mσ rfl rfl
          have fσ4 : Fr [74, 156, 157, 158, 159, 160, 161, 162, 163, 164, 165, 166, 167, 168] [49, 50, 51, 52, 53, 54, 55] σ0 σ4 := by rw [eσ4]; exact Fr_si fσ (by decide) (fun h9 => absurd h9 (by decide))
          have k_77 : (gi σ4 74 0).toInt = (gi σ 74 0).toInt := by rw [eσ4]; exact congrArg Int32.toInt (gi_si_ne (Or.inl (by decide)))
          have k_78 : (gi σ4 74 1).toInt = (gi σ 74 1).toInt := by rw [eσ4]; exact congrArg Int32.toInt (gi_si_ne (Or.inl (by decide)))
          have k_79 : (gi σ4 74 12).toInt = (gi σ 74 12).toInt := by rw [eσ4]; exact congrArg Int32.toInt (gi_si_ne (Or.inl (by decide)))
          have k_80 : (gi σ4 74 50).toInt = (gi σ 74 50).toInt := by rw [eσ4]; exact congrArg Int32.toInt (gi_si_ne (Or.inl (by decide)))
          have k_81 : (gi σ4 74 51).toInt = (gi σ 74 51).toInt := by rw [eσ4]; exact congrArg Int32.toInt (gi_si_ne (Or.inl (by decide)))
          have k_82 : (gi σ4 74 52).toInt = (gi σ 74 52).toInt := by rw [eσ4]; exact congrArg Int32.toInt (gi_si_ne (Or.inl (by decide)))
          try have hC9 : CD σ0 σ4 110 110 (6) := by rw [eσ4]; exact CD_st (by assumption) (by decide)
          try have hC9 : CD σ0 σ4 162 110 (6) := by rw [eσ4]; exact CD_st (by assumption) (by decide)
          try have hC9 : CD σ0 σ4 162 110 (x1.toInt) := by rw [eσ4]; exact CD_st (by assumption) (by decide)
          try have hD9 : CD σ0 σ4 162 110 (x1.toInt + 1) := by rw [eσ4]; first | exact CD_st (by assumption) (by decide) | exact CD_step (c := 110) (by assumption) (by assumption) (by omega) (by omega)
          intro v5 ev5
          have t_83 : (x1 + (1 : Int32)).toInt = x1.toInt + 1 := i_add (x := x1) (y := (1 : Int32)) (by show (_ : Int) ≤ x1.toInt + 1; omega) (by show x1.toInt + 1 ≤ (_ : Int); omega)
          have t_84 : v5.toInt = (x1 + (1 : Int32)).toInt := congrArg Int32.toInt ev5
          exact ih189 v5 σ4 mσ4 fσ4 (by omega) (by omega) (by first | omega | assumption | rfl) (by first | omega | assumption | rfl) (by first | omega | assumption | rfl) (by first | assumption | exact CD_le (by assumption) (by omega)) (by omega)
      · intro x1 σ mσ fσ lx1 ux1 i0 i1 i2 i3 hmu
        refine s_X12_image_215 C hN ?_
        refine ⟨?_, ?_⟩
        · intro q_85
          have b_86 : (10 : Int) ≤ x1.toInt := Int32.le_iff_toInt_le.mp q_85
          have z_87 : (0 : Int32).toInt = 0 := rfl
          exact ih241 (0 : Int32) σ mσ fσ (by omega) (by omega) (by first | omega | assumption | rfl) (by first | omega | assumption | rfl) (by first | omega | assumption | rfl) (by first | assumption | exact CD_le (by assumption) (by omega)) (by omega)
        · intro q_85
          have b_88 : ¬ (10 : Int) ≤ x1.toInt := fun h9 => q_85 (Int32.le_iff_toInt_le.mpr h9)
          have hv_89 : vp_in x1 10 := vp_in_iff.mpr ⟨by omega, by omega⟩
          refine ⟨hv_89, ?_⟩
          refine ⟨hv_89, ?_⟩
          intro σ4 eσ4
          have mσ4 : MI σ4 := by rw [eσ4]; exact MIs_au (a := 167) mσ rfl rfl
          have fσ4 : Fr [74, 156, 157, 158, 159, 160, 161, 162, 163, 164, 165, 166, 167, 168] [49, 50, 51, 52, 53, 54, 55] σ0 σ4 := by rw [eσ4]; exact Fr_si fσ (by decide) (fun h9 => absurd h9 (by decide))
          have k_90 : (gi σ4 74 0).toInt = (gi σ 74 0).toInt := by rw [eσ4]; exact congrArg Int32.toInt (gi_si_ne (Or.inl (by decide)))
          have k_91 : (gi σ4 74 1).toInt = (gi σ 74 1).toInt := by rw [eσ4]; exact congrArg Int32.toInt (gi_si_ne (Or.inl (by decide)))
          have k_92 : (gi σ4 74 12).toInt = (gi σ 74 12).toInt := by rw [eσ4]; exact congrArg Int32.toInt (gi_si_ne (Or.inl (by decide)))
          have k_93 : (gi σ4 74 50).toInt = (gi σ 74 50).toInt := by rw [eσ4]; exact congrArg Int32.toInt (gi_si_ne (Or.inl (by decide)))
          have k_94 : (gi σ4 74 51).toInt = (gi σ 74 51).toInt := by rw [eσ4]; exact congrArg Int32.toInt (gi_si_ne (Or.inl (by decide)))
          have k_95 : (gi σ4 74 52).toInt = (gi σ 74 52).toInt := by rw [eσ4]; exact congrArg Int32.toInt (gi_si_ne (Or.inl (by decide)))
          try have hC9 : CD σ0 σ4 110 110 (6) := by rw [eσ4]; exact CD_st (by assumption) (by decide)
          try have hC9 : CD σ0 σ4 162 110 (6) := by rw [eσ4]; exact CD_st (by assumption) (by decide)
          try have hC9 : CD σ0 σ4 162 110 (x1.toInt) := by rw [eσ4]; exact CD_st (by assumption) (by decide)
          try have hD9 : CD σ0 σ4 162 110 (x1.toInt + 1) := by rw [eσ4]; first | exact CD_st (by assumption) (by decide) | exact CD_step (c := 110) (by assumption) (by assumption) (by omega) (by omega)
          intro v5 ev5
          have t_96 : (x1 + (1 : Int32)).toInt = x1.toInt + 1 := i_add (x := x1) (y := (1 : Int32)) (by show (_ : Int) ≤ x1.toInt + 1; omega) (by show x1.toInt + 1 ≤ (_ : Int); omega)
          have t_97 : v5.toInt = (x1 + (1 : Int32)).toInt := congrArg Int32.toInt ev5
          exact ih215 v5 σ4 mσ4 fσ4 (by omega) (by omega) (by first | omega | assumption | rfl) (by first | omega | assumption | rfl) (by first | omega | assumption | rfl) (by first | assumption | exact CD_le (by assumption) (by omega)) (by omega)
      · intro x1 σ mσ fσ lx1 ux1 i0 i1 i2 i3 hmu
        refine s_X12_image_241 C hN ?_
        refine ⟨?_, ?_⟩
        · intro q_98
          have b_99 : (8 : Int) ≤ x1.toInt := Int32.le_iff_toInt_le.mp q_98
          have t_100 := MI_f0 mσ
          exact h9ret (gi σ 74 0) σ mσ fσ (by first | omega | assumption | rfl) (by first | omega | assumption | rfl) (by first | omega | assumption | rfl) (PLI_mk m0 pre0 (by assumption) (by omega))
        · intro q_98
          have b_101 : ¬ (8 : Int) ≤ x1.toInt := fun h9 => q_98 (Int32.le_iff_toInt_le.mpr h9)
          have hv_102 : vp_in x1 8 := vp_in_iff.mpr ⟨by omega, by omega⟩
          refine ⟨hv_102, ?_⟩
          refine ⟨hv_102, ?_⟩
          intro σ4 eσ4
          have mσ4 : MI σ4 := by rw [eσ4]; exact MIs_au (a := 168) mσ rfl rfl
          have fσ4 : Fr [74, 156, 157, 158, 159, 160, 161, 162, 163, 164, 165, 166, 167, 168] [49, 50, 51, 52, 53, 54, 55] σ0 σ4 := by rw [eσ4]; exact Fr_si fσ (by decide) (fun h9 => absurd h9 (by decide))
          have k_103 : (gi σ4 74 0).toInt = (gi σ 74 0).toInt := by rw [eσ4]; exact congrArg Int32.toInt (gi_si_ne (Or.inl (by decide)))
          have k_104 : (gi σ4 74 1).toInt = (gi σ 74 1).toInt := by rw [eσ4]; exact congrArg Int32.toInt (gi_si_ne (Or.inl (by decide)))
          have k_105 : (gi σ4 74 12).toInt = (gi σ 74 12).toInt := by rw [eσ4]; exact congrArg Int32.toInt (gi_si_ne (Or.inl (by decide)))
          have k_106 : (gi σ4 74 50).toInt = (gi σ 74 50).toInt := by rw [eσ4]; exact congrArg Int32.toInt (gi_si_ne (Or.inl (by decide)))
          have k_107 : (gi σ4 74 51).toInt = (gi σ 74 51).toInt := by rw [eσ4]; exact congrArg Int32.toInt (gi_si_ne (Or.inl (by decide)))
          have k_108 : (gi σ4 74 52).toInt = (gi σ 74 52).toInt := by rw [eσ4]; exact congrArg Int32.toInt (gi_si_ne (Or.inl (by decide)))
          try have hC9 : CD σ0 σ4 110 110 (6) := by rw [eσ4]; exact CD_st (by assumption) (by decide)
          try have hC9 : CD σ0 σ4 162 110 (6) := by rw [eσ4]; exact CD_st (by assumption) (by decide)
          try have hC9 : CD σ0 σ4 162 110 (x1.toInt) := by rw [eσ4]; exact CD_st (by assumption) (by decide)
          try have hD9 : CD σ0 σ4 162 110 (x1.toInt + 1) := by rw [eσ4]; first | exact CD_st (by assumption) (by decide) | exact CD_step (c := 110) (by assumption) (by assumption) (by omega) (by omega)
          intro v5 ev5
          have t_109 : (x1 + (1 : Int32)).toInt = x1.toInt + 1 := i_add (x := x1) (y := (1 : Int32)) (by show (_ : Int) ≤ x1.toInt + 1; omega) (by show x1.toInt + 1 ≤ (_ : Int); omega)
          have t_110 : v5.toInt = (x1 + (1 : Int32)).toInt := congrArg Int32.toInt ev5
          exact ih241 v5 σ4 mσ4 fσ4 (by omega) (by omega) (by first | omega | assumption | rfl) (by first | omega | assumption | rfl) (by first | omega | assumption | rfl) (by first | assumption | exact CD_le (by assumption) (by omega)) (by omega)
  obtain ⟨U55, U189, U215, U241⟩ := T 900
  have f0 : Fr [74, 156, 157, 158, 159, 160, 161, 162, 163, 164, 165, 166, 167, 168] [49, 50, 51, 52, 53, 54, 55] σ0 σ0 := Fr_rf
  have hA9 : CD σ0 σ0 110 110 6 := CD_rf
  refine s_X12_image_0 C hN ?_
  intro σ1 eσ1
  have mσ1 : MI σ1 := by rw [eσ1]; exact MIs_fu m0 (by decide)
  have fσ1 : Fr [74, 156, 157, 158, 159, 160, 161, 162, 163, 164, 165, 166, 167, 168] [49, 50, 51, 52, 53, 54, 55] σ0 σ1 := by rw [eσ1]; exact Fr_si f0 (by decide) (fun _ => by decide)
  have k_111 : (gi σ1 74 0).toInt = (gi σ0 74 0).toInt := by rw [eσ1]; exact congrArg Int32.toInt (gi_si_ne (Or.inr (by decide)))
  have k_112 : (gi σ1 74 1).toInt = (gi σ0 74 1).toInt := by rw [eσ1]; exact congrArg Int32.toInt (gi_si_ne (Or.inr (by decide)))
  have k_113 : (gi σ1 74 12).toInt = (gi σ0 74 12).toInt := by rw [eσ1]; exact congrArg Int32.toInt (gi_si_ne (Or.inr (by decide)))
  have k_114 : (gi σ1 74 50).toInt = (gi σ0 74 50).toInt := by rw [eσ1]; exact congrArg Int32.toInt (gi_si_ne (Or.inr (by decide)))
  have k_115 : (gi σ1 74 51).toInt = (gi σ0 74 51).toInt := by rw [eσ1]; exact congrArg Int32.toInt (gi_si_ne (Or.inr (by decide)))
  have k_116 : (gi σ1 74 52).toInt = (gi σ0 74 52).toInt := by rw [eσ1]; exact congrArg Int32.toInt (gi_si_ne (Or.inr (by decide)))
  try have hC9 : CD σ0 σ1 110 110 (6) := by rw [eσ1]; exact CD_st (by assumption) (by decide)
  intro σ2 eσ2
  have t_117 := MI_f12 mσ1
  have mσ2 : MI σ2 := by rw [eσ2]; exact MIs_f50 mσ1 (by omega) (by omega) (FV_copy mσ1.2.2 (Or.inr rfl) (Or.inl rfl))
  have fσ2 : Fr [74, 156, 157, 158, 159, 160, 161, 162, 163, 164, 165, 166, 167, 168] [49, 50, 51, 52, 53, 54, 55] σ0 σ2 := by rw [eσ2]; exact Fr_si fσ1 (by decide) (fun _ => by decide)
  have k_118 : (gi σ2 74 0).toInt = (gi σ1 74 0).toInt := by rw [eσ2]; exact congrArg Int32.toInt (gi_si_ne (Or.inr (by decide)))
  have k_119 : (gi σ2 74 1).toInt = (gi σ1 74 1).toInt := by rw [eσ2]; exact congrArg Int32.toInt (gi_si_ne (Or.inr (by decide)))
  have k_120 : (gi σ2 74 12).toInt = (gi σ1 74 12).toInt := by rw [eσ2]; exact congrArg Int32.toInt (gi_si_ne (Or.inr (by decide)))
  have k_121 : (gi σ2 74 50).toInt = (gi σ1 74 12).toInt := by rw [eσ2]; exact congrArg Int32.toInt gi_si_eq
  have k_122 : (gi σ2 74 51).toInt = (gi σ1 74 51).toInt := by rw [eσ2]; exact congrArg Int32.toInt (gi_si_ne (Or.inr (by decide)))
  have k_123 : (gi σ2 74 52).toInt = (gi σ1 74 52).toInt := by rw [eσ2]; exact congrArg Int32.toInt (gi_si_ne (Or.inr (by decide)))
  try have hC9 : CD σ0 σ2 110 110 (6) := by rw [eσ2]; exact CD_st (by assumption) (by decide)
  intro σ3 eσ3
  have t_124 := MI_f0 mσ2
  have mσ3 : MI σ3 := by rw [eσ3]; exact MIs_f51 mσ2 (by omega) (by omega)
  have fσ3 : Fr [74, 156, 157, 158, 159, 160, 161, 162, 163, 164, 165, 166, 167, 168] [49, 50, 51, 52, 53, 54, 55] σ0 σ3 := by rw [eσ3]; exact Fr_si fσ2 (by decide) (fun _ => by decide)
  have k_125 : (gi σ3 74 0).toInt = (gi σ2 74 0).toInt := by rw [eσ3]; exact congrArg Int32.toInt (gi_si_ne (Or.inr (by decide)))
  have k_126 : (gi σ3 74 1).toInt = (gi σ2 74 1).toInt := by rw [eσ3]; exact congrArg Int32.toInt (gi_si_ne (Or.inr (by decide)))
  have k_127 : (gi σ3 74 12).toInt = (gi σ2 74 12).toInt := by rw [eσ3]; exact congrArg Int32.toInt (gi_si_ne (Or.inr (by decide)))
  have k_128 : (gi σ3 74 50).toInt = (gi σ2 74 50).toInt := by rw [eσ3]; exact congrArg Int32.toInt (gi_si_ne (Or.inr (by decide)))
  have k_129 : (gi σ3 74 51).toInt = (gi σ2 74 0).toInt := by rw [eσ3]; exact congrArg Int32.toInt gi_si_eq
  have k_130 : (gi σ3 74 52).toInt = (gi σ2 74 52).toInt := by rw [eσ3]; exact congrArg Int32.toInt (gi_si_ne (Or.inr (by decide)))
  try have hC9 : CD σ0 σ3 110 110 (6) := by rw [eσ3]; exact CD_st (by assumption) (by decide)
  intro σ4 eσ4
  have t_131 := MI_f1 mσ3
  have mσ4 : MI σ4 := by rw [eσ4]; exact MIs_f52 mσ3 (by omega) (by omega)
  have fσ4 : Fr [74, 156, 157, 158, 159, 160, 161, 162, 163, 164, 165, 166, 167, 168] [49, 50, 51, 52, 53, 54, 55] σ0 σ4 := by rw [eσ4]; exact Fr_si fσ3 (by decide) (fun _ => by decide)
  have k_132 : (gi σ4 74 0).toInt = (gi σ3 74 0).toInt := by rw [eσ4]; exact congrArg Int32.toInt (gi_si_ne (Or.inr (by decide)))
  have k_133 : (gi σ4 74 1).toInt = (gi σ3 74 1).toInt := by rw [eσ4]; exact congrArg Int32.toInt (gi_si_ne (Or.inr (by decide)))
  have k_134 : (gi σ4 74 12).toInt = (gi σ3 74 12).toInt := by rw [eσ4]; exact congrArg Int32.toInt (gi_si_ne (Or.inr (by decide)))
  have k_135 : (gi σ4 74 50).toInt = (gi σ3 74 50).toInt := by rw [eσ4]; exact congrArg Int32.toInt (gi_si_ne (Or.inr (by decide)))
  have k_136 : (gi σ4 74 51).toInt = (gi σ3 74 51).toInt := by rw [eσ4]; exact congrArg Int32.toInt (gi_si_ne (Or.inr (by decide)))
  have k_137 : (gi σ4 74 52).toInt = (gi σ3 74 1).toInt := by rw [eσ4]; exact congrArg Int32.toInt gi_si_eq
  try have hC9 : CD σ0 σ4 110 110 (6) := by rw [eσ4]; exact CD_st (by assumption) (by decide)
  intro σ5 eσ5
  have t_138 := MI_f41 mσ4
  have mσ5 : MI σ5 := by rw [eσ5]; exact MIs_f53 mσ4 (by omega) (by omega)
  have fσ5 : Fr [74, 156, 157, 158, 159, 160, 161, 162, 163, 164, 165, 166, 167, 168] [49, 50, 51, 52, 53, 54, 55] σ0 σ5 := by rw [eσ5]; exact Fr_si fσ4 (by decide) (fun _ => by decide)
  have k_139 : (gi σ5 74 0).toInt = (gi σ4 74 0).toInt := by rw [eσ5]; exact congrArg Int32.toInt (gi_si_ne (Or.inr (by decide)))
  have k_140 : (gi σ5 74 1).toInt = (gi σ4 74 1).toInt := by rw [eσ5]; exact congrArg Int32.toInt (gi_si_ne (Or.inr (by decide)))
  have k_141 : (gi σ5 74 12).toInt = (gi σ4 74 12).toInt := by rw [eσ5]; exact congrArg Int32.toInt (gi_si_ne (Or.inr (by decide)))
  have k_142 : (gi σ5 74 41).toInt = (gi σ4 74 41).toInt := by rw [eσ5]; exact congrArg Int32.toInt (gi_si_ne (Or.inr (by decide)))
  have k_143 : (gi σ5 74 50).toInt = (gi σ4 74 50).toInt := by rw [eσ5]; exact congrArg Int32.toInt (gi_si_ne (Or.inr (by decide)))
  have k_144 : (gi σ5 74 51).toInt = (gi σ4 74 51).toInt := by rw [eσ5]; exact congrArg Int32.toInt (gi_si_ne (Or.inr (by decide)))
  have k_145 : (gi σ5 74 52).toInt = (gi σ4 74 52).toInt := by rw [eσ5]; exact congrArg Int32.toInt (gi_si_ne (Or.inr (by decide)))
  try have hC9 : CD σ0 σ5 110 110 (6) := by rw [eσ5]; exact CD_st (by assumption) (by decide)
  intro σ6 eσ6
  have t_146 := MI_f45 mσ5
  have mσ6 : MI σ6 := by rw [eσ6]; exact MIs_f54 mσ5 (by omega) (by omega)
  have fσ6 : Fr [74, 156, 157, 158, 159, 160, 161, 162, 163, 164, 165, 166, 167, 168] [49, 50, 51, 52, 53, 54, 55] σ0 σ6 := by rw [eσ6]; exact Fr_si fσ5 (by decide) (fun _ => by decide)
  have k_147 : (gi σ6 74 0).toInt = (gi σ5 74 0).toInt := by rw [eσ6]; exact congrArg Int32.toInt (gi_si_ne (Or.inr (by decide)))
  have k_148 : (gi σ6 74 1).toInt = (gi σ5 74 1).toInt := by rw [eσ6]; exact congrArg Int32.toInt (gi_si_ne (Or.inr (by decide)))
  have k_149 : (gi σ6 74 12).toInt = (gi σ5 74 12).toInt := by rw [eσ6]; exact congrArg Int32.toInt (gi_si_ne (Or.inr (by decide)))
  have k_150 : (gi σ6 74 41).toInt = (gi σ5 74 41).toInt := by rw [eσ6]; exact congrArg Int32.toInt (gi_si_ne (Or.inr (by decide)))
  have k_151 : (gi σ6 74 45).toInt = (gi σ5 74 45).toInt := by rw [eσ6]; exact congrArg Int32.toInt (gi_si_ne (Or.inr (by decide)))
  have k_152 : (gi σ6 74 50).toInt = (gi σ5 74 50).toInt := by rw [eσ6]; exact congrArg Int32.toInt (gi_si_ne (Or.inr (by decide)))
  have k_153 : (gi σ6 74 51).toInt = (gi σ5 74 51).toInt := by rw [eσ6]; exact congrArg Int32.toInt (gi_si_ne (Or.inr (by decide)))
  have k_154 : (gi σ6 74 52).toInt = (gi σ5 74 52).toInt := by rw [eσ6]; exact congrArg Int32.toInt (gi_si_ne (Or.inr (by decide)))
  try have hC9 : CD σ0 σ6 110 110 (6) := by rw [eσ6]; exact CD_st (by assumption) (by decide)
  intro σ7 eσ7
  have t_155 := MI_f46 mσ6
  have mσ7 : MI σ7 := by rw [eσ7]; exact MIs_f55 mσ6 (by omega) (by omega)
  have fσ7 : Fr [74, 156, 157, 158, 159, 160, 161, 162, 163, 164, 165, 166, 167, 168] [49, 50, 51, 52, 53, 54, 55] σ0 σ7 := by rw [eσ7]; exact Fr_si fσ6 (by decide) (fun _ => by decide)
  have k_156 : (gi σ7 74 0).toInt = (gi σ6 74 0).toInt := by rw [eσ7]; exact congrArg Int32.toInt (gi_si_ne (Or.inr (by decide)))
  have k_157 : (gi σ7 74 1).toInt = (gi σ6 74 1).toInt := by rw [eσ7]; exact congrArg Int32.toInt (gi_si_ne (Or.inr (by decide)))
  have k_158 : (gi σ7 74 12).toInt = (gi σ6 74 12).toInt := by rw [eσ7]; exact congrArg Int32.toInt (gi_si_ne (Or.inr (by decide)))
  have k_159 : (gi σ7 74 41).toInt = (gi σ6 74 41).toInt := by rw [eσ7]; exact congrArg Int32.toInt (gi_si_ne (Or.inr (by decide)))
  have k_160 : (gi σ7 74 45).toInt = (gi σ6 74 45).toInt := by rw [eσ7]; exact congrArg Int32.toInt (gi_si_ne (Or.inr (by decide)))
  have k_161 : (gi σ7 74 46).toInt = (gi σ6 74 46).toInt := by rw [eσ7]; exact congrArg Int32.toInt (gi_si_ne (Or.inr (by decide)))
  have k_162 : (gi σ7 74 50).toInt = (gi σ6 74 50).toInt := by rw [eσ7]; exact congrArg Int32.toInt (gi_si_ne (Or.inr (by decide)))
  have k_163 : (gi σ7 74 51).toInt = (gi σ6 74 51).toInt := by rw [eσ7]; exact congrArg Int32.toInt (gi_si_ne (Or.inr (by decide)))
  have k_164 : (gi σ7 74 52).toInt = (gi σ6 74 52).toInt := by rw [eσ7]; exact congrArg Int32.toInt (gi_si_ne (Or.inr (by decide)))
  try have hC9 : CD σ0 σ7 110 110 (6) := by rw [eσ7]; exact CD_st (by assumption) (by decide)
  have z_165 : (0 : Int32).toInt = 0 := rfl
  exact U55 (0 : Int32) σ7 mσ7 fσ7 (by omega) (by omega) (by first | omega | assumption | rfl) (by first | omega | assumption | rfl) (by first | omega | assumption | rfl) (by assumption) (by first | exact CD_0 (Int.le_refl 0) | (rw [show v32.toInt = x1.toInt + 1 from by omega]; assumption)) (by omega)
set_option maxRecDepth 100000 in
set_option maxHeartbeats 4000000 in
theorem kl_X12_undo {l : Launch} {V : Vx} {σ0 : Sg} {Qk : Int32 → Sg → Prop} (m0 : MI σ0) (pre0 : PL σ0) (pre1 : PLI σ0) (pre2 : (gi σ0 74 1).toInt ≤ 9999) (pre3 : (gi σ0 74 52).toInt ≤ 9999) (pre4 : (gi σ0 74 12).toInt < (gi σ0 74 11).toInt) (pre5 : (gi σ0 74 50).toInt < (gi σ0 74 11).toInt) (h9ret : ∀ (r : Int32) (σ' : Sg), MI σ' → Fr [74, 103, 104, 105, 106, 107, 108, 109, 110, 142, 143, 144, 147, 148] [0, 1, 2, 12, 41, 45, 46] σ0 σ' → (PL σ') → ((gi σ' 74 1).toInt ≤ 9999) → ((gi σ' 74 12).toInt < (gi σ' 74 11).toInt) → Qk r σ') : K_X12_undo l V σ0 Qk := by
  refine e_X12_undo (fun M hl hV hN C => ?_)
  subst hl
  subst hV
  have T : ∀ n : Nat, (∀ (x1 : Int32) (σ : Sg), MI σ → Fr [74, 103, 104, 105, 106, 107, 108, 109, 110, 142, 143, 144, 147, 148] [0, 1, 2, 12, 41, 45, 46] σ0 σ → (0 ≤ x1.toInt) → (x1.toInt ≤ 6) → ((gi σ 74 11).toInt = (gi σ0 74 11).toInt) → ((gi σ 74 0).toInt = (gi σ0 74 51).toInt) → ((gi σ 74 1).toInt = (gi σ0 74 52).toInt) → ((gi σ 74 12).toInt = (gi σ0 74 50).toInt) → (CD σ0 σ 162 162 6) → (CD σ0 σ 110 162 x1.toInt) → (7 - x1.toInt).toNat + 300 < n → PS M 68 [(0, .ref 74), (1, .int x1)] [] σ (0, 0)) ∧ (∀ (x1 : Int32) (σ : Sg), MI σ → Fr [74, 103, 104, 105, 106, 107, 108, 109, 110, 142, 143, 144, 147, 148] [0, 1, 2, 12, 41, 45, 46] σ0 σ → (0 ≤ x1.toInt) → (x1.toInt ≤ 24) → ((gi σ 74 11).toInt = (gi σ0 74 11).toInt) → ((gi σ 74 0).toInt = (gi σ0 74 51).toInt) → ((gi σ 74 1).toInt = (gi σ0 74 52).toInt) → ((gi σ 74 12).toInt = (gi σ0 74 50).toInt) → (CD σ0 σ 110 162 6) → (25 - x1.toInt).toNat + 200 < n → PS M 202 [(0, .ref 74), (1, .int x1)] [] σ (0, 0)) ∧ (∀ (x1 : Int32) (σ : Sg), MI σ → Fr [74, 103, 104, 105, 106, 107, 108, 109, 110, 142, 143, 144, 147, 148] [0, 1, 2, 12, 41, 45, 46] σ0 σ → (0 ≤ x1.toInt) → (x1.toInt ≤ 10) → ((gi σ 74 11).toInt = (gi σ0 74 11).toInt) → ((gi σ 74 0).toInt = (gi σ0 74 51).toInt) → ((gi σ 74 1).toInt = (gi σ0 74 52).toInt) → ((gi σ 74 12).toInt = (gi σ0 74 50).toInt) → (CD σ0 σ 110 162 6) → (11 - x1.toInt).toNat + 100 < n → PS M 228 [(0, .ref 74), (1, .int x1)] [] σ (0, 0)) ∧ (∀ (x1 : Int32) (σ : Sg), MI σ → Fr [74, 103, 104, 105, 106, 107, 108, 109, 110, 142, 143, 144, 147, 148] [0, 1, 2, 12, 41, 45, 46] σ0 σ → (0 ≤ x1.toInt) → (x1.toInt ≤ 8) → ((gi σ 74 11).toInt = (gi σ0 74 11).toInt) → ((gi σ 74 0).toInt = (gi σ0 74 51).toInt) → ((gi σ 74 1).toInt = (gi σ0 74 52).toInt) → ((gi σ 74 12).toInt = (gi σ0 74 50).toInt) → (CD σ0 σ 110 162 6) → (9 - x1.toInt).toNat < n → PS M 254 [(0, .ref 74), (1, .int x1)] [] σ (0, 0)) := by
    intro n
    induction n with
    | zero => exact ⟨fun _ _ _ _ _ _ _ _ _ _ _ _ h8 => absurd h8 (Nat.not_lt_zero _), fun _ _ _ _ _ _ _ _ _ _ _ h8 => absurd h8 (Nat.not_lt_zero _), fun _ _ _ _ _ _ _ _ _ _ _ h8 => absurd h8 (Nat.not_lt_zero _), fun _ _ _ _ _ _ _ _ _ _ _ h8 => absurd h8 (Nat.not_lt_zero _)⟩
    | succ n ih =>
      obtain ⟨ih68, ih202, ih228, ih254⟩ := ih
      refine ⟨?_, ?_, ?_, ?_⟩
      · intro x1 σ mσ fσ lx1 ux1 i0 i1 i2 i3 i4 i5 hmu
        refine s_X12_undo_68 C hN ?_
        refine ⟨?_, ?_⟩
        · intro q_1
          have b_2 : (6 : Int) ≤ x1.toInt := Int32.le_iff_toInt_le.mp q_1
          have z_3 : (0 : Int32).toInt = 0 := rfl
          exact ih202 (0 : Int32) σ mσ fσ (by omega) (by omega) (by first | omega | assumption | rfl) (by first | omega | assumption | rfl) (by first | omega | assumption | rfl) (by first | omega | assumption | rfl) (by first | assumption | exact CD_le (by assumption) (by omega)) (by omega)
        · intro q_1
          have b_4 : ¬ (6 : Int) ≤ x1.toInt := fun h9 => q_1 (Int32.le_iff_toInt_le.mpr h9)
          have hv_5 : vp_in x1 6 := vp_in_iff.mpr ⟨by omega, by omega⟩
          refine ⟨hv_5, ?_⟩
          refine ⟨hv_5, ?_⟩
          intro σ4 eσ4
          have mσ4 : MI σ4 := by rw [eσ4]; exact MIs_au (a := 103) mσ rfl rfl
          have fσ4 : Fr [74, 103, 104, 105, 106, 107, 108, 109, 110, 142, 143, 144, 147, 148] [0, 1, 2, 12, 41, 45, 46] σ0 σ4 := by rw [eσ4]; exact Fr_si fσ (by decide) (fun h9 => absurd h9 (by decide))
          have k_6 : (gi σ4 74 0).toInt = (gi σ 74 0).toInt := by rw [eσ4]; exact congrArg Int32.toInt (gi_si_ne (Or.inl (by decide)))
          have k_7 : (gi σ4 74 1).toInt = (gi σ 74 1).toInt := by rw [eσ4]; exact congrArg Int32.toInt (gi_si_ne (Or.inl (by decide)))
          have k_8 : (gi σ4 74 11).toInt = (gi σ 74 11).toInt := by rw [eσ4]; exact congrArg Int32.toInt (gi_si_ne (Or.inl (by decide)))
          have k_9 : (gi σ4 74 12).toInt = (gi σ 74 12).toInt := by rw [eσ4]; exact congrArg Int32.toInt (gi_si_ne (Or.inl (by decide)))
          have k_10 : (gi σ4 74 50).toInt = (gi σ 74 50).toInt := by rw [eσ4]; exact congrArg Int32.toInt (gi_si_ne (Or.inl (by decide)))
          have k_11 : (gi σ4 74 51).toInt = (gi σ 74 51).toInt := by rw [eσ4]; exact congrArg Int32.toInt (gi_si_ne (Or.inl (by decide)))
          have k_12 : (gi σ4 74 52).toInt = (gi σ 74 52).toInt := by rw [eσ4]; exact congrArg Int32.toInt (gi_si_ne (Or.inl (by decide)))
          try have hC9 : CD σ0 σ4 162 162 (6) := by rw [eσ4]; exact CD_st (by assumption) (by decide)
          try have hC9 : CD σ0 σ4 110 162 (6) := by rw [eσ4]; exact CD_st (by assumption) (by decide)
          try have hC9 : CD σ0 σ4 110 162 (x1.toInt) := by rw [eσ4]; exact CD_st (by assumption) (by decide)
          try have hD9 : CD σ0 σ4 110 162 (x1.toInt + 1) := by rw [eσ4]; first | exact CD_st (by assumption) (by decide) | exact CD_step (c := 162) (by assumption) (by assumption) (by omega) (by omega)
          refine ⟨hv_5, ?_⟩
          refine ⟨hv_5, ?_⟩
          intro σ7 eσ7
          have mσ7 : MI σ7 := by rw [eσ7]; exact MIs_au (a := 104) mσ4 rfl rfl
          have fσ7 : Fr [74, 103, 104, 105, 106, 107, 108, 109, 110, 142, 143, 144, 147, 148] [0, 1, 2, 12, 41, 45, 46] σ0 σ7 := by rw [eσ7]; exact Fr_si fσ4 (by decide) (fun h9 => absurd h9 (by decide))
          have k_13 : (gi σ7 74 0).toInt = (gi σ4 74 0).toInt := by rw [eσ7]; exact congrArg Int32.toInt (gi_si_ne (Or.inl (by decide)))
          have k_14 : (gi σ7 74 1).toInt = (gi σ4 74 1).toInt := by rw [eσ7]; exact congrArg Int32.toInt (gi_si_ne (Or.inl (by decide)))
          have k_15 : (gi σ7 74 11).toInt = (gi σ4 74 11).toInt := by rw [eσ7]; exact congrArg Int32.toInt (gi_si_ne (Or.inl (by decide)))
          have k_16 : (gi σ7 74 12).toInt = (gi σ4 74 12).toInt := by rw [eσ7]; exact congrArg Int32.toInt (gi_si_ne (Or.inl (by decide)))
          have k_17 : (gi σ7 74 50).toInt = (gi σ4 74 50).toInt := by rw [eσ7]; exact congrArg Int32.toInt (gi_si_ne (Or.inl (by decide)))
          have k_18 : (gi σ7 74 51).toInt = (gi σ4 74 51).toInt := by rw [eσ7]; exact congrArg Int32.toInt (gi_si_ne (Or.inl (by decide)))
          have k_19 : (gi σ7 74 52).toInt = (gi σ4 74 52).toInt := by rw [eσ7]; exact congrArg Int32.toInt (gi_si_ne (Or.inl (by decide)))
          try have hC9 : CD σ0 σ7 162 162 (6) := by rw [eσ7]; exact CD_st (by assumption) (by decide)
          try have hC9 : CD σ0 σ7 110 162 (6) := by rw [eσ7]; exact CD_st (by assumption) (by decide)
          try have hC9 : CD σ0 σ7 110 162 (x1.toInt) := by rw [eσ7]; exact CD_st (by assumption) (by decide)
          try have hD9 : CD σ0 σ7 110 162 (x1.toInt + 1) := by rw [eσ7]; first | exact CD_st (by assumption) (by decide) | exact CD_step (c := 162) (by assumption) (by assumption) (by omega) (by omega)
          refine ⟨hv_5, ?_⟩
          refine ⟨hv_5, ?_⟩
          intro σ10 eσ10
          have t_20 := MI_a158 mσ7 hv_5
          have mσ10 : MI σ10 := by rw [eσ10]; exact MIs_a105 mσ7 (by omega) (by omega)
          have fσ10 : Fr [74, 103, 104, 105, 106, 107, 108, 109, 110, 142, 143, 144, 147, 148] [0, 1, 2, 12, 41, 45, 46] σ0 σ10 := by rw [eσ10]; exact Fr_si fσ7 (by decide) (fun h9 => absurd h9 (by decide))
          have k_21 : (gi σ10 74 0).toInt = (gi σ7 74 0).toInt := by rw [eσ10]; exact congrArg Int32.toInt (gi_si_ne (Or.inl (by decide)))
          have k_22 : (gi σ10 74 1).toInt = (gi σ7 74 1).toInt := by rw [eσ10]; exact congrArg Int32.toInt (gi_si_ne (Or.inl (by decide)))
          have k_23 : (gi σ10 74 11).toInt = (gi σ7 74 11).toInt := by rw [eσ10]; exact congrArg Int32.toInt (gi_si_ne (Or.inl (by decide)))
          have k_24 : (gi σ10 74 12).toInt = (gi σ7 74 12).toInt := by rw [eσ10]; exact congrArg Int32.toInt (gi_si_ne (Or.inl (by decide)))
          have k_25 : (gi σ10 74 50).toInt = (gi σ7 74 50).toInt := by rw [eσ10]; exact congrArg Int32.toInt (gi_si_ne (Or.inl (by decide)))
          have k_26 : (gi σ10 74 51).toInt = (gi σ7 74 51).toInt := by rw [eσ10]; exact congrArg Int32.toInt (gi_si_ne (Or.inl (by decide)))
          have k_27 : (gi σ10 74 52).toInt = (gi σ7 74 52).toInt := by rw [eσ10]; exact congrArg Int32.toInt (gi_si_ne (Or.inl (by decide)))
          try have hC9 : CD σ0 σ10 162 162 (6) := by rw [eσ10]; exact CD_st (by assumption) (by decide)
          try have hC9 : CD σ0 σ10 110 162 (6) := by rw [eσ10]; exact CD_st (by assumption) (by decide)
          try have hC9 : CD σ0 σ10 110 162 (x1.toInt) := by rw [eσ10]; exact CD_st (by assumption) (by decide)
          try have hD9 : CD σ0 σ10 110 162 (x1.toInt + 1) := by rw [eσ10]; first | exact CD_st (by assumption) (by decide) | exact CD_step (c := 162) (by assumption) (by assumption) (by omega) (by omega)
          refine ⟨hv_5, ?_⟩
          refine ⟨hv_5, ?_⟩
          intro σ13 eσ13
          have mσ13 : MI σ13 := by rw [eσ13]; exact MIs_au (a := 106) mσ10 rfl rfl
          have fσ13 : Fr [74, 103, 104, 105, 106, 107, 108, 109, 110, 142, 143, 144, 147, 148] [0, 1, 2, 12, 41, 45, 46] σ0 σ13 := by rw [eσ13]; exact Fr_si fσ10 (by decide) (fun h9 => absurd h9 (by decide))
          have k_28 : (gi σ13 74 0).toInt = (gi σ10 74 0).toInt := by rw [eσ13]; exact congrArg Int32.toInt (gi_si_ne (Or.inl (by decide)))
          have k_29 : (gi σ13 74 1).toInt = (gi σ10 74 1).toInt := by rw [eσ13]; exact congrArg Int32.toInt (gi_si_ne (Or.inl (by decide)))
          have k_30 : (gi σ13 74 11).toInt = (gi σ10 74 11).toInt := by rw [eσ13]; exact congrArg Int32.toInt (gi_si_ne (Or.inl (by decide)))
          have k_31 : (gi σ13 74 12).toInt = (gi σ10 74 12).toInt := by rw [eσ13]; exact congrArg Int32.toInt (gi_si_ne (Or.inl (by decide)))
          have k_32 : (gi σ13 74 50).toInt = (gi σ10 74 50).toInt := by rw [eσ13]; exact congrArg Int32.toInt (gi_si_ne (Or.inl (by decide)))
          have k_33 : (gi σ13 74 51).toInt = (gi σ10 74 51).toInt := by rw [eσ13]; exact congrArg Int32.toInt (gi_si_ne (Or.inl (by decide)))
          have k_34 : (gi σ13 74 52).toInt = (gi σ10 74 52).toInt := by rw [eσ13]; exact congrArg Int32.toInt (gi_si_ne (Or.inl (by decide)))
          try have hC9 : CD σ0 σ13 162 162 (6) := by rw [eσ13]; exact CD_st (by assumption) (by decide)
          try have hC9 : CD σ0 σ13 110 162 (6) := by rw [eσ13]; exact CD_st (by assumption) (by decide)
          try have hC9 : CD σ0 σ13 110 162 (x1.toInt) := by rw [eσ13]; exact CD_st (by assumption) (by decide)
          try have hD9 : CD σ0 σ13 110 162 (x1.toInt + 1) := by rw [eσ13]; first | exact CD_st (by assumption) (by decide) | exact CD_step (c := 162) (by assumption) (by assumption) (by omega) (by omega)
          refine ⟨hv_5, ?_⟩
          refine ⟨hv_5, ?_⟩
          intro σ16 eσ16
          have mσ16 : MI σ16 := by rw [eσ16]; exact MIs_au (a := 107) mσ13 rfl rfl
          have fσ16 : Fr [74, 103, 104, 105, 106, 107, 108, 109, 110, 142, 143, 144, 147, 148] [0, 1, 2, 12, 41, 45, 46] σ0 σ16 := by rw [eσ16]; exact Fr_si fσ13 (by decide) (fun h9 => absurd h9 (by decide))
          have k_35 : (gi σ16 74 0).toInt = (gi σ13 74 0).toInt := by rw [eσ16]; exact congrArg Int32.toInt (gi_si_ne (Or.inl (by decide)))
          have k_36 : (gi σ16 74 1).toInt = (gi σ13 74 1).toInt := by rw [eσ16]; exact congrArg Int32.toInt (gi_si_ne (Or.inl (by decide)))
          have k_37 : (gi σ16 74 11).toInt = (gi σ13 74 11).toInt := by rw [eσ16]; exact congrArg Int32.toInt (gi_si_ne (Or.inl (by decide)))
          have k_38 : (gi σ16 74 12).toInt = (gi σ13 74 12).toInt := by rw [eσ16]; exact congrArg Int32.toInt (gi_si_ne (Or.inl (by decide)))
          have k_39 : (gi σ16 74 50).toInt = (gi σ13 74 50).toInt := by rw [eσ16]; exact congrArg Int32.toInt (gi_si_ne (Or.inl (by decide)))
          have k_40 : (gi σ16 74 51).toInt = (gi σ13 74 51).toInt := by rw [eσ16]; exact congrArg Int32.toInt (gi_si_ne (Or.inl (by decide)))
          have k_41 : (gi σ16 74 52).toInt = (gi σ13 74 52).toInt := by rw [eσ16]; exact congrArg Int32.toInt (gi_si_ne (Or.inl (by decide)))
          try have hC9 : CD σ0 σ16 162 162 (6) := by rw [eσ16]; exact CD_st (by assumption) (by decide)
          try have hC9 : CD σ0 σ16 110 162 (6) := by rw [eσ16]; exact CD_st (by assumption) (by decide)
          try have hC9 : CD σ0 σ16 110 162 (x1.toInt) := by rw [eσ16]; exact CD_st (by assumption) (by decide)
          try have hD9 : CD σ0 σ16 110 162 (x1.toInt + 1) := by rw [eσ16]; first | exact CD_st (by assumption) (by decide) | exact CD_step (c := 162) (by assumption) (by assumption) (by omega) (by omega)
          refine ⟨hv_5, ?_⟩
          refine ⟨hv_5, ?_⟩
          intro σ19 eσ19
          have mσ19 : MI σ19 := by rw [eσ19]; exact MIs_au (a := 108) mσ16 rfl rfl
          have fσ19 : Fr [74, 103, 104, 105, 106, 107, 108, 109, 110, 142, 143, 144, 147, 148] [0, 1, 2, 12, 41, 45, 46] σ0 σ19 := by rw [eσ19]; exact Fr_si fσ16 (by decide) (fun h9 => absurd h9 (by decide))
          have k_42 : (gi σ19 74 0).toInt = (gi σ16 74 0).toInt := by rw [eσ19]; exact congrArg Int32.toInt (gi_si_ne (Or.inl (by decide)))
          have k_43 : (gi σ19 74 1).toInt = (gi σ16 74 1).toInt := by rw [eσ19]; exact congrArg Int32.toInt (gi_si_ne (Or.inl (by decide)))
          have k_44 : (gi σ19 74 11).toInt = (gi σ16 74 11).toInt := by rw [eσ19]; exact congrArg Int32.toInt (gi_si_ne (Or.inl (by decide)))
          have k_45 : (gi σ19 74 12).toInt = (gi σ16 74 12).toInt := by rw [eσ19]; exact congrArg Int32.toInt (gi_si_ne (Or.inl (by decide)))
          have k_46 : (gi σ19 74 50).toInt = (gi σ16 74 50).toInt := by rw [eσ19]; exact congrArg Int32.toInt (gi_si_ne (Or.inl (by decide)))
          have k_47 : (gi σ19 74 51).toInt = (gi σ16 74 51).toInt := by rw [eσ19]; exact congrArg Int32.toInt (gi_si_ne (Or.inl (by decide)))
          have k_48 : (gi σ19 74 52).toInt = (gi σ16 74 52).toInt := by rw [eσ19]; exact congrArg Int32.toInt (gi_si_ne (Or.inl (by decide)))
          try have hC9 : CD σ0 σ19 162 162 (6) := by rw [eσ19]; exact CD_st (by assumption) (by decide)
          try have hC9 : CD σ0 σ19 110 162 (6) := by rw [eσ19]; exact CD_st (by assumption) (by decide)
          try have hC9 : CD σ0 σ19 110 162 (x1.toInt) := by rw [eσ19]; exact CD_st (by assumption) (by decide)
          try have hD9 : CD σ0 σ19 110 162 (x1.toInt + 1) := by rw [eσ19]; first | exact CD_st (by assumption) (by decide) | exact CD_step (c := 162) (by assumption) (by assumption) (by omega) (by omega)
          refine ⟨hv_5, ?_⟩
          refine ⟨hv_5, ?_⟩
          intro σ22 eσ22
          have t_49 := MI_a162 mσ19 hv_5
          have mσ22 : MI σ22 := by rw [eσ22]; exact MIs_a110 mσ19 (by omega) (by omega)
          have fσ22 : Fr [74, 103, 104, 105, 106, 107, 108, 109, 110, 142, 143, 144, 147, 148] [0, 1, 2, 12, 41, 45, 46] σ0 σ22 := by rw [eσ22]; exact Fr_si fσ19 (by decide) (fun h9 => absurd h9 (by decide))
          have k_50 : (gi σ22 74 0).toInt = (gi σ19 74 0).toInt := by rw [eσ22]; exact congrArg Int32.toInt (gi_si_ne (Or.inl (by decide)))
          have k_51 : (gi σ22 74 1).toInt = (gi σ19 74 1).toInt := by rw [eσ22]; exact congrArg Int32.toInt (gi_si_ne (Or.inl (by decide)))
          have k_52 : (gi σ22 74 11).toInt = (gi σ19 74 11).toInt := by rw [eσ22]; exact congrArg Int32.toInt (gi_si_ne (Or.inl (by decide)))
          have k_53 : (gi σ22 74 12).toInt = (gi σ19 74 12).toInt := by rw [eσ22]; exact congrArg Int32.toInt (gi_si_ne (Or.inl (by decide)))
          have k_54 : (gi σ22 74 50).toInt = (gi σ19 74 50).toInt := by rw [eσ22]; exact congrArg Int32.toInt (gi_si_ne (Or.inl (by decide)))
          have k_55 : (gi σ22 74 51).toInt = (gi σ19 74 51).toInt := by rw [eσ22]; exact congrArg Int32.toInt (gi_si_ne (Or.inl (by decide)))
          have k_56 : (gi σ22 74 52).toInt = (gi σ19 74 52).toInt := by rw [eσ22]; exact congrArg Int32.toInt (gi_si_ne (Or.inl (by decide)))
          try have hC9 : CD σ0 σ22 162 162 (6) := by rw [eσ22]; exact CD_st (by assumption) (by decide)
          try have hC9 : CD σ0 σ22 110 162 (6) := by rw [eσ22]; exact CD_st (by assumption) (by decide)
          try have hC9 : CD σ0 σ22 110 162 (x1.toInt) := by rw [eσ22]; exact CD_st (by assumption) (by decide)
          try have hD9 : CD σ0 σ22 110 162 (x1.toInt + 1) := by rw [eσ22]; first | exact CD_st (by assumption) (by decide) | exact CD_step (c := 162) (by assumption) (by assumption) (by omega) (by omega)
          refine ⟨hv_5, ?_⟩
          refine ⟨hv_5, ?_⟩
          intro σ25 eσ25
          have t_57 := MI_a164 mσ22 hv_5
          have mσ25 : MI σ25 := by rw [eσ25]; exact MIs_a142 mσ22 (by omega) (by omega)
          have fσ25 : Fr [74, 103, 104, 105, 106, 107, 108, 109, 110, 142, 143, 144, 147, 148] [0, 1, 2, 12, 41, 45, 46] σ0 σ25 := by rw [eσ25]; exact Fr_si fσ22 (by decide) (fun h9 => absurd h9 (by decide))
          have k_58 : (gi σ25 74 0).toInt = (gi σ22 74 0).toInt := by rw [eσ25]; exact congrArg Int32.toInt (gi_si_ne (Or.inl (by decide)))
          have k_59 : (gi σ25 74 1).toInt = (gi σ22 74 1).toInt := by rw [eσ25]; exact congrArg Int32.toInt (gi_si_ne (Or.inl (by decide)))
          have k_60 : (gi σ25 74 11).toInt = (gi σ22 74 11).toInt := by rw [eσ25]; exact congrArg Int32.toInt (gi_si_ne (Or.inl (by decide)))
          have k_61 : (gi σ25 74 12).toInt = (gi σ22 74 12).toInt := by rw [eσ25]; exact congrArg Int32.toInt (gi_si_ne (Or.inl (by decide)))
          have k_62 : (gi σ25 74 50).toInt = (gi σ22 74 50).toInt := by rw [eσ25]; exact congrArg Int32.toInt (gi_si_ne (Or.inl (by decide)))
          have k_63 : (gi σ25 74 51).toInt = (gi σ22 74 51).toInt := by rw [eσ25]; exact congrArg Int32.toInt (gi_si_ne (Or.inl (by decide)))
          have k_64 : (gi σ25 74 52).toInt = (gi σ22 74 52).toInt := by rw [eσ25]; exact congrArg Int32.toInt (gi_si_ne (Or.inl (by decide)))
          try have hC9 : CD σ0 σ25 162 162 (6) := by rw [eσ25]; exact CD_st (by assumption) (by decide)
          try have hC9 : CD σ0 σ25 110 162 (6) := by rw [eσ25]; exact CD_st (by assumption) (by decide)
          try have hC9 : CD σ0 σ25 110 162 (x1.toInt) := by rw [eσ25]; exact CD_st (by assumption) (by decide)
          try have hD9 : CD σ0 σ25 110 162 (x1.toInt + 1) := by rw [eσ25]; first | exact CD_st (by assumption) (by decide) | exact CD_step (c := 162) (by assumption) (by assumption) (by omega) (by omega)
          refine ⟨hv_5, ?_⟩
          refine ⟨hv_5, ?_⟩
          intro σ28 eσ28
          have t_65 := MI_a165 mσ25 hv_5
          have mσ28 : MI σ28 := by rw [eσ28]; exact MIs_a143 mσ25 (by omega) (by omega)
          have fσ28 : Fr [74, 103, 104, 105, 106, 107, 108, 109, 110, 142, 143, 144, 147, 148] [0, 1, 2, 12, 41, 45, 46] σ0 σ28 := by rw [eσ28]; exact Fr_si fσ25 (by decide) (fun h9 => absurd h9 (by decide))
          have k_66 : (gi σ28 74 0).toInt = (gi σ25 74 0).toInt := by rw [eσ28]; exact congrArg Int32.toInt (gi_si_ne (Or.inl (by decide)))
          have k_67 : (gi σ28 74 1).toInt = (gi σ25 74 1).toInt := by rw [eσ28]; exact congrArg Int32.toInt (gi_si_ne (Or.inl (by decide)))
          have k_68 : (gi σ28 74 11).toInt = (gi σ25 74 11).toInt := by rw [eσ28]; exact congrArg Int32.toInt (gi_si_ne (Or.inl (by decide)))
          have k_69 : (gi σ28 74 12).toInt = (gi σ25 74 12).toInt := by rw [eσ28]; exact congrArg Int32.toInt (gi_si_ne (Or.inl (by decide)))
          have k_70 : (gi σ28 74 50).toInt = (gi σ25 74 50).toInt := by rw [eσ28]; exact congrArg Int32.toInt (gi_si_ne (Or.inl (by decide)))
          have k_71 : (gi σ28 74 51).toInt = (gi σ25 74 51).toInt := by rw [eσ28]; exact congrArg Int32.toInt (gi_si_ne (Or.inl (by decide)))
          have k_72 : (gi σ28 74 52).toInt = (gi σ25 74 52).toInt := by rw [eσ28]; exact congrArg Int32.toInt (gi_si_ne (Or.inl (by decide)))
          try have hC9 : CD σ0 σ28 162 162 (6) := by rw [eσ28]; exact CD_st (by assumption) (by decide)
          try have hC9 : CD σ0 σ28 110 162 (6) := by rw [eσ28]; exact CD_st (by assumption) (by decide)
          try have hC9 : CD σ0 σ28 110 162 (x1.toInt) := by rw [eσ28]; exact CD_st (by assumption) (by decide)
          try have hD9 : CD σ0 σ28 110 162 (x1.toInt + 1) := by rw [eσ28]; first | exact CD_st (by assumption) (by decide) | exact CD_step (c := 162) (by assumption) (by assumption) (by omega) (by omega)
          refine ⟨hv_5, ?_⟩
          refine ⟨hv_5, ?_⟩
          intro σ31 eσ31
          have mσ31 : MI σ31 := by rw [eσ31]; exact MIs_au (a := 144) mσ28 rfl rfl
          have fσ31 : Fr [74, 103, 104, 105, 106, 107, 108, 109, 110, 142, 143, 144, 147, 148] [0, 1, 2, 12, 41, 45, 46] σ0 σ31 := by rw [eσ31]; exact Fr_si fσ28 (by decide) (fun h9 => absurd h9 (by decide))
          have k_73 : (gi σ31 74 0).toInt = (gi σ28 74 0).toInt := by rw [eσ31]; exact congrArg Int32.toInt (gi_si_ne (Or.inl (by decide)))
          have k_74 : (gi σ31 74 1).toInt = (gi σ28 74 1).toInt := by rw [eσ31]; exact congrArg Int32.toInt (gi_si_ne (Or.inl (by decide)))
          have k_75 : (gi σ31 74 11).toInt = (gi σ28 74 11).toInt := by rw [eσ31]; exact congrArg Int32.toInt (gi_si_ne (Or.inl (by decide)))
          have k_76 : (gi σ31 74 12).toInt = (gi σ28 74 12).toInt := by rw [eσ31]; exact congrArg Int32.toInt (gi_si_ne (Or.inl (by decide)))
          have k_77 : (gi σ31 74 50).toInt = (gi σ28 74 50).toInt := by rw [eσ31]; exact congrArg Int32.toInt (gi_si_ne (Or.inl (by decide)))
          have k_78 : (gi σ31 74 51).toInt = (gi σ28 74 51).toInt := by rw [eσ31]; exact congrArg Int32.toInt (gi_si_ne (Or.inl (by decide)))
          have k_79 : (gi σ31 74 52).toInt = (gi σ28 74 52).toInt := by rw [eσ31]; exact congrArg Int32.toInt (gi_si_ne (Or.inl (by decide)))
          try have hC9 : CD σ0 σ31 162 162 (6) := by rw [eσ31]; exact CD_st (by assumption) (by decide)
          try have hC9 : CD σ0 σ31 110 162 (6) := by rw [eσ31]; exact CD_st (by assumption) (by decide)
          try have hC9 : CD σ0 σ31 110 162 (x1.toInt) := by rw [eσ31]; exact CD_st (by assumption) (by decide)
          try have hD9 : CD σ0 σ31 110 162 (x1.toInt + 1) := by rw [eσ31]; first | exact CD_st (by assumption) (by decide) | exact CD_step (c := 162) (by assumption) (by assumption) (by omega) (by omega)
          intro v32 ev32
          have t_80 : (x1 + (1 : Int32)).toInt = x1.toInt + 1 := i_add (x := x1) (y := (1 : Int32)) (by show (_ : Int) ≤ x1.toInt + 1; omega) (by show x1.toInt + 1 ≤ (_ : Int); omega)
          have t_81 : v32.toInt = (x1 + (1 : Int32)).toInt := congrArg Int32.toInt ev32
          exact ih68 v32 σ31 mσ31 fσ31 (by omega) (by omega) (by first | omega | assumption | rfl) (by first | omega | assumption | rfl) (by first | omega | assumption | rfl) (by first | omega | assumption | rfl) (by assumption) (by first | exact CD_0 (Int.le_refl 0) | (rw [show v32.toInt = x1.toInt + 1 from by omega]; assumption)) (by omega)
      · intro x1 σ mσ fσ lx1 ux1 i0 i1 i2 i3 i4 hmu
        refine s_X12_undo_202 C hN ?_
        refine ⟨?_, ?_⟩
        · intro q_82
          have b_83 : (24 : Int) ≤ x1.toInt := Int32.le_iff_toInt_le.mp q_82
          have z_84 : (0 : Int32).toInt = 0 := rfl
          exact ih228 (0 : Int32) σ mσ fσ (by omega) (by omega) (by first | omega | assumption | rfl) (by first | omega | assumption | rfl) (by first | omega | assumption | rfl) (by first | omega | assumption | rfl) (by first | assumption | exact CD_le (by assumption) (by omega)) (by omega)
        · intro q_82
          have b_85 : ¬ (24 : Int) ≤ x1.toInt := fun h9 => q_82 (Int32.le_iff_toInt_le.mpr h9)
          have hv_86 : vp_in x1 24 := vp_in_iff.mpr ⟨by omega, by omega⟩
          refine ⟨hv_86, ?_⟩
          refine ⟨hv_86, ?_⟩
          intro σ4 eσ4
          have mσ4 : MI σ4 := by rw [eσ4]; exact MIs_au (a := 109) mσ rfl rfl
          have fσ4 : Fr [74, 103, 104, 105, 106, 107, 108, 109, 110, 142, 143, 144, 147, 148] [0, 1, 2, 12, 41, 45, 46] σ0 σ4 := by rw [eσ4]; exact Fr_si fσ (by decide) (fun h9 => absurd h9 (by decide))
          have k_87 : (gi σ4 74 0).toInt = (gi σ 74 0).toInt := by rw [eσ4]; exact congrArg Int32.toInt (gi_si_ne (Or.inl (by decide)))
          have k_88 : (gi σ4 74 1).toInt = (gi σ 74 1).toInt := by rw [eσ4]; exact congrArg Int32.toInt (gi_si_ne (Or.inl (by decide)))
          have k_89 : (gi σ4 74 11).toInt = (gi σ 74 11).toInt := by rw [eσ4]; exact congrArg Int32.toInt (gi_si_ne (Or.inl (by decide)))
          have k_90 : (gi σ4 74 12).toInt = (gi σ 74 12).toInt := by rw [eσ4]; exact congrArg Int32.toInt (gi_si_ne (Or.inl (by decide)))
          have k_91 : (gi σ4 74 50).toInt = (gi σ 74 50).toInt := by rw [eσ4]; exact congrArg Int32.toInt (gi_si_ne (Or.inl (by decide)))
          have k_92 : (gi σ4 74 51).toInt = (gi σ 74 51).toInt := by rw [eσ4]; exact congrArg Int32.toInt (gi_si_ne (Or.inl (by decide)))
          have k_93 : (gi σ4 74 52).toInt = (gi σ 74 52).toInt := by rw [eσ4]; exact congrArg Int32.toInt (gi_si_ne (Or.inl (by decide)))
          try have hC9 : CD σ0 σ4 162 162 (6) := by rw [eσ4]; exact CD_st (by assumption) (by decide)
          try have hC9 : CD σ0 σ4 110 162 (6) := by rw [eσ4]; exact CD_st (by assumption) (by decide)
          try have hC9 : CD σ0 σ4 110 162 (x1.toInt) := by rw [eσ4]; exact CD_st (by assumption) (by decide)
          try have hD9 : CD σ0 σ4 110 162 (x1.toInt + 1) := by rw [eσ4]; first | exact CD_st (by assumption) (by decide) | exact CD_step (c := 162) (by assumption) (by assumption) (by omega) (by omega)
          intro v5 ev5
          have t_94 : (x1 + (1 : Int32)).toInt = x1.toInt + 1 := i_add (x := x1) (y := (1 : Int32)) (by show (_ : Int) ≤ x1.toInt + 1; omega) (by show x1.toInt + 1 ≤ (_ : Int); omega)
          have t_95 : v5.toInt = (x1 + (1 : Int32)).toInt := congrArg Int32.toInt ev5
          exact ih202 v5 σ4 mσ4 fσ4 (by omega) (by omega) (by first | omega | assumption | rfl) (by first | omega | assumption | rfl) (by first | omega | assumption | rfl) (by first | omega | assumption | rfl) (by first | assumption | exact CD_le (by assumption) (by omega)) (by omega)
      · intro x1 σ mσ fσ lx1 ux1 i0 i1 i2 i3 i4 hmu
        refine s_X12_undo_228 C hN ?_
        refine ⟨?_, ?_⟩
        · intro q_96
          have b_97 : (10 : Int) ≤ x1.toInt := Int32.le_iff_toInt_le.mp q_96
          have z_98 : (0 : Int32).toInt = 0 := rfl
          exact ih254 (0 : Int32) σ mσ fσ (by omega) (by omega) (by first | omega | assumption | rfl) (by first | omega | assumption | rfl) (by first | omega | assumption | rfl) (by first | omega | assumption | rfl) (by first | assumption | exact CD_le (by assumption) (by omega)) (by omega)
        · intro q_96
          have b_99 : ¬ (10 : Int) ≤ x1.toInt := fun h9 => q_96 (Int32.le_iff_toInt_le.mpr h9)
          have hv_100 : vp_in x1 10 := vp_in_iff.mpr ⟨by omega, by omega⟩
          refine ⟨hv_100, ?_⟩
          refine ⟨hv_100, ?_⟩
          intro σ4 eσ4
          have mσ4 : MI σ4 := by rw [eσ4]; exact MIs_au (a := 147) mσ rfl rfl
          have fσ4 : Fr [74, 103, 104, 105, 106, 107, 108, 109, 110, 142, 143, 144, 147, 148] [0, 1, 2, 12, 41, 45, 46] σ0 σ4 := by rw [eσ4]; exact Fr_si fσ (by decide) (fun h9 => absurd h9 (by decide))
          have k_101 : (gi σ4 74 0).toInt = (gi σ 74 0).toInt := by rw [eσ4]; exact congrArg Int32.toInt (gi_si_ne (Or.inl (by decide)))
          have k_102 : (gi σ4 74 1).toInt = (gi σ 74 1).toInt := by rw [eσ4]; exact congrArg Int32.toInt (gi_si_ne (Or.inl (by decide)))
          have k_103 : (gi σ4 74 11).toInt = (gi σ 74 11).toInt := by rw [eσ4]; exact congrArg Int32.toInt (gi_si_ne (Or.inl (by decide)))
          have k_104 : (gi σ4 74 12).toInt = (gi σ 74 12).toInt := by rw [eσ4]; exact congrArg Int32.toInt (gi_si_ne (Or.inl (by decide)))
          have k_105 : (gi σ4 74 50).toInt = (gi σ 74 50).toInt := by rw [eσ4]; exact congrArg Int32.toInt (gi_si_ne (Or.inl (by decide)))
          have k_106 : (gi σ4 74 51).toInt = (gi σ 74 51).toInt := by rw [eσ4]; exact congrArg Int32.toInt (gi_si_ne (Or.inl (by decide)))
          have k_107 : (gi σ4 74 52).toInt = (gi σ 74 52).toInt := by rw [eσ4]; exact congrArg Int32.toInt (gi_si_ne (Or.inl (by decide)))
          try have hC9 : CD σ0 σ4 162 162 (6) := by rw [eσ4]; exact CD_st (by assumption) (by decide)
          try have hC9 : CD σ0 σ4 110 162 (6) := by rw [eσ4]; exact CD_st (by assumption) (by decide)
          try have hC9 : CD σ0 σ4 110 162 (x1.toInt) := by rw [eσ4]; exact CD_st (by assumption) (by decide)
          try have hD9 : CD σ0 σ4 110 162 (x1.toInt + 1) := by rw [eσ4]; first | exact CD_st (by assumption) (by decide) | exact CD_step (c := 162) (by assumption) (by assumption) (by omega) (by omega)
          intro v5 ev5
          have t_108 : (x1 + (1 : Int32)).toInt = x1.toInt + 1 := i_add (x := x1) (y := (1 : Int32)) (by show (_ : Int) ≤ x1.toInt + 1; omega) (by show x1.toInt + 1 ≤ (_ : Int); omega)
          have t_109 : v5.toInt = (x1 + (1 : Int32)).toInt := congrArg Int32.toInt ev5
          exact ih228 v5 σ4 mσ4 fσ4 (by omega) (by omega) (by first | omega | assumption | rfl) (by first | omega | assumption | rfl) (by first | omega | assumption | rfl) (by first | omega | assumption | rfl) (by first | assumption | exact CD_le (by assumption) (by omega)) (by omega)
      · intro x1 σ mσ fσ lx1 ux1 i0 i1 i2 i3 i4 hmu
        refine s_X12_undo_254 C hN ?_
        refine ⟨?_, ?_⟩
        · intro q_110
          have b_111 : (8 : Int) ≤ x1.toInt := Int32.le_iff_toInt_le.mp q_110
          have t_112 := MI_f0 mσ
          exact h9ret (gi σ 74 0) σ mσ fσ (by first | assumption | exact PL_un m0 pre1 (by assumption) (by omega)) (by first | omega | assumption | rfl) (by first | omega | assumption | rfl)
        · intro q_110
          have b_113 : ¬ (8 : Int) ≤ x1.toInt := fun h9 => q_110 (Int32.le_iff_toInt_le.mpr h9)
          have hv_114 : vp_in x1 8 := vp_in_iff.mpr ⟨by omega, by omega⟩
          refine ⟨hv_114, ?_⟩
          refine ⟨hv_114, ?_⟩
          intro σ4 eσ4
          have mσ4 : MI σ4 := by rw [eσ4]; exact MIs_au (a := 148) mσ rfl rfl
          have fσ4 : Fr [74, 103, 104, 105, 106, 107, 108, 109, 110, 142, 143, 144, 147, 148] [0, 1, 2, 12, 41, 45, 46] σ0 σ4 := by rw [eσ4]; exact Fr_si fσ (by decide) (fun h9 => absurd h9 (by decide))
          have k_115 : (gi σ4 74 0).toInt = (gi σ 74 0).toInt := by rw [eσ4]; exact congrArg Int32.toInt (gi_si_ne (Or.inl (by decide)))
          have k_116 : (gi σ4 74 1).toInt = (gi σ 74 1).toInt := by rw [eσ4]; exact congrArg Int32.toInt (gi_si_ne (Or.inl (by decide)))
          have k_117 : (gi σ4 74 11).toInt = (gi σ 74 11).toInt := by rw [eσ4]; exact congrArg Int32.toInt (gi_si_ne (Or.inl (by decide)))
          have k_118 : (gi σ4 74 12).toInt = (gi σ 74 12).toInt := by rw [eσ4]; exact congrArg Int32.toInt (gi_si_ne (Or.inl (by decide)))
          have k_119 : (gi σ4 74 50).toInt = (gi σ 74 50).toInt := by rw [eσ4]; exact congrArg Int32.toInt (gi_si_ne (Or.inl (by decide)))
          have k_120 : (gi σ4 74 51).toInt = (gi σ 74 51).toInt := by rw [eσ4]; exact congrArg Int32.toInt (gi_si_ne (Or.inl (by decide)))
          have k_121 : (gi σ4 74 52).toInt = (gi σ 74 52).toInt := by rw [eσ4]; exact congrArg Int32.toInt (gi_si_ne (Or.inl (by decide)))
          try have hC9 : CD σ0 σ4 162 162 (6) := by rw [eσ4]; exact CD_st (by assumption) (by decide)
          try have hC9 : CD σ0 σ4 110 162 (6) := by rw [eσ4]; exact CD_st (by assumption) (by decide)
          try have hC9 : CD σ0 σ4 110 162 (x1.toInt) := by rw [eσ4]; exact CD_st (by assumption) (by decide)
          try have hD9 : CD σ0 σ4 110 162 (x1.toInt + 1) := by rw [eσ4]; first | exact CD_st (by assumption) (by decide) | exact CD_step (c := 162) (by assumption) (by assumption) (by omega) (by omega)
          intro v5 ev5
          have t_122 : (x1 + (1 : Int32)).toInt = x1.toInt + 1 := i_add (x := x1) (y := (1 : Int32)) (by show (_ : Int) ≤ x1.toInt + 1; omega) (by show x1.toInt + 1 ≤ (_ : Int); omega)
          have t_123 : v5.toInt = (x1 + (1 : Int32)).toInt := congrArg Int32.toInt ev5
          exact ih254 v5 σ4 mσ4 fσ4 (by omega) (by omega) (by first | omega | assumption | rfl) (by first | omega | assumption | rfl) (by first | omega | assumption | rfl) (by first | omega | assumption | rfl) (by first | assumption | exact CD_le (by assumption) (by omega)) (by omega)
  obtain ⟨U68, U202, U228, U254⟩ := T 900
  have f0 : Fr [74, 103, 104, 105, 106, 107, 108, 109, 110, 142, 143, 144, 147, 148] [0, 1, 2, 12, 41, 45, 46] σ0 σ0 := Fr_rf
  have hA9 : CD σ0 σ0 162 162 6 := CD_rf
  refine s_X12_undo_0 C hN ?_
  refine ⟨?_, ?_⟩
  · intro q_124
    have b_125 : ¬ (gi σ0 74 49).toInt = 0 := fun h9 => q_124 (Int32.toInt_inj.mp h9)
    intro σ2 eσ2
    have t_126 := MI_f50 m0
    have mσ2 : MI σ2 := by rw [eσ2]; exact MIs_f12 m0 (by omega) (by omega) (FV_copy m0.2.2 (Or.inl rfl) (Or.inr rfl))
    have fσ2 : Fr [74, 103, 104, 105, 106, 107, 108, 109, 110, 142, 143, 144, 147, 148] [0, 1, 2, 12, 41, 45, 46] σ0 σ2 := by rw [eσ2]; exact Fr_si f0 (by decide) (fun _ => by decide)
    have k_127 : (gi σ2 74 0).toInt = (gi σ0 74 0).toInt := by rw [eσ2]; exact congrArg Int32.toInt (gi_si_ne (Or.inr (by decide)))
    have k_128 : (gi σ2 74 1).toInt = (gi σ0 74 1).toInt := by rw [eσ2]; exact congrArg Int32.toInt (gi_si_ne (Or.inr (by decide)))
    have k_129 : (gi σ2 74 11).toInt = (gi σ0 74 11).toInt := by rw [eσ2]; exact congrArg Int32.toInt (gi_si_ne (Or.inr (by decide)))
    have k_130 : (gi σ2 74 12).toInt = (gi σ0 74 50).toInt := by rw [eσ2]; exact congrArg Int32.toInt gi_si_eq
    have k_131 : (gi σ2 74 49).toInt = (gi σ0 74 49).toInt := by rw [eσ2]; exact congrArg Int32.toInt (gi_si_ne (Or.inr (by decide)))
    have k_132 : (gi σ2 74 50).toInt = (gi σ0 74 50).toInt := by rw [eσ2]; exact congrArg Int32.toInt (gi_si_ne (Or.inr (by decide)))
    have k_133 : (gi σ2 74 51).toInt = (gi σ0 74 51).toInt := by rw [eσ2]; exact congrArg Int32.toInt (gi_si_ne (Or.inr (by decide)))
    have k_134 : (gi σ2 74 52).toInt = (gi σ0 74 52).toInt := by rw [eσ2]; exact congrArg Int32.toInt (gi_si_ne (Or.inr (by decide)))
    try have hC9 : CD σ0 σ2 162 162 (6) := by rw [eσ2]; exact CD_st (by assumption) (by decide)
    intro σ3 eσ3
    have t_135 := MI_f51 mσ2
    have mσ3 : MI σ3 := by rw [eσ3]; exact MIs_f0 mσ2 (by omega) (by omega)
    have fσ3 : Fr [74, 103, 104, 105, 106, 107, 108, 109, 110, 142, 143, 144, 147, 148] [0, 1, 2, 12, 41, 45, 46] σ0 σ3 := by rw [eσ3]; exact Fr_si fσ2 (by decide) (fun _ => by decide)
    have k_136 : (gi σ3 74 0).toInt = (gi σ2 74 51).toInt := by rw [eσ3]; exact congrArg Int32.toInt gi_si_eq
    have k_137 : (gi σ3 74 1).toInt = (gi σ2 74 1).toInt := by rw [eσ3]; exact congrArg Int32.toInt (gi_si_ne (Or.inr (by decide)))
    have k_138 : (gi σ3 74 11).toInt = (gi σ2 74 11).toInt := by rw [eσ3]; exact congrArg Int32.toInt (gi_si_ne (Or.inr (by decide)))
    have k_139 : (gi σ3 74 12).toInt = (gi σ2 74 12).toInt := by rw [eσ3]; exact congrArg Int32.toInt (gi_si_ne (Or.inr (by decide)))
    have k_140 : (gi σ3 74 49).toInt = (gi σ2 74 49).toInt := by rw [eσ3]; exact congrArg Int32.toInt (gi_si_ne (Or.inr (by decide)))
    have k_141 : (gi σ3 74 50).toInt = (gi σ2 74 50).toInt := by rw [eσ3]; exact congrArg Int32.toInt (gi_si_ne (Or.inr (by decide)))
    have k_142 : (gi σ3 74 51).toInt = (gi σ2 74 51).toInt := by rw [eσ3]; exact congrArg Int32.toInt (gi_si_ne (Or.inr (by decide)))
    have k_143 : (gi σ3 74 52).toInt = (gi σ2 74 52).toInt := by rw [eσ3]; exact congrArg Int32.toInt (gi_si_ne (Or.inr (by decide)))
    try have hC9 : CD σ0 σ3 162 162 (6) := by rw [eσ3]; exact CD_st (by assumption) (by decide)
    intro σ4 eσ4
    have t_144 := MI_f51 mσ3
    have mσ4 : MI σ4 := by rw [eσ4]; exact MIs_f2 mσ3 (by omega) (by omega)
    have fσ4 : Fr [74, 103, 104, 105, 106, 107, 108, 109, 110, 142, 143, 144, 147, 148] [0, 1, 2, 12, 41, 45, 46] σ0 σ4 := by rw [eσ4]; exact Fr_si fσ3 (by decide) (fun _ => by decide)
    have k_145 : (gi σ4 74 0).toInt = (gi σ3 74 0).toInt := by rw [eσ4]; exact congrArg Int32.toInt (gi_si_ne (Or.inr (by decide)))
    have k_146 : (gi σ4 74 1).toInt = (gi σ3 74 1).toInt := by rw [eσ4]; exact congrArg Int32.toInt (gi_si_ne (Or.inr (by decide)))
    have k_147 : (gi σ4 74 11).toInt = (gi σ3 74 11).toInt := by rw [eσ4]; exact congrArg Int32.toInt (gi_si_ne (Or.inr (by decide)))
    have k_148 : (gi σ4 74 12).toInt = (gi σ3 74 12).toInt := by rw [eσ4]; exact congrArg Int32.toInt (gi_si_ne (Or.inr (by decide)))
    have k_149 : (gi σ4 74 49).toInt = (gi σ3 74 49).toInt := by rw [eσ4]; exact congrArg Int32.toInt (gi_si_ne (Or.inr (by decide)))
    have k_150 : (gi σ4 74 50).toInt = (gi σ3 74 50).toInt := by rw [eσ4]; exact congrArg Int32.toInt (gi_si_ne (Or.inr (by decide)))
    have k_151 : (gi σ4 74 51).toInt = (gi σ3 74 51).toInt := by rw [eσ4]; exact congrArg Int32.toInt (gi_si_ne (Or.inr (by decide)))
    have k_152 : (gi σ4 74 52).toInt = (gi σ3 74 52).toInt := by rw [eσ4]; exact congrArg Int32.toInt (gi_si_ne (Or.inr (by decide)))
    try have hC9 : CD σ0 σ4 162 162 (6) := by rw [eσ4]; exact CD_st (by assumption) (by decide)
    intro σ5 eσ5
    have t_153 := MI_f52 mσ4
    have mσ5 : MI σ5 := by rw [eσ5]; exact MIs_f1 mσ4 (by omega) (by omega)
    have fσ5 : Fr [74, 103, 104, 105, 106, 107, 108, 109, 110, 142, 143, 144, 147, 148] [0, 1, 2, 12, 41, 45, 46] σ0 σ5 := by rw [eσ5]; exact Fr_si fσ4 (by decide) (fun _ => by decide)
    have k_154 : (gi σ5 74 0).toInt = (gi σ4 74 0).toInt := by rw [eσ5]; exact congrArg Int32.toInt (gi_si_ne (Or.inr (by decide)))
    have k_155 : (gi σ5 74 1).toInt = (gi σ4 74 52).toInt := by rw [eσ5]; exact congrArg Int32.toInt gi_si_eq
    have k_156 : (gi σ5 74 11).toInt = (gi σ4 74 11).toInt := by rw [eσ5]; exact congrArg Int32.toInt (gi_si_ne (Or.inr (by decide)))
    have k_157 : (gi σ5 74 12).toInt = (gi σ4 74 12).toInt := by rw [eσ5]; exact congrArg Int32.toInt (gi_si_ne (Or.inr (by decide)))
    have k_158 : (gi σ5 74 49).toInt = (gi σ4 74 49).toInt := by rw [eσ5]; exact congrArg Int32.toInt (gi_si_ne (Or.inr (by decide)))
    have k_159 : (gi σ5 74 50).toInt = (gi σ4 74 50).toInt := by rw [eσ5]; exact congrArg Int32.toInt (gi_si_ne (Or.inr (by decide)))
    have k_160 : (gi σ5 74 51).toInt = (gi σ4 74 51).toInt := by rw [eσ5]; exact congrArg Int32.toInt (gi_si_ne (Or.inr (by decide)))
    have k_161 : (gi σ5 74 52).toInt = (gi σ4 74 52).toInt := by rw [eσ5]; exact congrArg Int32.toInt (gi_si_ne (Or.inr (by decide)))
    try have hC9 : CD σ0 σ5 162 162 (6) := by rw [eσ5]; exact CD_st (by assumption) (by decide)
    intro σ6 eσ6
    have t_162 := MI_f53 mσ5
    have mσ6 : MI σ6 := by rw [eσ6]; exact MIs_f41 mσ5 (by omega) (by omega)
    have fσ6 : Fr [74, 103, 104, 105, 106, 107, 108, 109, 110, 142, 143, 144, 147, 148] [0, 1, 2, 12, 41, 45, 46] σ0 σ6 := by rw [eσ6]; exact Fr_si fσ5 (by decide) (fun _ => by decide)
    have k_163 : (gi σ6 74 0).toInt = (gi σ5 74 0).toInt := by rw [eσ6]; exact congrArg Int32.toInt (gi_si_ne (Or.inr (by decide)))
    have k_164 : (gi σ6 74 1).toInt = (gi σ5 74 1).toInt := by rw [eσ6]; exact congrArg Int32.toInt (gi_si_ne (Or.inr (by decide)))
    have k_165 : (gi σ6 74 11).toInt = (gi σ5 74 11).toInt := by rw [eσ6]; exact congrArg Int32.toInt (gi_si_ne (Or.inr (by decide)))
    have k_166 : (gi σ6 74 12).toInt = (gi σ5 74 12).toInt := by rw [eσ6]; exact congrArg Int32.toInt (gi_si_ne (Or.inr (by decide)))
    have k_167 : (gi σ6 74 49).toInt = (gi σ5 74 49).toInt := by rw [eσ6]; exact congrArg Int32.toInt (gi_si_ne (Or.inr (by decide)))
    have k_168 : (gi σ6 74 50).toInt = (gi σ5 74 50).toInt := by rw [eσ6]; exact congrArg Int32.toInt (gi_si_ne (Or.inr (by decide)))
    have k_169 : (gi σ6 74 51).toInt = (gi σ5 74 51).toInt := by rw [eσ6]; exact congrArg Int32.toInt (gi_si_ne (Or.inr (by decide)))
    have k_170 : (gi σ6 74 52).toInt = (gi σ5 74 52).toInt := by rw [eσ6]; exact congrArg Int32.toInt (gi_si_ne (Or.inr (by decide)))
    have k_171 : (gi σ6 74 53).toInt = (gi σ5 74 53).toInt := by rw [eσ6]; exact congrArg Int32.toInt (gi_si_ne (Or.inr (by decide)))
    try have hC9 : CD σ0 σ6 162 162 (6) := by rw [eσ6]; exact CD_st (by assumption) (by decide)
    intro σ7 eσ7
    have t_172 := MI_f54 mσ6
    have mσ7 : MI σ7 := by rw [eσ7]; exact MIs_f45 mσ6 (by omega) (by omega)
    have fσ7 : Fr [74, 103, 104, 105, 106, 107, 108, 109, 110, 142, 143, 144, 147, 148] [0, 1, 2, 12, 41, 45, 46] σ0 σ7 := by rw [eσ7]; exact Fr_si fσ6 (by decide) (fun _ => by decide)
    have k_173 : (gi σ7 74 0).toInt = (gi σ6 74 0).toInt := by rw [eσ7]; exact congrArg Int32.toInt (gi_si_ne (Or.inr (by decide)))
    have k_174 : (gi σ7 74 1).toInt = (gi σ6 74 1).toInt := by rw [eσ7]; exact congrArg Int32.toInt (gi_si_ne (Or.inr (by decide)))
    have k_175 : (gi σ7 74 11).toInt = (gi σ6 74 11).toInt := by rw [eσ7]; exact congrArg Int32.toInt (gi_si_ne (Or.inr (by decide)))
    have k_176 : (gi σ7 74 12).toInt = (gi σ6 74 12).toInt := by rw [eσ7]; exact congrArg Int32.toInt (gi_si_ne (Or.inr (by decide)))
    have k_177 : (gi σ7 74 49).toInt = (gi σ6 74 49).toInt := by rw [eσ7]; exact congrArg Int32.toInt (gi_si_ne (Or.inr (by decide)))
    have k_178 : (gi σ7 74 50).toInt = (gi σ6 74 50).toInt := by rw [eσ7]; exact congrArg Int32.toInt (gi_si_ne (Or.inr (by decide)))
    have k_179 : (gi σ7 74 51).toInt = (gi σ6 74 51).toInt := by rw [eσ7]; exact congrArg Int32.toInt (gi_si_ne (Or.inr (by decide)))
    have k_180 : (gi σ7 74 52).toInt = (gi σ6 74 52).toInt := by rw [eσ7]; exact congrArg Int32.toInt (gi_si_ne (Or.inr (by decide)))
    have k_181 : (gi σ7 74 53).toInt = (gi σ6 74 53).toInt := by rw [eσ7]; exact congrArg Int32.toInt (gi_si_ne (Or.inr (by decide)))
    have k_182 : (gi σ7 74 54).toInt = (gi σ6 74 54).toInt := by rw [eσ7]; exact congrArg Int32.toInt (gi_si_ne (Or.inr (by decide)))
    try have hC9 : CD σ0 σ7 162 162 (6) := by rw [eσ7]; exact CD_st (by assumption) (by decide)
    intro σ8 eσ8
    have t_183 := MI_f55 mσ7
    have mσ8 : MI σ8 := by rw [eσ8]; exact MIs_f46 mσ7 (by omega) (by omega)
    have fσ8 : Fr [74, 103, 104, 105, 106, 107, 108, 109, 110, 142, 143, 144, 147, 148] [0, 1, 2, 12, 41, 45, 46] σ0 σ8 := by rw [eσ8]; exact Fr_si fσ7 (by decide) (fun _ => by decide)
    have k_184 : (gi σ8 74 0).toInt = (gi σ7 74 0).toInt := by rw [eσ8]; exact congrArg Int32.toInt (gi_si_ne (Or.inr (by decide)))
    have k_185 : (gi σ8 74 1).toInt = (gi σ7 74 1).toInt := by rw [eσ8]; exact congrArg Int32.toInt (gi_si_ne (Or.inr (by decide)))
    have k_186 : (gi σ8 74 11).toInt = (gi σ7 74 11).toInt := by rw [eσ8]; exact congrArg Int32.toInt (gi_si_ne (Or.inr (by decide)))
    have k_187 : (gi σ8 74 12).toInt = (gi σ7 74 12).toInt := by rw [eσ8]; exact congrArg Int32.toInt (gi_si_ne (Or.inr (by decide)))
    have k_188 : (gi σ8 74 49).toInt = (gi σ7 74 49).toInt := by rw [eσ8]; exact congrArg Int32.toInt (gi_si_ne (Or.inr (by decide)))
    have k_189 : (gi σ8 74 50).toInt = (gi σ7 74 50).toInt := by rw [eσ8]; exact congrArg Int32.toInt (gi_si_ne (Or.inr (by decide)))
    have k_190 : (gi σ8 74 51).toInt = (gi σ7 74 51).toInt := by rw [eσ8]; exact congrArg Int32.toInt (gi_si_ne (Or.inr (by decide)))
    have k_191 : (gi σ8 74 52).toInt = (gi σ7 74 52).toInt := by rw [eσ8]; exact congrArg Int32.toInt (gi_si_ne (Or.inr (by decide)))
    have k_192 : (gi σ8 74 53).toInt = (gi σ7 74 53).toInt := by rw [eσ8]; exact congrArg Int32.toInt (gi_si_ne (Or.inr (by decide)))
    have k_193 : (gi σ8 74 54).toInt = (gi σ7 74 54).toInt := by rw [eσ8]; exact congrArg Int32.toInt (gi_si_ne (Or.inr (by decide)))
    have k_194 : (gi σ8 74 55).toInt = (gi σ7 74 55).toInt := by rw [eσ8]; exact congrArg Int32.toInt (gi_si_ne (Or.inr (by decide)))
    try have hC9 : CD σ0 σ8 162 162 (6) := by rw [eσ8]; exact CD_st (by assumption) (by decide)
    have z_195 : (0 : Int32).toInt = 0 := rfl
    exact U68 (0 : Int32) σ8 mσ8 fσ8 (by omega) (by omega) (by first | omega | assumption | rfl) (by first | omega | assumption | rfl) (by first | omega | assumption | rfl) (by first | omega | assumption | rfl) (by assumption) (by first | exact CD_0 (Int.le_refl 0) | (rw [show v32.toInt = x1.toInt + 1 from by omega]; assumption)) (by omega)
  · intro q_124
    have b_196 : (gi σ0 74 49).toInt = 0 := congrArg Int32.toInt q_124
    have z_197 : (-3 : Int32).toInt = -3 := rfl
    exact h9ret (-3 : Int32) σ0 m0 f0 (by first | assumption | exact PL_un m0 pre1 (by assumption) (by omega)) (by first | omega | assumption | rfl) (by first | omega | assumption | rfl)
set_option maxRecDepth 100000 in
set_option maxHeartbeats 4000000 in
theorem kl_X12_aloneBehind {l : Launch} {V : Vx} {a1 : Int32} {a2 : Int32} {σ0 : Sg} {Qk : Int32 → Sg → Prop} (m0 : MI σ0) (l_a1 : 0 ≤ a1.toInt) (u_a1 : a1.toInt ≤ 5) (l_a2 : 1 ≤ a2.toInt) (u_a2 : a2.toInt ≤ 60) (pre0 : (gi σ0 74 1).toInt ≤ 9999) (h9ret : ∀ (r : Int32) (σ' : Sg), MI σ' → Fr [74, 105, 106, 107, 108, 110, 129, 131, 132, 134, 135, 136, 137, 138] [1, 2, 30, 33] σ0 σ' → ((gi σ' 74 1).toInt = (gi σ0 74 1).toInt) → (CD σ0 σ' 110 110 6) → Qk r σ') : K_X12_aloneBehind l V a1 a2 σ0 Qk := by
  refine e_X12_aloneBehind (fun M hl hV hN C => ?_)
  subst hl
  subst hV
  have T : ∀ n : Nat, (∀ (x1 : Int32) (x2 : Int32) (x3 : Int32) (σ : Sg), MI σ → Fr [74, 105, 106, 107, 108, 110, 129, 131, 132, 134, 135, 136, 137, 138] [1, 2, 30, 33] σ0 σ → (0 ≤ x1.toInt) → (x1.toInt ≤ 5) → (1 ≤ x2.toInt) → (x2.toInt ≤ 60) → (0 ≤ x3.toInt) → (x3.toInt ≤ 6) → ((gi σ 74 1).toInt = (gi σ0 74 1).toInt) → ((gi σ 74 33).toInt = (gi σ0 74 1).toInt) → (CD σ0 σ 110 110 6) → (CD σ0 σ 138 110 x3.toInt) → (7 - x3.toInt).toNat + 20 < n → PS M 6 [(0, .ref 74), (1, .int x1), (2, .int x2), (3, .int x3)] [] σ (0, 0)) ∧ (∀ (x3 : Int32) (x4 : Int32) (σ : Sg), MI σ → Fr [74, 105, 106, 107, 108, 110, 129, 131, 132, 134, 135, 136, 137, 138] [1, 2, 30, 33] σ0 σ → (0 ≤ x4.toInt) → (x4.toInt ≤ 6) → ((gi σ 74 33).toInt = (gi σ0 74 1).toInt) → (CD σ0 σ 138 110 6) → (CD σ0 σ 110 110 x4.toInt) → (7 - x4.toInt).toNat < n → PS M 57 [(0, .ref 74), (3, .int x3), (4, .int x4)] [] σ (0, 0)) := by
    intro n
    induction n with
    | zero => exact ⟨fun _ _ _ _ _ _ _ _ _ _ _ _ _ _ _ _ h8 => absurd h8 (Nat.not_lt_zero _), fun _ _ _ _ _ _ _ _ _ _ h8 => absurd h8 (Nat.not_lt_zero _)⟩
    | succ n ih =>
      obtain ⟨ih6, ih57⟩ := ih
      refine ⟨?_, ?_⟩
      · intro x1 x2 x3 σ mσ fσ lx1 ux1 lx2 ux2 lx3 ux3 i0 i1 i2 i3 hmu
        refine s_X12_aloneBehind_6 C hN ?_
        refine ⟨?_, ?_⟩
        · intro q_1
          have b_2 : (6 : Int) ≤ x3.toInt := Int32.le_iff_toInt_le.mp q_1
          have hC9 : CD σ0 σ 138 110 6 := CD_le i3 (by omega)
          have z_3 : (0 : Int32).toInt = 0 := rfl
          have hv_4 : vp_in (0 : Int32) 6 := vp_in_iff.mpr ⟨by omega, by omega⟩
          refine ⟨hv_4, ?_⟩
          intro σ3 eσ3
          have mσ3 : MI σ3 := by rw [eσ3]; exact MIs_a110 mσ (by omega) (by omega)
          have fσ3 : Fr [74, 105, 106, 107, 108, 110, 129, 131, 132, 134, 135, 136, 137, 138] [1, 2, 30, 33] σ0 σ3 := by rw [eσ3]; exact Fr_si fσ (by decide) (fun h9 => absurd h9 (by decide))
          have k_5 : (gi σ3 74 1).toInt = (gi σ 74 1).toInt := by rw [eσ3]; exact congrArg Int32.toInt (gi_si_ne (Or.inl (by decide)))
          have k_6 : (gi σ3 74 33).toInt = (gi σ 74 33).toInt := by rw [eσ3]; exact congrArg Int32.toInt (gi_si_ne (Or.inl (by decide)))
          try have hC9 : CD σ0 σ3 138 110 (6) := by rw [eσ3]; exact CD_st (by assumption) (by decide)
          try have hC9 : CD σ0 σ3 110 110 (6) := by rw [eσ3]; exact CD_st (by assumption) (by decide)
          intro σ4 eσ4
          have z_7 : (1 : Int32).toInt = 1 := rfl
          have mσ4 : MI σ4 := by rw [eσ4]; exact MIs_f2 mσ3 (by omega) (by omega)
          have fσ4 : Fr [74, 105, 106, 107, 108, 110, 129, 131, 132, 134, 135, 136, 137, 138] [1, 2, 30, 33] σ0 σ4 := by rw [eσ4]; exact Fr_si fσ3 (by decide) (fun _ => by decide)
          have k_8 : (gi σ4 74 1).toInt = (gi σ3 74 1).toInt := by rw [eσ4]; exact congrArg Int32.toInt (gi_si_ne (Or.inr (by decide)))
          have k_9 : (gi σ4 74 33).toInt = (gi σ3 74 33).toInt := by rw [eσ4]; exact congrArg Int32.toInt (gi_si_ne (Or.inr (by decide)))
          try have hC9 : CD σ0 σ4 138 110 (6) := by rw [eσ4]; exact CD_st (by assumption) (by decide)
          try have hC9 : CD σ0 σ4 110 110 (6) := by rw [eσ4]; exact CD_st (by assumption) (by decide)
          refine k_X12_goMinutes mσ4 (by omega) (by omega) (by first | omega | assumption | rfl) (fun σ5 mσ5 cσ5 (pσ5_0 : (x2.toInt ≤ 0 ∧ (gi σ5 74 1).toInt = (gi σ4 74 1).toInt) ∨ (0 ≤ x2.toInt ∧ (gi σ5 74 1).toInt = (gi σ4 74 1).toInt + x2.toInt)) => ?_)
          have fσ5 : Fr [74, 105, 106, 107, 108, 110, 129, 131, 132, 134, 135, 136, 137, 138] [1, 2, 30, 33] σ0 σ5 := Fr_tr fσ4 cσ5 (by decide) (by decide)
          have k_10 : (gi σ5 74 33).toInt = (gi σ4 74 33).toInt := congrArg Int32.toInt (cσ5.2.1 33 (by decide))
          try have hC9 : CD σ0 σ5 138 110 (6) := CD_fr (by assumption) cσ5 (by decide)
          try have hC9 : CD σ0 σ5 110 110 (6) := CD_fr (by assumption) cσ5 (by decide)
          have hv_11 : vp_in x1 6 := vp_in_iff.mpr ⟨by omega, by omega⟩
          refine ⟨hv_11, ?_⟩
          intro v7 ev7
          have t_12 := MI_a105 mσ5 hv_11
          have t_13 : v7.toInt = (gi σ5 105 x1.toNatClampNeg).toInt := congrArg Int32.toInt ev7
          exact ih57 v7 (0 : Int32) σ5 mσ5 fσ5 (by omega) (by omega) (by first | omega | assumption | rfl) (by first | assumption | (rw [eσ6]; exact CD_st i1 (by decide))) (by first | exact CD_0 (Int.le_refl 0) | (rw [show v7.toInt = x4.toInt + 1 from by omega, eσ6]; exact CD_step i2 i1 (by omega) (by omega))) (by omega)
        · intro q_1
          have b_14 : ¬ (6 : Int) ≤ x3.toInt := fun h9 => q_1 (Int32.le_iff_toInt_le.mpr h9)
          have hv_15 : vp_in x3 6 := vp_in_iff.mpr ⟨by omega, by omega⟩
          refine ⟨hv_15, ?_⟩
          refine ⟨hv_15, ?_⟩
          intro σ10 eσ10
          have t_16 := MI_a110 mσ hv_15
          have mσ10 : MI σ10 := by rw [eσ10]; exact MIs_a138 mσ (by omega) (by omega)
          have fσ10 : Fr [74, 105, 106, 107, 108, 110, 129, 131, 132, 134, 135, 136, 137, 138] [1, 2, 30, 33] σ0 σ10 := by rw [eσ10]; exact Fr_si fσ (by decide) (fun h9 => absurd h9 (by decide))
          have k_17 : (gi σ10 74 1).toInt = (gi σ 74 1).toInt := by rw [eσ10]; exact congrArg Int32.toInt (gi_si_ne (Or.inl (by decide)))
          have k_18 : (gi σ10 74 33).toInt = (gi σ 74 33).toInt := by rw [eσ10]; exact congrArg Int32.toInt (gi_si_ne (Or.inl (by decide)))
          try have hC9 : CD σ0 σ10 138 110 (6) := by rw [eσ10]; exact CD_st (by assumption) (by decide)
          try have hC9 : CD σ0 σ10 110 110 (6) := by rw [eσ10]; exact CD_st (by assumption) (by decide)
          intro v11 ev11
          have t_19 : (x3 + (1 : Int32)).toInt = x3.toInt + 1 := i_add (x := x3) (y := (1 : Int32)) (by show (_ : Int) ≤ x3.toInt + 1; omega) (by show x3.toInt + 1 ≤ (_ : Int); omega)
          have t_20 : v11.toInt = (x3 + (1 : Int32)).toInt := congrArg Int32.toInt ev11
          exact ih6 x1 x2 v11 σ10 mσ10 fσ10 (by omega) (by omega) (by omega) (by omega) (by omega) (by omega) (by first | omega | assumption | rfl) (by first | omega | assumption | rfl) (by first | exact CD_fr CD_rf cσ1 (by decide) | (rw [eσ10]; exact CD_st i2 (by decide))) (by first | exact CD_0 (Int.le_refl 0) | (rw [show v11.toInt = x3.toInt + 1 from by omega, eσ10]; exact CD_step i3 i2 (by omega) (by omega))) (by omega)
      · intro x3 x4 σ mσ fσ lx4 ux4 i0 i1 i2 hmu
        refine s_X12_aloneBehind_57 C hN ?_
        refine ⟨?_, ?_⟩
        · intro q_21
          have b_22 : (6 : Int) ≤ x4.toInt := Int32.le_iff_toInt_le.mp q_21
          have hC9 : CD σ0 σ 110 110 6 := CD_le i2 (by omega)
          intro σ2 eσ2
          have t_23 := MI_f0 mσ
          have mσ2 : MI σ2 := by rw [eσ2]; exact MIs_f2 mσ (by omega) (by omega)
          have fσ2 : Fr [74, 105, 106, 107, 108, 110, 129, 131, 132, 134, 135, 136, 137, 138] [1, 2, 30, 33] σ0 σ2 := by rw [eσ2]; exact Fr_si fσ (by decide) (fun _ => by decide)
          have k_24 : (gi σ2 74 0).toInt = (gi σ 74 0).toInt := by rw [eσ2]; exact congrArg Int32.toInt (gi_si_ne (Or.inr (by decide)))
          have k_25 : (gi σ2 74 1).toInt = (gi σ 74 1).toInt := by rw [eσ2]; exact congrArg Int32.toInt (gi_si_ne (Or.inr (by decide)))
          have k_26 : (gi σ2 74 33).toInt = (gi σ 74 33).toInt := by rw [eσ2]; exact congrArg Int32.toInt (gi_si_ne (Or.inr (by decide)))
          try have hC9 : CD σ0 σ2 138 110 (6) := by rw [eσ2]; exact CD_st (by assumption) (by decide)
          try have hC9 : CD σ0 σ2 110 110 (6) := by rw [eσ2]; exact CD_st (by assumption) (by decide)
          refine k_X12_putBack mσ2  (fun σ3 mσ3 cσ3 (pσ3_0 : (gi σ3 74 1).toInt = (gi σ2 74 33).toInt) => ?_)
          have fσ3 : Fr [74, 105, 106, 107, 108, 110, 129, 131, 132, 134, 135, 136, 137, 138] [1, 2, 30, 33] σ0 σ3 := Fr_tr fσ2 cσ3 (by decide) (by decide)
          have k_27 : (gi σ3 74 0).toInt = (gi σ2 74 0).toInt := congrArg Int32.toInt (cσ3.2.1 0 (by decide))
          have k_28 : (gi σ3 74 33).toInt = (gi σ2 74 33).toInt := congrArg Int32.toInt (cσ3.2.1 33 (by decide))
          try have hC9 : CD σ0 σ3 138 110 (6) := CD_fr (by assumption) cσ3 (by decide)
          try have hC9 : CD σ0 σ3 110 110 (6) := CD_fr (by assumption) cσ3 (by decide)
          exact h9ret x3 σ3 mσ3 fσ3 (by first | omega | assumption | rfl) (by assumption)
        · intro q_21
          have b_29 : ¬ (6 : Int) ≤ x4.toInt := fun h9 => q_21 (Int32.le_iff_toInt_le.mpr h9)
          have hv_30 : vp_in x4 6 := vp_in_iff.mpr ⟨by omega, by omega⟩
          refine ⟨hv_30, ?_⟩
          refine ⟨hv_30, ?_⟩
          intro σ6 eσ6
          have t_31 := MI_a138 mσ hv_30
          have mσ6 : MI σ6 := by rw [eσ6]; exact MIs_a110 mσ (by omega) (by omega)
          have fσ6 : Fr [74, 105, 106, 107, 108, 110, 129, 131, 132, 134, 135, 136, 137, 138] [1, 2, 30, 33] σ0 σ6 := by rw [eσ6]; exact Fr_si fσ (by decide) (fun h9 => absurd h9 (by decide))
          have k_32 : (gi σ6 74 1).toInt = (gi σ 74 1).toInt := by rw [eσ6]; exact congrArg Int32.toInt (gi_si_ne (Or.inl (by decide)))
          have k_33 : (gi σ6 74 33).toInt = (gi σ 74 33).toInt := by rw [eσ6]; exact congrArg Int32.toInt (gi_si_ne (Or.inl (by decide)))
          try have hC9 : CD σ0 σ6 138 110 (6) := by rw [eσ6]; exact CD_st (by assumption) (by decide)
          try have hC9 : CD σ0 σ6 110 110 (6) := by rw [eσ6]; exact CD_st (by assumption) (by decide)
          intro v7 ev7
          have t_34 : (x4 + (1 : Int32)).toInt = x4.toInt + 1 := i_add (x := x4) (y := (1 : Int32)) (by show (_ : Int) ≤ x4.toInt + 1; omega) (by show x4.toInt + 1 ≤ (_ : Int); omega)
          have t_35 : v7.toInt = (x4 + (1 : Int32)).toInt := congrArg Int32.toInt ev7
          exact ih57 x3 v7 σ6 mσ6 fσ6 (by omega) (by omega) (by first | omega | assumption | rfl) (by first | assumption | (rw [eσ6]; exact CD_st i1 (by decide))) (by first | exact CD_0 (Int.le_refl 0) | (rw [show v7.toInt = x4.toInt + 1 from by omega, eσ6]; exact CD_step i2 i1 (by omega) (by omega))) (by omega)
  obtain ⟨U6, U57⟩ := T 60
  have f0 : Fr [74, 105, 106, 107, 108, 110, 129, 131, 132, 134, 135, 136, 137, 138] [1, 2, 30, 33] σ0 σ0 := Fr_rf
  refine s_X12_aloneBehind_0 C hN ?_
  refine k_X12_save m0  (fun σ1 mσ1 cσ1 (pσ1_0 : (gi σ1 74 33).toInt = (gi σ0 74 1).toInt) => ?_)
  have fσ1 : Fr [74, 105, 106, 107, 108, 110, 129, 131, 132, 134, 135, 136, 137, 138] [1, 2, 30, 33] σ0 σ1 := Fr_tr f0 cσ1 (by decide) (by decide)
  have k_36 : (gi σ1 74 1).toInt = (gi σ0 74 1).toInt := congrArg Int32.toInt (cσ1.2.1 1 (by decide))
  try have hC9 : CD σ0 σ1 138 110 (6) := CD_fr (by assumption) cσ1 (by decide)
  try have hC9 : CD σ0 σ1 110 110 (6) := CD_fr (by assumption) cσ1 (by decide)
  have z_37 : (0 : Int32).toInt = 0 := rfl
  exact U6 a1 a2 (0 : Int32) σ1 mσ1 fσ1 (by omega) (by omega) (by omega) (by omega) (by omega) (by omega) (by first | omega | assumption | rfl) (by first | omega | assumption | rfl) (by first | exact CD_fr CD_rf cσ1 (by decide) | (rw [eσ10]; exact CD_st i2 (by decide))) (by first | exact CD_0 (Int.le_refl 0) | (rw [show v11.toInt = x3.toInt + 1 from by omega, eσ10]; exact CD_step i3 i2 (by omega) (by omega))) (by omega)
set_option maxRecDepth 100000 in
set_option maxHeartbeats 4000000 in
theorem kl_X12_alone {l : Launch} {V : Vx} {a1 : Int32} {σ0 : Sg} {Qk : Int32 → Sg → Prop} (m0 : MI σ0) (pre0 : (gi σ0 74 1).toInt ≤ 9999) (h9ret : ∀ (r : Int32) (σ' : Sg), MI σ' → Fr [74, 105, 106, 107, 108, 110, 129, 131, 132, 134, 135, 136, 137, 138] [1, 2, 30, 33] σ0 σ' → ((gi σ' 74 1).toInt = (gi σ0 74 1).toInt) → (CD σ0 σ' 110 110 6) → Qk r σ') : K_X12_alone l V a1 σ0 Qk := by
  refine e_X12_alone (fun M hl hV hN C => ?_)
  subst hl
  subst hV
  have T : ∀ n : Nat, (∀ (x1 : Int32) (x2 : Int32) (x3 : Int32) (σ : Sg), MI σ → Fr [74, 105, 106, 107, 108, 110, 129, 131, 132, 134, 135, 136, 137, 138] [1, 2, 30, 33] σ0 σ → (1 ≤ x1.toInt) → (x1.toInt ≤ 60) → (0 ≤ x3.toInt) → (x3.toInt ≤ 6) → ((gi σ 74 1).toInt = (gi σ0 74 1).toInt) → (CD σ0 σ 110 110 6) → (7 - x3.toInt).toNat < n → PS M 23 [(0, .ref 74), (1, .int x1), (2, .int x2), (3, .int x3)] [] σ (0, 0)) := by
    intro n
    induction n with
    | zero => exact fun _ _ _ _ _ _ _ _ _ _ _ _ h8 => absurd h8 (Nat.not_lt_zero _)
    | succ n ih =>
      have ih23 := ih
      · intro x1 x2 x3 σ mσ fσ lx1 ux1 lx3 ux3 i0 i1 hmu
        refine s_X12_alone_23 C hN ?_
        refine ⟨?_, ?_⟩
        · intro q_1
          have t_2 := MI_f0 mσ
          have b_3 : (gi σ 74 0).toInt ≤ x3.toInt := Int32.le_iff_toInt_le.mp q_1
          exact h9ret x2 σ mσ fσ (by first | omega | assumption | rfl) (by first | assumption | exact CD_rf)
        · intro q_1
          have t_4 := MI_f0 mσ
          have b_5 : ¬ (gi σ 74 0).toInt ≤ x3.toInt := fun h9 => q_1 (Int32.le_iff_toInt_le.mpr h9)
          refine kl_X12_aloneBehind mσ (by omega) (by omega) (by omega) (by omega) (by first | omega | assumption | rfl) (fun r3 σ2 mσ2 cσ2 (pσ2_0 : (gi σ2 74 1).toInt = (gi σ 74 1).toInt) (pσ2_1 : CD σ σ2 110 110 6) => ?_)
          have fσ2 : Fr [74, 105, 106, 107, 108, 110, 129, 131, 132, 134, 135, 136, 137, 138] [1, 2, 30, 33] σ0 σ2 := Fr_tr fσ cσ2 (by decide) (by decide)
          have k_6 : (gi σ2 74 0).toInt = (gi σ 74 0).toInt := congrArg Int32.toInt (cσ2.2.1 0 (by decide))
          have hC9 : CD σ0 σ2 110 110 6 := CD_tr i1 pσ2_1
          intro v4 ev4
          intro v5 ev5
          have t_7 : (x3 + (1 : Int32)).toInt = x3.toInt + 1 := i_add (x := x3) (y := (1 : Int32)) (by show (_ : Int) ≤ x3.toInt + 1; omega) (by show x3.toInt + 1 ≤ (_ : Int); omega)
          have t_8 : v5.toInt = (x3 + (1 : Int32)).toInt := congrArg Int32.toInt ev5
          exact ih23 x1 v4 v5 σ2 mσ2 fσ2 (by omega) (by omega) (by omega) (by omega) (by first | omega | assumption | rfl) (by first | assumption | exact CD_fr CD_rf cσ4 (by decide)) (by omega)
  have U23 := T 20
  have f0 : Fr [74, 105, 106, 107, 108, 110, 129, 131, 132, 134, 135, 136, 137, 138] [1, 2, 30, 33] σ0 σ0 := Fr_rf
  refine s_X12_alone_0 C hN ?_
  refine k_X12_in m0  (fun r2 σ1 mσ1 cσ1 plσ1 phσ1 (pσ1_0 : (r2.toInt = 1 ∧ (1 : Int) ≤ a1.toInt ∧ a1.toInt ≤ (60 : Int)) ∨ (r2.toInt = 0 ∧ (a1.toInt < (1 : Int) ∨ (60 : Int) < a1.toInt))) => ?_)
  obtain rfl := Fr_nil cσ1
  refine ⟨?_, ?_⟩
  · intro q_9
    have b_10 : ¬ r2.toInt = 0 := fun h9 => q_9 (Int32.toInt_inj.mp h9)
    refine k_X12_allBehind m0 (by omega) (by omega) (by first | omega | assumption | rfl) (fun r5 σ4 mσ4 cσ4 plσ4 phσ4 (pσ4_0 : (gi σ4 74 1).toInt = (gi σ0 74 1).toInt) => ?_)
    have fσ4 : Fr [74, 105, 106, 107, 108, 110, 129, 131, 132, 134, 135, 136, 137, 138] [1, 2, 30, 33] σ0 σ4 := Fr_tr f0 cσ4 (by decide) (by decide)
    have z_11 : (0 : Int32).toInt = 0 := rfl
    exact U23 a1 r5 (0 : Int32) σ4 mσ4 fσ4 (by omega) (by omega) (by omega) (by omega) (by first | omega | assumption | rfl) (by first | assumption | exact CD_fr CD_rf cσ4 (by decide)) (by omega)
  · intro q_9
    have b_12 : r2.toInt = 0 := congrArg Int32.toInt q_9
    have z_13 : (-100002 : Int32).toInt = -100002 := rfl
    exact h9ret (-100002 : Int32) σ0 m0 f0 (by first | omega | assumption | rfl) (by first | assumption | exact CD_rf)
