/-! the model's parser: how high the pile stands, what waits -/
noncomputable def cnd (σ : Sg) (H : Nat → Nat) (k : Nat) : Prop := (gi σ 122 k = -33 → 1 ≤ H k ∧ H (k + 1) = H k) ∧ (¬ gi σ 122 k = -33 → (gi σ 122 k).toInt < 0 → 2 ≤ H k ∧ H (k + 1) + 1 = H k) ∧ (0 ≤ (gi σ 122 k).toInt → H k ≤ 99 ∧ H (k + 1) = H k + 1)
noncomputable def OKP (σ : Sg) (lo hi h : Nat) : Prop := lo ≤ hi ∧ ∃ H : Nat → Nat, H lo = 0 ∧ H hi = h ∧ ∀ k, lo ≤ k → k < hi → cnd σ H k
theorem OKP_seg {σ : Sg} {lo hi h : Nat} (q : OKP σ lo hi h) : okSeg σ lo hi := by
  obtain ⟨-, H, h0, -, hk⟩ := q
  exact ⟨H, h0, hk⟩
theorem OKP_0 {σ : Sg} {lo : Nat} : OKP σ lo lo 0 := ⟨Nat.le_refl _, fun _ => 0, rfl, rfl, fun k h1 h2 => by omega⟩
theorem OKP_eq {σ σ' : Sg} {lo hi h : Nat} (e : ∀ k, k < hi → gi σ' 122 k = gi σ 122 k) (q : OKP σ lo hi h) : OKP σ' lo hi h := by
  obtain ⟨hl, H, h0, hh, hk⟩ := q
  refine ⟨hl, H, h0, hh, fun k h1 h2 => ?_⟩
  have := hk k h1 h2
  unfold cnd at this ⊢
  rw [e k h2]
  exact this
theorem OKP_emit {σ : Sg} {lo hi h h' : Nat} (q : OKP σ lo hi h) (c1 : gi σ 122 hi = -33 → 1 ≤ h ∧ h' = h) (c2 : ¬ gi σ 122 hi = -33 → (gi σ 122 hi).toInt < 0 → 2 ≤ h ∧ h' + 1 = h) (c3 : 0 ≤ (gi σ 122 hi).toInt → h ≤ 99 ∧ h' = h + 1) : OKP σ lo (hi + 1) h' := by
  obtain ⟨hl, H, h0, hh, hk⟩ := q
  obtain ⟨G, hG⟩ : ∃ G : Nat → Nat, G = va_up H (hi + 1) h' := ⟨_, rfl⟩
  have e1 : ∀ k, k ≠ hi + 1 → G k = H k := fun k z => by rw [hG]; exact va_up_ne _ _ z
  have e2 : G (hi + 1) = h' := by rw [hG]; exact va_up_self _ _ _
  refine ⟨by omega, G, (e1 _ (by omega)).trans h0, e2, fun k h1 h2 => ?_⟩
  unfold cnd
  by_cases e : k = hi
  · rw [e, e2, e1 hi (by omega), hh]
    exact ⟨c1, c2, c3⟩
  · have := hk k h1 (by omega)
    unfold cnd at this
    rw [e1 k (by omega), e1 (k + 1) (by omega)]
    exact this
/-- how many of those that wait join two -/
noncomputable def nbw (σ : Sg) : Nat → Nat
  | 0 => 0
  | n + 1 => nbw σ n + (if gi σ 123 n = 38 ∨ gi σ 123 n = 124 then 1 else 0)
theorem nbw_eq {σ σ' : Sg} : ∀ {n : Nat}, (∀ k, k < n → gi σ' 123 k = gi σ 123 k) → nbw σ' n = nbw σ n
  | 0, _ => rfl
  | n + 1, h => by
    show nbw σ' n + _ = nbw σ n + _
    rw [nbw_eq (fun k hk => h k (by omega)), h n (by omega)]
theorem nbw_le (σ : Sg) : ∀ n : Nat, nbw σ n ≤ n
  | 0 => Nat.le_refl _
  | n + 1 => by
    show nbw σ n + _ ≤ n + 1
    have := nbw_le σ n
    split <;> omega
theorem FV_sign {σ : Sg} {k : Nat} {v : Int32} (h : FV σ) (h1 : (gi σ 74 12).toInt < (gi σ 74 11).toInt) (h2 : (gi σ 74 50).toInt < (gi σ 74 11).toInt) (hk : 100 * (gi σ 74 11).toInt ≤ (k : Int)) : FV (si σ 122 k v) := by
  intro f hf hc
  rw [gi_si_ne (Or.inl (by decide)), gi_si_ne (Or.inl (by decide)), gi_si_ne (Or.inl (by decide))] at hc
  have hlt : (f : Int) < (gi σ 74 11).toInt := by omega
  intro n hn hcl hw
  rw [gi_si_ne (Or.inl (by decide))] at hcl
  rw [gi_si_ne (Or.inl (by decide))] at hw
  obtain ⟨lo, hi, e1, e2, e3, e4, e5, e6⟩ := h f hf hc n hn hcl hw
  exact ⟨lo, hi, by rw [gi_si_ne (Or.inl (by decide))]; exact e1, by rw [gi_si_ne (Or.inl (by decide))]; exact e2, e3, e4, e5, okSeg_eq (fun j j1 j2 => gi_si_ne (Or.inr (by omega))) e6⟩
noncomputable def EMT (σ σ' : Sg) (v : Int32) : Prop := gi σ' 122 (gi σ 74 24).toNatClampNeg = v ∧ ∀ k, k ≠ (gi σ 74 24).toNatClampNeg → gi σ' 122 k = gi σ 122 k
/-- what the popping of signs that wait leaves -/
noncomputable def HK (σ σ' : Sg) : Prop := ∀ lo h : Nat, 1 ≤ h → OKP σ lo (gi σ 74 24).toNatClampNeg h → OKP σ' lo (gi σ' 74 24).toNatClampNeg h
theorem HK_rf {σ : Sg} : HK σ σ := fun _ _ _ q => q
theorem HK_emit {σ0 σ σ1 σ2 : Sg} {v : Int32} (hv : v = -33) (h : HK σ0 σ) (e : EMT σ σ1 v) (h24 : 0 ≤ (gi σ 74 24).toInt) (e24 : (gi σ2 74 24).toInt = (gi σ 74 24).toInt + 1) (e2 : ∀ k, gi σ2 122 k = gi σ1 122 k) : HK σ0 σ2 := fun lo n hn q => by
  have ec := cl_eq h24
  have ec2 := cl_eq (x := gi σ2 74 24) (by omega)
  have q1 := h lo n hn q
  rw [show (gi σ2 74 24).toNatClampNeg = (gi σ 74 24).toNatClampNeg + 1 from by omega]
  have q2 : OKP σ2 lo (gi σ 74 24).toNatClampNeg n := OKP_eq (fun k hk => by rw [e2, e.2 k (by omega)]) q1
  have es : gi σ2 122 (gi σ 74 24).toNatClampNeg = -33 := by rw [e2, e.1, hv]
  exact OKP_emit q2 (fun _ => ⟨hn, rfl⟩) (fun z => absurd es z) (fun z => by rw [es] at z; exact absurd z (by decide))
theorem nbw_n {σ : Sg} {n : Nat} (h : ¬ (gi σ 123 n = 38 ∨ gi σ 123 n = 124)) : nbw σ (n + 1) = nbw σ n := by
  show nbw σ n + _ = nbw σ n
  rw [if_neg h]; rfl
theorem nbw_y {σ : Sg} {n : Nat} (h : gi σ 123 n = 38 ∨ gi σ 123 n = 124) : nbw σ (n + 1) = nbw σ n + 1 := by
  show nbw σ n + _ = nbw σ n + 1
  rw [if_pos h]
theorem nbw_pop {σ0 σ σ6 : Sg} {N : Nat} (i3 : nbw σ0 (gi σ 74 25).toNatClampNeg = N) (hq : ∀ k, gi σ 123 k = gi σ0 123 k) (h0 : 1 ≤ (gi σ 74 25).toInt) (h6 : (gi σ6 74 25).toInt = (gi σ 74 25).toInt - 1) (h1 : ((gi σ 74 25) - 1).toInt = (gi σ 74 25).toInt - 1) (q : gi σ 123 ((gi σ 74 25) - 1).toNatClampNeg = 33) : nbw σ0 (gi σ6 74 25).toNatClampNeg = N := by
  have e1 := cl_eq (x := gi σ 74 25) (by omega)
  have e2 := cl_eq (x := gi σ6 74 25) (by omega)
  have e3 := cl_eq (x := (gi σ 74 25) - 1) (by omega)
  rw [← i3, show (gi σ 74 25).toNatClampNeg = (gi σ6 74 25).toNatClampNeg + 1 from by omega]
  refine (nbw_n ?_).symm
  rw [show (gi σ6 74 25).toNatClampNeg = ((gi σ 74 25) - 1).toNatClampNeg from by omega, ← hq, q]
  decide
/-- the signs that stood there stay -/
noncomputable def BL (σ σ' : Sg) : Prop := ∀ k : Nat, (k : Int) < (gi σ 74 24).toInt → gi σ' 122 k = gi σ 122 k
theorem BL_rf {σ : Sg} : BL σ σ := fun _ _ => rfl
theorem BL_emit {σ0 σ σ1 σ2 : Sg} {v : Int32} (h : BL σ0 σ) (e : EMT σ σ1 v) (hs : (gi σ0 74 24).toInt ≤ (gi σ 74 24).toInt) (h0 : 0 ≤ (gi σ 74 24).toInt) (e2 : ∀ k, gi σ2 122 k = gi σ1 122 k) : BL σ0 σ2 := fun k hk => by
  have ec := cl_eq h0
  rw [e2, e.2 k (by omega)]
  exact h k hk
set_option maxRecDepth 100000 in
set_option maxHeartbeats 4000000 in
theorem k_X12_emits {l : Launch} {V : Vx} {a1 : Int32} {σ0 : Sg} {Qk : Sg → Prop} (m0 : MI σ0) (pre0 : (gi σ0 74 12).toInt < (gi σ0 74 11).toInt) (pre1 : (gi σ0 74 50).toInt < (gi σ0 74 11).toInt) (pre2 : 100 * (gi σ0 74 11).toInt ≤ (gi σ0 74 24).toInt) (pre3 : (gi σ0 74 24).toInt ≤ 599) (h9ret : ∀ (σ' : Sg), MI σ' → Fr [74, 122] [24] σ0 σ' → ((gi σ' 74 24).toInt = (gi σ0 74 24).toInt + 1) → (EMT σ0 σ' a1) → Qk σ') : K_X12_emits l V a1 σ0 Qk := by
  refine e_X12_emits (fun M hl hV hN C => ?_)
  subst hl
  subst hV
  have f0 : Fr [74, 122] [24] σ0 σ0 := Fr_rf
  have e24 := cl_eq (x := gi σ0 74 24) (by have := MI_f24 m0; omega)
  refine s_X12_emits_0 C hN ?_
  have t_1 := MI_f24 m0
  have hv_2 : vp_in (gi σ0 74 24) 600 := vp_in_iff.mpr ⟨by omega, by omega⟩
  refine ⟨hv_2, ?_⟩
  intro σ2 eσ2
  have mσ2 : MI σ2 := by rw [eσ2]; exact MIs_au0 m0 rfl (FV_sign m0.2.2 pre0 pre1 (by omega))
  have fσ2 : Fr [74, 122] [24] σ0 σ2 := by rw [eσ2]; exact Fr_si f0 (by decide) (fun h9 => absurd h9 (by decide))
  have k_3 : (gi σ2 74 11).toInt = (gi σ0 74 11).toInt := by rw [eσ2]; exact congrArg Int32.toInt (gi_si_ne (Or.inl (by decide)))
  have k_4 : (gi σ2 74 12).toInt = (gi σ0 74 12).toInt := by rw [eσ2]; exact congrArg Int32.toInt (gi_si_ne (Or.inl (by decide)))
  have k_5 : (gi σ2 74 24).toInt = (gi σ0 74 24).toInt := by rw [eσ2]; exact congrArg Int32.toInt (gi_si_ne (Or.inl (by decide)))
  have k_6 : (gi σ2 74 50).toInt = (gi σ0 74 50).toInt := by rw [eσ2]; exact congrArg Int32.toInt (gi_si_ne (Or.inl (by decide)))
  intro σ3 eσ3
  have t_7 := MI_f24 mσ2
  have t_8 : ((gi σ2 74 24) + (1 : Int32)).toInt = (gi σ2 74 24).toInt + 1 := i_add (x := (gi σ2 74 24)) (y := (1 : Int32)) (by show (_ : Int) ≤ (gi σ2 74 24).toInt + 1; omega) (by show (gi σ2 74 24).toInt + 1 ≤ (_ : Int); omega)
  have mσ3 : MI σ3 := by rw [eσ3]; exact MIs_f24 mσ2 (by omega) (by omega)
  have fσ3 : Fr [74, 122] [24] σ0 σ3 := by rw [eσ3]; exact Fr_si fσ2 (by decide) (fun _ => by decide)
  have k_9 : (gi σ3 74 11).toInt = (gi σ2 74 11).toInt := by rw [eσ3]; exact congrArg Int32.toInt (gi_si_ne (Or.inr (by decide)))
  have k_10 : (gi σ3 74 12).toInt = (gi σ2 74 12).toInt := by rw [eσ3]; exact congrArg Int32.toInt (gi_si_ne (Or.inr (by decide)))
  have k_11 : (gi σ3 74 24).toInt = ((gi σ2 74 24) + (1 : Int32)).toInt := by rw [eσ3]; exact congrArg Int32.toInt gi_si_eq
  have k_12 : (gi σ3 74 50).toInt = (gi σ2 74 50).toInt := by rw [eσ3]; exact congrArg Int32.toInt (gi_si_ne (Or.inr (by decide)))
  exact h9ret σ3 mσ3 fσ3 (by first | omega | assumption | rfl) (⟨by rw [eσ3, gi_si_ne (Or.inl (by decide)), eσ2, gi_si_eq], fun k hk => by rw [eσ3, gi_si_ne (Or.inl (by decide)), eσ2, gi_si_ne (Or.inr hk)]⟩)
set_option maxRecDepth 100000 in
set_option maxHeartbeats 4000000 in
theorem k_X12_whole {l : Launch} {V : Vx} {σ0 : Sg} {Qk : Sg → Prop} (m0 : MI σ0) (pre0 : (gi σ0 74 12).toInt < (gi σ0 74 11).toInt) (pre1 : (gi σ0 74 50).toInt < (gi σ0 74 11).toInt) (pre2 : 100 * (gi σ0 74 11).toInt ≤ (gi σ0 74 24).toInt) (pre3 : (gi σ0 74 24).toInt + (gi σ0 74 25).toInt ≤ 599) (h9ret : ∀ (σ' : Sg), MI σ' → Fr [74, 122] [24, 25, 26] σ0 σ' → (HK σ0 σ') → ((gi σ' 74 24).toInt + (gi σ' 74 25).toInt = (gi σ0 74 24).toInt + (gi σ0 74 25).toInt) → ((gi σ' 74 25).toInt ≤ (gi σ0 74 25).toInt) → (nbw σ' (gi σ' 74 25).toNatClampNeg = nbw σ0 (gi σ0 74 25).toNatClampNeg) → (BL σ0 σ') → ((gi σ0 74 24).toInt ≤ (gi σ' 74 24).toInt) → Qk σ') : K_X12_whole l V σ0 Qk := by
  refine e_X12_whole (fun M hl hV hN C => ?_)
  subst hl
  subst hV
  have T : ∀ n : Nat, (∀ (σ : Sg), MI σ → Fr [74, 122] [24, 25, 26] σ0 σ → (HK σ0 σ) → ((gi σ 74 24).toInt + (gi σ 74 25).toInt = (gi σ0 74 24).toInt + (gi σ0 74 25).toInt) → ((gi σ 74 25).toInt ≤ (gi σ0 74 25).toInt) → (nbw σ0 (gi σ 74 25).toNatClampNeg = nbw σ0 (gi σ0 74 25).toNatClampNeg) → (100 * (gi σ 74 11).toInt ≤ (gi σ 74 24).toInt) → ((gi σ 74 12).toInt < (gi σ 74 11).toInt) → ((gi σ 74 50).toInt < (gi σ 74 11).toInt) → (BL σ0 σ) → ((gi σ0 74 24).toInt ≤ (gi σ 74 24).toInt) → (gi σ 74 25).toInt.toNat < n → PS M 0 [(0, .ref 74)] [] σ (0, 0)) := by
    intro n
    induction n with
    | zero => exact fun _ _ _ _ _ _ _ _ _ _ _ _ h8 => absurd h8 (Nat.not_lt_zero _)
    | succ n ih =>
      have ih0 := ih
      · intro σ mσ fσ i0 i1 i2 i3 i4 i5 i6 i7 i8 hmu
        have mw24 := MI_f24 mσ
        have mw25 := MI_f25 mσ
        refine s_X12_whole_0 C hN ?_
        refine ⟨?_, ?_⟩
        · intro q_1
          have t_2 := MI_f25 mσ
          have b_3 : (gi σ 74 25).toInt ≤ 0 := Int32.le_iff_toInt_le.mp q_1
          exact h9ret σ mσ fσ (by assumption) (by first | omega | assumption | rfl) (by first | omega | assumption | rfl) ((nbw_eq (fun k _ => congrFun (fσ.1 123 (by decide)).1 k)).trans i3) (by first | omega | assumption | rfl) (by first | omega | assumption | rfl)
        · intro q_1
          have t_4 := MI_f25 mσ
          have b_5 : ¬ (gi σ 74 25).toInt ≤ 0 := fun h9 => q_1 (Int32.le_iff_toInt_le.mpr h9)
          have t_6 : ((gi σ 74 25) - (1 : Int32)).toInt = (gi σ 74 25).toInt - 1 := i_sub (x := (gi σ 74 25)) (y := (1 : Int32)) (by show (_ : Int) ≤ (gi σ 74 25).toInt - 1; omega) (by show (gi σ 74 25).toInt - 1 ≤ (_ : Int); omega)
          have hv_7 : vp_in ((gi σ 74 25) - (1 : Int32)) 101 := vp_in_iff.mpr ⟨by omega, by omega⟩
          refine ⟨hv_7, ?_⟩
          refine ⟨?_, ?_⟩
          · intro q_8
            have b_9 : ¬ (gi σ 123 ((gi σ 74 25) - (1 : Int32)).toNatClampNeg).toInt = 33 := fun h9 => q_8 (Int32.toInt_inj.mp h9)
            exact h9ret σ mσ fσ (by assumption) (by first | omega | assumption | rfl) (by first | omega | assumption | rfl) ((nbw_eq (fun k _ => congrFun (fσ.1 123 (by decide)).1 k)).trans i3) (by first | omega | assumption | rfl) (by first | omega | assumption | rfl)
          · intro q_8
            have b_10 : (gi σ 123 ((gi σ 74 25) - (1 : Int32)).toNatClampNeg).toInt = 33 := congrArg Int32.toInt q_8
            refine k_X12_emits mσ (by first | omega | assumption | rfl) (by first | omega | assumption | rfl) (by first | omega | assumption | rfl) (by first | omega | assumption | rfl) (fun σ4 mσ4 cσ4 (pσ4_0 : (gi σ4 74 24).toInt = (gi σ 74 24).toInt + 1) (pσ4_1 : EMT σ σ4 (-33 : Int32)) => ?_)
            have fσ4 : Fr [74, 122] [24, 25, 26] σ0 σ4 := Fr_tr fσ cσ4 (by decide) (by decide)
            have k_11 : (gi σ4 74 11).toInt = (gi σ 74 11).toInt := congrArg Int32.toInt (cσ4.2.1 11 (by decide))
            have k_12 : (gi σ4 74 12).toInt = (gi σ 74 12).toInt := congrArg Int32.toInt (cσ4.2.1 12 (by decide))
            have k_13 : (gi σ4 74 14).toInt = (gi σ 74 14).toInt := congrArg Int32.toInt (cσ4.2.1 14 (by decide))
            have k_14 : (gi σ4 74 25).toInt = (gi σ 74 25).toInt := congrArg Int32.toInt (cσ4.2.1 25 (by decide))
            have k_15 : (gi σ4 74 50).toInt = (gi σ 74 50).toInt := congrArg Int32.toInt (cσ4.2.1 50 (by decide))
            intro σ5 eσ5
            have t_16 := MI_f25 mσ4
            have t_17 : ((gi σ4 74 25) - (1 : Int32)).toInt = (gi σ4 74 25).toInt - 1 := i_sub (x := (gi σ4 74 25)) (y := (1 : Int32)) (by show (_ : Int) ≤ (gi σ4 74 25).toInt - 1; omega) (by show (gi σ4 74 25).toInt - 1 ≤ (_ : Int); omega)
            have mσ5 : MI σ5 := by rw [eσ5]; exact MIs_f25 mσ4 (by omega) (by omega)
            have fσ5 : Fr [74, 122] [24, 25, 26] σ0 σ5 := by rw [eσ5]; exact Fr_si fσ4 (by decide) (fun _ => by decide)
            have k_18 : (gi σ5 74 11).toInt = (gi σ4 74 11).toInt := by rw [eσ5]; exact congrArg Int32.toInt (gi_si_ne (Or.inr (by decide)))
            have k_19 : (gi σ5 74 12).toInt = (gi σ4 74 12).toInt := by rw [eσ5]; exact congrArg Int32.toInt (gi_si_ne (Or.inr (by decide)))
            have k_20 : (gi σ5 74 14).toInt = (gi σ4 74 14).toInt := by rw [eσ5]; exact congrArg Int32.toInt (gi_si_ne (Or.inr (by decide)))
            have k_21 : (gi σ5 74 24).toInt = (gi σ4 74 24).toInt := by rw [eσ5]; exact congrArg Int32.toInt (gi_si_ne (Or.inr (by decide)))
            have k_22 : (gi σ5 74 25).toInt = ((gi σ4 74 25) - (1 : Int32)).toInt := by rw [eσ5]; exact congrArg Int32.toInt gi_si_eq
            have k_23 : (gi σ5 74 50).toInt = (gi σ4 74 50).toInt := by rw [eσ5]; exact congrArg Int32.toInt (gi_si_ne (Or.inr (by decide)))
            intro σ6 eσ6
            have mσ6 : MI σ6 := by rw [eσ6]; exact MIs_fu mσ5 (by decide)
            have fσ6 : Fr [74, 122] [24, 25, 26] σ0 σ6 := by rw [eσ6]; exact Fr_si fσ5 (by decide) (fun _ => by decide)
            have k_24 : (gi σ6 74 11).toInt = (gi σ5 74 11).toInt := by rw [eσ6]; exact congrArg Int32.toInt (gi_si_ne (Or.inr (by decide)))
            have k_25 : (gi σ6 74 12).toInt = (gi σ5 74 12).toInt := by rw [eσ6]; exact congrArg Int32.toInt (gi_si_ne (Or.inr (by decide)))
            have k_26 : (gi σ6 74 14).toInt = (gi σ5 74 14).toInt := by rw [eσ6]; exact congrArg Int32.toInt (gi_si_ne (Or.inr (by decide)))
            have k_27 : (gi σ6 74 24).toInt = (gi σ5 74 24).toInt := by rw [eσ6]; exact congrArg Int32.toInt (gi_si_ne (Or.inr (by decide)))
            have k_28 : (gi σ6 74 25).toInt = (gi σ5 74 25).toInt := by rw [eσ6]; exact congrArg Int32.toInt (gi_si_ne (Or.inr (by decide)))
            have k_29 : (gi σ6 74 50).toInt = (gi σ5 74 50).toInt := by rw [eσ6]; exact congrArg Int32.toInt (gi_si_ne (Or.inr (by decide)))
            exact ih0  σ6 mσ6 fσ6 (by first | exact HK_rf | exact HK_emit rfl i0 pσ4_1 (by have := MI_f24 mσ; omega) (by omega) (fun k => by rw [eσ6, gi_si_ne (Or.inl (by decide)), eσ5, gi_si_ne (Or.inl (by decide))])) (by first | omega | assumption | rfl) (by first | omega | assumption | rfl) (by first | rfl | exact nbw_pop i3 (fun k => congrFun (fσ.1 123 (by decide)).1 k) (by omega) (by omega) (by omega) (by assumption)) (by first | omega | assumption | rfl) (by first | omega | assumption | rfl) (by first | omega | assumption | rfl) (by first | exact BL_rf | exact BL_emit i7 pσ4_1 (by omega) (by omega) (fun k => by rw [eσ6, gi_si_ne (Or.inl (by decide)), eσ5, gi_si_ne (Or.inl (by decide))])) (by first | omega | assumption | rfl) (by omega)
  have U0 := T 200
  have f0 : Fr [74, 122] [24, 25, 26] σ0 σ0 := Fr_rf
  have mw24 := MI_f24 m0
  have mw25 := MI_f25 m0
  exact U0  σ0 m0 f0 (by first | exact HK_rf | exact HK_emit rfl i0 pσ4_1 (by have := MI_f24 mσ0; omega) (by omega) (fun k => by rw [eσ6, gi_si_ne (Or.inl (by decide)), eσ5, gi_si_ne (Or.inl (by decide))])) (by first | omega | assumption | rfl) (by first | omega | assumption | rfl) (by first | rfl | exact nbw_pop i3 (fun k => congrFun (fσ0.1 123 (by decide)).1 k) (by omega) (by omega) (by omega) (by assumption)) (by first | omega | assumption | rfl) (by first | omega | assumption | rfl) (by first | omega | assumption | rfl) (by first | exact BL_rf | exact BL_emit i7 pσ4_1 (by omega) (by omega) (fun k => by rw [eσ6, gi_si_ne (Or.inl (by decide)), eσ5, gi_si_ne (Or.inl (by decide))])) (by first | omega | assumption | rfl) (by omega)
