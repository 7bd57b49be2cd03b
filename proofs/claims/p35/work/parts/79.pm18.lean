/-! a condition that is read: how high the pile would stand -/
theorem BL_tr {σ0 σ σ' : Sg} (h : BL σ0 σ) (g : BL σ σ') (hs : (gi σ0 74 24).toInt ≤ (gi σ 74 24).toInt) : BL σ0 σ' := fun k hk => (g k (by omega)).trans (h k hk)
theorem BL_si {σ0 σ : Sg} {a k : Nat} {v : Int32} (h : BL σ0 σ) (ha : a ≠ 122) : BL σ0 (si σ a k v) := fun j hj => (gi_si_ne (Or.inl (fun e => ha e.symm))).trans (h j hj)
theorem tnc {x y : Int32} (h : x.toInt = y.toInt) : x.toNatClampNeg = y.toNatClampNeg := congrArg Int.toNat h
noncomputable def TI (σ0 σ : Sg) (h : Nat) : Prop := OKP σ (gi σ0 74 24).toNatClampNeg (gi σ 74 24).toNatClampNeg (nbw σ (gi σ 74 25).toNatClampNeg + h)
theorem TI_start {σ0 σ : Sg} (h24 : (gi σ 74 24).toInt = (gi σ0 74 24).toInt) (h25 : (gi σ 74 25).toInt = 0) : TI σ0 σ 0 := by
  unfold TI
  rw [tnc h24, show (gi σ 74 25).toNatClampNeg = 0 from congrArg Int.toNat h25]
  exact OKP_0
theorem TI_eq {σ0 σ σ' : Sg} {h : Nat} (q : TI σ0 σ h) (h24 : (gi σ' 74 24).toInt = (gi σ 74 24).toInt) (h25 : (gi σ' 74 25).toInt = (gi σ 74 25).toInt) (e2 : ∀ k, gi σ' 122 k = gi σ 122 k) (e3 : ∀ k, gi σ' 123 k = gi σ 123 k) : TI σ0 σ' h := by
  unfold TI at q ⊢
  rw [tnc h24, tnc h25, nbw_eq (fun k _ => e3 k)]
  exact OKP_eq (fun k _ => e2 k) q
theorem TI_push {σ0 σ σ' : Sg} {h h' : Nat} {x : Int32} (q : TI σ0 σ h) (w0 : 0 ≤ (gi σ 74 25).toInt) (h24 : (gi σ' 74 24).toInt = (gi σ 74 24).toInt) (h25 : (gi σ' 74 25).toInt = (gi σ 74 25).toInt + 1) (e2 : ∀ k, gi σ' 122 k = gi σ 122 k) (e3 : ∀ k, ¬ k = (gi σ 74 25).toNatClampNeg → gi σ' 123 k = gi σ 123 k) (top : gi σ' 123 (gi σ 74 25).toNatClampNeg = x) (hh : ((x = 38 ∨ x = 124) ∧ h = h' + 1) ∨ (¬ (x = 38 ∨ x = 124) ∧ h = h')) : TI σ0 σ' h' := by
  unfold TI at q ⊢
  have c1 := cl_eq w0
  have c2 := cl_eq (x := gi σ' 74 25) (by omega)
  rw [tnc h24, show (gi σ' 74 25).toNatClampNeg = (gi σ 74 25).toNatClampNeg + 1 from by omega]
  have e : nbw σ' (gi σ 74 25).toNatClampNeg = nbw σ (gi σ 74 25).toNatClampNeg := nbw_eq (fun k hk => e3 k (by omega))
  rcases hh with ⟨hx, e9⟩ | ⟨hx, e9⟩
  · rw [nbw_y (by rw [top]; exact hx), e]
    rw [e9] at q
    rw [show nbw σ (gi σ 74 25).toNatClampNeg + 1 + h' = nbw σ (gi σ 74 25).toNatClampNeg + (h' + 1) from by omega]
    exact OKP_eq (fun k _ => e2 k) q
  · rw [nbw_n (by rw [top]; exact hx), e]
    rw [e9] at q
    exact OKP_eq (fun k _ => e2 k) q
theorem TI_pop {σ0 σ σ' : Sg} {h : Nat} (q : TI σ0 σ h) (w0 : 1 ≤ (gi σ 74 25).toInt) (top : ¬ (gi σ 123 ((gi σ 74 25) - 1).toNatClampNeg = 38 ∨ gi σ 123 ((gi σ 74 25) - 1).toNatClampNeg = 124)) (h24 : (gi σ' 74 24).toInt = (gi σ 74 24).toInt) (h25 : (gi σ' 74 25).toInt = (gi σ 74 25).toInt - 1) (e1 : ((gi σ 74 25) - 1).toInt = (gi σ 74 25).toInt - 1) (e2 : ∀ k, gi σ' 122 k = gi σ 122 k) (e3 : ∀ k, gi σ' 123 k = gi σ 123 k) : TI σ0 σ' h := by
  unfold TI at q ⊢
  have c1 := cl_eq (x := gi σ 74 25) (by omega)
  have c2 := cl_eq (x := gi σ' 74 25) (by omega)
  have c3 := cl_eq (x := (gi σ 74 25) - 1) (by omega)
  rw [show (gi σ 74 25).toNatClampNeg = (gi σ' 74 25).toNatClampNeg + 1 from by omega] at q
  rw [show ((gi σ 74 25) - 1).toNatClampNeg = (gi σ' 74 25).toNatClampNeg from by omega] at top
  rw [nbw_n top] at q
  rw [tnc h24, nbw_eq (fun k _ => e3 k)]
  exact OKP_eq (fun k _ => e2 k) q
theorem TI_settle {σ0 σ σ' : Sg} (q : TI σ0 σ 1) (p : HS σ σ') (e : nbw σ' (gi σ' 74 25).toNatClampNeg = nbw σ (gi σ' 74 25).toNatClampNeg) : TI σ0 σ' 1 := by
  unfold TI
  rw [e]
  exact p _ q
theorem TI_whole {σ0 σ σ' : Sg} (q : TI σ0 σ 1) (p : HK σ σ') (e : nbw σ' (gi σ' 74 25).toNatClampNeg = nbw σ (gi σ 74 25).toNatClampNeg) : TI σ0 σ' 1 := by
  unfold TI
  rw [e]
  exact p _ _ (by omega) q
theorem TI_test {σ0 σ σ' : Sg} (q : TI σ0 σ 0) (p : HT σ σ') (e : nbw σ' (gi σ' 74 25).toNatClampNeg = nbw σ (gi σ 74 25).toNatClampNeg) (h0 : 0 ≤ (gi σ 74 25).toInt) (h1 : (gi σ 74 25).toInt ≤ 99) : TI σ0 σ' 1 := by
  have c := cl_eq h0
  have n := nbw_le σ (gi σ 74 25).toNatClampNeg
  unfold TI
  rw [e]
  exact p _ _ (by omega) q
noncomputable def TW (σ0 σ : Sg) (x : Int32) : Prop := (x = 0 → TI σ0 σ 1) ∧ (¬ x = 0 → TI σ0 σ 0)
theorem TW_0 {σ0 σ : Sg} {x : Int32} (h : x = 0) (q : TI σ0 σ 1) : TW σ0 σ x := ⟨fun _ => q, fun z => absurd h z⟩
theorem TW_1 {σ0 σ : Sg} {x : Int32} (h : ¬ x = 0) (q : TI σ0 σ 0) : TW σ0 σ x := ⟨fun z => absurd z h, fun _ => q⟩
noncomputable def K120 (σ0 σ : Sg) (c : Nat) : Prop := gi σ 120 c = gi σ0 74 24 ∧ ∀ k, ¬ k = c → gi σ 120 k = gi σ0 120 k ∧ gi σ 121 k = gi σ0 121 k
theorem K120_fr {S F : List Nat} {σ0 σ σ' : Sg} {c : Nat} (h : K120 σ0 σ c) (f : Fr S F σ σ') (h1 : 120 ∉ S) (h2 : 121 ∉ S) : K120 σ0 σ' c :=
  ⟨(congrFun (f.1 120 h1).1 c).trans h.1, fun k hk => ⟨(congrFun (f.1 120 h1).1 k).trans (h.2 k hk).1, (congrFun (f.1 121 h2).1 k).trans (h.2 k hk).2⟩⟩
theorem K120_si {σ0 σ : Sg} {a j c : Nat} {v : Int32} (h : K120 σ0 σ c) (ha : a ≠ 120 ∧ a ≠ 121) : K120 σ0 (si σ a j v) c :=
  ⟨(gi_si_ne (Or.inl (Ne.symm ha.1))).trans h.1, fun k hk => ⟨(gi_si_ne (Or.inl (Ne.symm ha.1))).trans (h.2 k hk).1, (gi_si_ne (Or.inl (Ne.symm ha.2))).trans (h.2 k hk).2⟩⟩
theorem K120_to {σ0 σ : Sg} {c : Nat} {v : Int32} (h : K120 σ0 σ c) : K120 σ0 (si σ 121 c v) c :=
  ⟨(gi_si_ne (Or.inl (by decide))).trans h.1, fun k hk => ⟨(gi_si_ne (Or.inl (by decide))).trans (h.2 k hk).1, (gi_si_ne (Or.inr hk)).trans (h.2 k hk).2⟩⟩
theorem K120_mk {σ0 σ1 σ2 σ4 : Sg} {c : Nat} {x y : Int32} (e1 : σ1 = si σ0 74 25 x) (e2 : σ2 = si σ1 74 26 y) (e4 : σ4 = si σ2 120 c (gi σ2 74 24)) : K120 σ0 σ4 c := by
  subst e4 e2 e1
  refine ⟨?_, fun k hk => ⟨?_, ?_⟩⟩
  · rw [gi_si_eq, gi_si_ne (Or.inr (by decide)), gi_si_ne (Or.inr (by decide))]
  · rw [gi_si_ne (Or.inr hk), gi_si_ne (Or.inl (by decide)), gi_si_ne (Or.inl (by decide))]
  · rw [gi_si_ne (Or.inl (by decide)), gi_si_ne (Or.inl (by decide)), gi_si_ne (Or.inl (by decide))]
theorem settle_top {σ σ' : Sg} {c : Nat} {a v : Int32} (p : (gi σ 74 25).toInt = 0 ∨ (¬ gi σ 123 ((gi σ 74 25) - (1 : Int32)).toNatClampNeg = 38 ∧ (¬ a = 38 → ¬ gi σ 123 ((gi σ 74 25) - (1 : Int32)).toNatClampNeg = 124))) (ha : ¬ a = 38) (e : σ' = si σ 121 c v) (h : ¬ (gi σ' 74 25) = 0) : ¬ (gi σ' 123 ((gi σ' 74 25) - 1).toNatClampNeg = 38 ∨ gi σ' 123 ((gi σ' 74 25) - 1).toNatClampNeg = 124) := by
  subst e
  rw [gi_si_ne (Or.inl (by decide))] at h
  rw [gi_si_ne (Or.inl (by decide)), gi_si_ne (Or.inl (by decide))]
  rcases p with p | p
  · exact absurd (Int32.toInt_inj.mp p) h
  · exact fun z => z.elim p.1 (p.2 ha)
noncomputable def TE (σ σ' : Sg) (c : Nat) : Prop := OKP σ' (gi σ 74 24).toNatClampNeg (gi σ' 74 24).toNatClampNeg 1 ∧ BL σ σ' ∧ gi σ' 120 c = gi σ 74 24 ∧ gi σ' 121 c = gi σ' 74 24 ∧ ∀ k, ¬ k = c → gi σ' 120 k = gi σ 120 k ∧ gi σ' 121 k = gi σ 121 k
theorem TE_mk {σ0 σ : Sg} {c : Nat} (q : TI σ0 σ 1) (w : (gi σ 74 25).toInt = 0) (b : BL σ0 σ) (k : K120 σ0 σ c) (t : gi σ 121 c = gi σ 74 24) : TE σ0 σ c := by
  unfold TI at q
  rw [show (gi σ 74 25).toNatClampNeg = 0 from congrArg Int.toNat w] at q
  exact ⟨q, b, k.1, t, k.2⟩
set_option maxRecDepth 100000 in
set_option maxHeartbeats 4000000 in
theorem k_X12_takesE {l : Launch} {V : Vx} {a1 : Int32} {σ0 : Sg} {Qk : Int32 → Sg → Prop} (m0 : MI σ0) (l_a1 : 0 ≤ a1.toInt) (u_a1 : a1.toInt ≤ 59) (pre0 : (gi σ0 74 12).toInt < (gi σ0 74 11).toInt) (pre1 : (gi σ0 74 50).toInt < (gi σ0 74 11).toInt) (pre2 : 100 * (gi σ0 74 11).toInt ≤ (gi σ0 74 24).toInt) (pre3 : (gi σ0 74 24).toInt + 1 ≤ 100 * (gi σ0 74 11).toInt + (gi σ0 74 14).toInt) (pre4 : (gi σ0 74 14).toInt ≤ (gi σ0 74 13).toInt) (pre5 : (gi σ0 74 11).toInt ≤ 5) (pre6 : 10 * (gi σ0 74 11).toInt ≤ a1.toInt) (h9ret : ∀ (r : Int32) (σ' : Sg), MI σ' → Fr [74, 120, 121, 122, 123] [14, 15, 24, 25, 26] σ0 σ' → (0 ≤ r.toInt) → (r.toInt ≤ 1) → ((gi σ0 74 14).toInt ≤ (gi σ' 74 14).toInt) → ((gi σ' 74 14).toInt ≤ (gi σ0 74 13).toInt) → ((r.toInt = 1 ∧ (gi σ0 74 24).toInt ≤ (gi σ' 74 24).toInt ∧ (gi σ' 74 24).toInt + 1 ≤ 100 * (gi σ0 74 11).toInt + (gi σ' 74 14).toInt) ∨ r.toInt = 0) → (hid (r.toInt = 1 → TE σ0 σ' a1.toNatClampNeg)) → Qk r σ') : K_X12_takesE l V a1 σ0 Qk := by
  refine e_X12_takesE (fun M hl hV hN C => ?_)
  subst hl
  subst hV
  have T : ∀ n : Nat, (∀ (x1 : Int32) (x2 : Int32) (σ : Sg), MI σ → Fr [74, 120, 121, 122, 123] [14, 15, 24, 25, 26] σ0 σ → (0 ≤ x1.toInt) → (x1.toInt ≤ 59) → (x1 = a1) → (BL σ0 σ) → ((gi σ0 74 24).toInt ≤ (gi σ 74 24).toInt) → ((gi σ 74 24).toInt + (gi σ 74 25).toInt + 1 ≤ 100 * (gi σ 74 11).toInt + (gi σ 74 14).toInt) → ((gi σ 74 14).toInt ≤ (gi σ 74 13).toInt) → ((gi σ 74 12).toInt < (gi σ 74 11).toInt) → ((gi σ 74 50).toInt < (gi σ 74 11).toInt) → ((gi σ 74 11).toInt ≤ 5) → (100 * (gi σ 74 11).toInt ≤ (gi σ 74 24).toInt) → (10 * (gi σ 74 11).toInt ≤ x1.toInt) → (K120 σ0 σ x1.toNatClampNeg) → ((gi σ0 74 14).toInt ≤ (gi σ 74 14).toInt) → ((gi σ 74 13).toInt = (gi σ0 74 13).toInt) → ((gi σ 74 11).toInt = (gi σ0 74 11).toInt) → (TW σ0 σ x2) → (101 - (gi σ 74 14).toInt).toNat * 2 + 1 < n → PS M 22 [(0, .ref 74), (1, .int x1), (2, .int x2)] [] σ (0, 0)) ∧ (∀ (x1 : Int32) (x3 : Int32) (σ : Sg), MI σ → Fr [74, 120, 121, 122, 123] [14, 15, 24, 25, 26] σ0 σ → (0 ≤ x1.toInt) → (x1.toInt ≤ 59) → (x1 = a1) → (BL σ0 σ) → ((gi σ0 74 24).toInt ≤ (gi σ 74 24).toInt) → ((gi σ 74 24).toInt + (gi σ 74 25).toInt + 1 ≤ 100 * (gi σ 74 11).toInt + (gi σ 74 14).toInt) → ((gi σ 74 14).toInt ≤ (gi σ 74 13).toInt) → ((gi σ 74 12).toInt < (gi σ 74 11).toInt) → ((gi σ 74 50).toInt < (gi σ 74 11).toInt) → ((gi σ 74 11).toInt ≤ 5) → (100 * (gi σ 74 11).toInt ≤ (gi σ 74 24).toInt) → (10 * (gi σ 74 11).toInt ≤ x1.toInt) → (K120 σ0 σ x1.toNatClampNeg) → ((gi σ0 74 14).toInt ≤ (gi σ 74 14).toInt) → ((gi σ 74 13).toInt = (gi σ0 74 13).toInt) → ((gi σ 74 11).toInt = (gi σ0 74 11).toInt) → (TI σ0 σ 1) → ((gi σ 74 14).toInt < (gi σ 74 13).toInt) → (x3 = 38 ∨ x3 = 124) → (101 - (gi σ 74 14).toInt).toNat * 2 < n → PS M 122 [(0, .ref 74), (1, .int x1), (3, .int x3)] [] σ (0, 0)) ∧ (∀ (x1 : Int32) (x2 : Int32) (x3 : Int32) (σ : Sg), MI σ → Fr [74, 120, 121, 122, 123] [14, 15, 24, 25, 26] σ0 σ → (0 ≤ x1.toInt) → (x1.toInt ≤ 59) → (x1 = a1) → (BL σ0 σ) → ((gi σ0 74 24).toInt ≤ (gi σ 74 24).toInt) → ((gi σ 74 24).toInt + (gi σ 74 25).toInt + 1 ≤ 100 * (gi σ 74 11).toInt + (gi σ 74 14).toInt) → ((gi σ 74 14).toInt ≤ (gi σ 74 13).toInt) → ((gi σ 74 12).toInt < (gi σ 74 11).toInt) → ((gi σ 74 50).toInt < (gi σ 74 11).toInt) → ((gi σ 74 11).toInt ≤ 5) → (100 * (gi σ 74 11).toInt ≤ (gi σ 74 24).toInt) → (10 * (gi σ 74 11).toInt ≤ x1.toInt) → (K120 σ0 σ x1.toNatClampNeg) → ((gi σ0 74 14).toInt ≤ (gi σ 74 14).toInt) → ((gi σ 74 13).toInt = (gi σ0 74 13).toInt) → ((gi σ 74 11).toInt = (gi σ0 74 11).toInt) → (¬ x2 = 0) → (TI σ0 σ 0) → ((gi σ 74 14).toInt < (gi σ 74 13).toInt) → (x3 = 33 ∨ x3 = 40) → (101 - (gi σ 74 14).toInt).toNat * 2 < n → PS M 43 [(0, .ref 74), (1, .int x1), (2, .int x2), (3, .int x3)] [] σ (0, 0)) := by
    intro n
    induction n with
    | zero => exact ⟨fun _ _ _ _ _ _ _ _ _ _ _ _ _ _ _ _ _ _ _ _ _ _ h8 => absurd h8 (Nat.not_lt_zero _), fun _ _ _ _ _ _ _ _ _ _ _ _ _ _ _ _ _ _ _ _ _ _ _ _ h8 => absurd h8 (Nat.not_lt_zero _), fun _ _ _ _ _ _ _ _ _ _ _ _ _ _ _ _ _ _ _ _ _ _ _ _ _ _ h8 => absurd h8 (Nat.not_lt_zero _)⟩
    | succ n ih =>
      obtain ⟨ih22, ih122, ih43⟩ := ih
      refine ⟨?_, ?_, ?_⟩
      · intro x1 x2 σ mσ fσ lx1 ux1 i0 i1 i2 i3 i4 i5 i6 i7 i8 i9 i10 i11 i12 i13 i14 hmu
        have mw24 := MI_f24 mσ
        have mw25 := MI_f25 mσ
        have mw13 := MI_f13 mσ
        have e_x1 := cl_eq (x := x1) (by omega)
        have i0n : x1.toNatClampNeg = a1.toNatClampNeg := by rw [i0]
        refine s_X12_takesE_22 C hN ?_
        refine k_X12_next mσ  (fun r2 σ1 mσ1 cσ1 (pσ1_0 : r2.toInt = (nxt σ).toInt) => ?_)
        obtain rfl := Fr_nil cσ1
        have hlt := fun h9 => nxt_lt (by assumption : MI σ) h9
        have fd9 := MI_f13 (by assumption : MI σ)
        refine ⟨?_, ?_⟩
        · intro q_1
          have w_2 := Int32.toInt_lt x2
          have w_3 := Int32.le_toInt x2
          have b_4 : x2.toInt = 0 := congrArg Int32.toInt q_1
          have hT9 : TI σ0 σ 1 := i14.1 q_1
          refine ⟨?_, ?_⟩
          · intro q_5
            have w_6 := Int32.toInt_lt r2
            have w_7 := Int32.le_toInt r2
            have b_8 : r2.toInt = 38 := congrArg Int32.toInt q_5
            exact ih122 x1 r2 σ mσ fσ (by omega) (by omega) (by first | omega | assumption | rfl) (by first | omega | assumption | rfl) (by first | omega | assumption | rfl) (by first | omega | assumption | rfl) (by first | omega | assumption | rfl) (by first | omega | assumption | rfl) (by first | omega | assumption | rfl) (by first | omega | assumption | rfl) (by first | omega | assumption | rfl) (by first | omega | assumption | rfl) (by first | omega | assumption | rfl) (by first | omega | assumption | rfl) (by first | omega | assumption | rfl) (by first | omega | assumption | rfl) (by first | omega | assumption | rfl) (by first | omega | assumption | rfl) (by first | exact Or.inl (by assumption) | exact Or.inr (by assumption)) (by omega)
          · intro q_5
            have w_9 := Int32.toInt_lt r2
            have w_10 := Int32.le_toInt r2
            have b_11 : ¬ r2.toInt = 38 := fun h9 => q_5 (Int32.toInt_inj.mp h9)
            refine ⟨?_, ?_⟩
            · intro q_12
              have b_13 : ¬ r2.toInt = 124 := fun h9 => q_12 (Int32.toInt_inj.mp h9)
              refine k_X12_settle mσ (by first | omega | assumption | rfl) (by first | omega | assumption | rfl) (by first | omega | assumption | rfl) (by first | omega | assumption | rfl) (fun σ6 mσ6 cσ6 (pσ6_0 : HS σ σ6) (pσ6_1 : (gi σ6 74 24).toInt + (gi σ6 74 25).toInt = (gi σ 74 24).toInt + (gi σ 74 25).toInt) (pσ6_2 : (gi σ6 74 25).toInt ≤ (gi σ 74 25).toInt) (pσ6_3 : nbw σ6 (gi σ6 74 25).toNatClampNeg = nbw σ (gi σ6 74 25).toNatClampNeg) (pσ6_4 : (gi σ6 74 25).toInt = 0 ∨ (¬ gi σ6 123 ((gi σ6 74 25) - (1 : Int32)).toNatClampNeg = 38 ∧ (¬ (124 : Int32) = 38 → ¬ gi σ6 123 ((gi σ6 74 25) - (1 : Int32)).toNatClampNeg = 124))) (pσ6_5 : BL σ σ6) (pσ6_6 : (gi σ 74 24).toInt ≤ (gi σ6 74 24).toInt) => ?_)
              have fσ6 : Fr [74, 120, 121, 122, 123] [14, 15, 24, 25, 26] σ0 σ6 := Fr_tr fσ cσ6 (by decide) (by decide)
              have k_14 : (gi σ6 74 11).toInt = (gi σ 74 11).toInt := congrArg Int32.toInt (cσ6.2.1 11 (by decide))
              have k_15 : (gi σ6 74 12).toInt = (gi σ 74 12).toInt := congrArg Int32.toInt (cσ6.2.1 12 (by decide))
              have k_16 : (gi σ6 74 13).toInt = (gi σ 74 13).toInt := congrArg Int32.toInt (cσ6.2.1 13 (by decide))
              have k_17 : (gi σ6 74 14).toInt = (gi σ 74 14).toInt := congrArg Int32.toInt (cσ6.2.1 14 (by decide))
              have k_18 : (gi σ6 74 50).toInt = (gi σ 74 50).toInt := congrArg Int32.toInt (cσ6.2.1 50 (by decide))
              have hK9 : K120 σ0 σ6 x1.toNatClampNeg := K120_fr (by assumption) cσ6 (by decide) (by decide)
              have hB9 : BL σ0 σ6 := BL_tr (by assumption) pσ6_5 (by omega)
              have hT9 : TI σ0 σ6 1 := TI_settle (σ := σ) (by assumption) pσ6_0 pσ6_3
              have hv_19 : vp_in x1 60 := vp_in_iff.mpr ⟨by omega, by omega⟩
              refine ⟨hv_19, ?_⟩
              intro σ8 eσ8
              have mσ8 : MI σ8 := by rw [eσ8]; exact MIs_au0 mσ6 rfl (FV_hi mσ6.2.2 (by decide) (by omega) (by omega) (by omega))
              have fσ8 : Fr [74, 120, 121, 122, 123] [14, 15, 24, 25, 26] σ0 σ8 := by rw [eσ8]; exact Fr_si fσ6 (by decide) (fun h9 => absurd h9 (by decide))
              have k_20 : (gi σ8 74 11).toInt = (gi σ6 74 11).toInt := by rw [eσ8]; exact congrArg Int32.toInt (gi_si_ne (Or.inl (by decide)))
              have k_21 : (gi σ8 74 12).toInt = (gi σ6 74 12).toInt := by rw [eσ8]; exact congrArg Int32.toInt (gi_si_ne (Or.inl (by decide)))
              have k_22 : (gi σ8 74 13).toInt = (gi σ6 74 13).toInt := by rw [eσ8]; exact congrArg Int32.toInt (gi_si_ne (Or.inl (by decide)))
              have k_23 : (gi σ8 74 14).toInt = (gi σ6 74 14).toInt := by rw [eσ8]; exact congrArg Int32.toInt (gi_si_ne (Or.inl (by decide)))
              have k_24 : (gi σ8 74 24).toInt = (gi σ6 74 24).toInt := by rw [eσ8]; exact congrArg Int32.toInt (gi_si_ne (Or.inl (by decide)))
              have k_25 : (gi σ8 74 25).toInt = (gi σ6 74 25).toInt := by rw [eσ8]; exact congrArg Int32.toInt (gi_si_ne (Or.inl (by decide)))
              have k_26 : (gi σ8 74 50).toInt = (gi σ6 74 50).toInt := by rw [eσ8]; exact congrArg Int32.toInt (gi_si_ne (Or.inl (by decide)))
              have hB9 : BL σ0 σ8 := by rw [eσ8]; exact BL_si (by assumption) (by decide)
              have hK9 : K120 σ0 σ8 x1.toNatClampNeg := by rw [eσ8]; first | exact K120_si (by assumption) (by decide) | exact K120_to (by assumption)
              try have hT9 : TI σ0 σ8 1 := by first | exact TI_eq (σ := σ6) (by assumption) (by omega) (by omega) (fun k => by rw [eσ8, gi_si_ne (Or.inl (by decide))]) (fun k => by rw [eσ8, gi_si_ne (Or.inl (by decide))]) | exact TI_pop (σ := σ6) (by assumption) (by omega) (by assumption) (by omega) (by omega) (by omega) (fun k => by rw [eσ8, gi_si_ne (Or.inl (by decide))]) (fun k => by rw [eσ8, gi_si_ne (Or.inl (by decide))])
              refine ⟨?_, ?_⟩
              · intro q_27
                have t_28 := MI_f25 mσ8
                have b_29 : ¬ (gi σ8 74 25).toInt = 0 := fun h9 => q_27 (Int32.toInt_inj.mp h9)
                have top9 := settle_top pσ6_4 (by decide) eσ8 q_27
                refine ⟨?_, ?_⟩
                · intro q_30
                  have b_31 : r2.toInt = 41 := congrArg Int32.toInt q_30
                  intro σ11 eσ11
                  have t_32 : ((gi σ8 74 25) - (1 : Int32)).toInt = (gi σ8 74 25).toInt - 1 := i_sub (x := (gi σ8 74 25)) (y := (1 : Int32)) (by show (_ : Int) ≤ (gi σ8 74 25).toInt - 1; omega) (by show (gi σ8 74 25).toInt - 1 ≤ (_ : Int); omega)
                  have mσ11 : MI σ11 := by rw [eσ11]; exact MIs_f25 mσ8 (by omega) (by omega)
                  have fσ11 : Fr [74, 120, 121, 122, 123] [14, 15, 24, 25, 26] σ0 σ11 := by rw [eσ11]; exact Fr_si fσ8 (by decide) (fun _ => by decide)
                  have k_33 : (gi σ11 74 11).toInt = (gi σ8 74 11).toInt := by rw [eσ11]; exact congrArg Int32.toInt (gi_si_ne (Or.inr (by decide)))
                  have k_34 : (gi σ11 74 12).toInt = (gi σ8 74 12).toInt := by rw [eσ11]; exact congrArg Int32.toInt (gi_si_ne (Or.inr (by decide)))
                  have k_35 : (gi σ11 74 13).toInt = (gi σ8 74 13).toInt := by rw [eσ11]; exact congrArg Int32.toInt (gi_si_ne (Or.inr (by decide)))
                  have k_36 : (gi σ11 74 14).toInt = (gi σ8 74 14).toInt := by rw [eσ11]; exact congrArg Int32.toInt (gi_si_ne (Or.inr (by decide)))
                  have k_37 : (gi σ11 74 24).toInt = (gi σ8 74 24).toInt := by rw [eσ11]; exact congrArg Int32.toInt (gi_si_ne (Or.inr (by decide)))
                  have k_38 : (gi σ11 74 25).toInt = ((gi σ8 74 25) - (1 : Int32)).toInt := by rw [eσ11]; exact congrArg Int32.toInt gi_si_eq
                  have k_39 : (gi σ11 74 50).toInt = (gi σ8 74 50).toInt := by rw [eσ11]; exact congrArg Int32.toInt (gi_si_ne (Or.inr (by decide)))
                  have hB9 : BL σ0 σ11 := by rw [eσ11]; exact BL_si (by assumption) (by decide)
                  have hK9 : K120 σ0 σ11 x1.toNatClampNeg := by rw [eσ11]; first | exact K120_si (by assumption) (by decide) | exact K120_to (by assumption)
                  try have hT9 : TI σ0 σ11 1 := by first | exact TI_eq (σ := σ8) (by assumption) (by omega) (by omega) (fun k => by rw [eσ11, gi_si_ne (Or.inl (by decide))]) (fun k => by rw [eσ11, gi_si_ne (Or.inl (by decide))]) | exact TI_pop (σ := σ8) (by assumption) (by omega) (by assumption) (by omega) (by omega) (by omega) (fun k => by rw [eσ11, gi_si_ne (Or.inl (by decide))]) (fun k => by rw [eσ11, gi_si_ne (Or.inl (by decide))])
                  intro σ12 eσ12
                  have mσ12 : MI σ12 := by rw [eσ12]; exact MIs_fu mσ11 (by decide)
                  have fσ12 : Fr [74, 120, 121, 122, 123] [14, 15, 24, 25, 26] σ0 σ12 := by rw [eσ12]; exact Fr_si fσ11 (by decide) (fun _ => by decide)
                  have k_40 : (gi σ12 74 11).toInt = (gi σ11 74 11).toInt := by rw [eσ12]; exact congrArg Int32.toInt (gi_si_ne (Or.inr (by decide)))
                  have k_41 : (gi σ12 74 12).toInt = (gi σ11 74 12).toInt := by rw [eσ12]; exact congrArg Int32.toInt (gi_si_ne (Or.inr (by decide)))
                  have k_42 : (gi σ12 74 13).toInt = (gi σ11 74 13).toInt := by rw [eσ12]; exact congrArg Int32.toInt (gi_si_ne (Or.inr (by decide)))
                  have k_43 : (gi σ12 74 14).toInt = (gi σ11 74 14).toInt := by rw [eσ12]; exact congrArg Int32.toInt (gi_si_ne (Or.inr (by decide)))
                  have k_44 : (gi σ12 74 24).toInt = (gi σ11 74 24).toInt := by rw [eσ12]; exact congrArg Int32.toInt (gi_si_ne (Or.inr (by decide)))
                  have k_45 : (gi σ12 74 25).toInt = (gi σ11 74 25).toInt := by rw [eσ12]; exact congrArg Int32.toInt (gi_si_ne (Or.inr (by decide)))
                  have k_46 : (gi σ12 74 50).toInt = (gi σ11 74 50).toInt := by rw [eσ12]; exact congrArg Int32.toInt (gi_si_ne (Or.inr (by decide)))
                  have hB9 : BL σ0 σ12 := by rw [eσ12]; exact BL_si (by assumption) (by decide)
                  have hK9 : K120 σ0 σ12 x1.toNatClampNeg := by rw [eσ12]; first | exact K120_si (by assumption) (by decide) | exact K120_to (by assumption)
                  try have hT9 : TI σ0 σ12 1 := by first | exact TI_eq (σ := σ11) (by assumption) (by omega) (by omega) (fun k => by rw [eσ12, gi_si_ne (Or.inl (by decide))]) (fun k => by rw [eσ12, gi_si_ne (Or.inl (by decide))]) | exact TI_pop (σ := σ11) (by assumption) (by omega) (by assumption) (by omega) (by omega) (by omega) (fun k => by rw [eσ12, gi_si_ne (Or.inl (by decide))]) (fun k => by rw [eσ12, gi_si_ne (Or.inl (by decide))])
                  intro σ13 eσ13
                  have t_47 := MI_f14 mσ12
                  have t_48 : ((gi σ12 74 14) + (1 : Int32)).toInt = (gi σ12 74 14).toInt + 1 := i_add (x := (gi σ12 74 14)) (y := (1 : Int32)) (by show (_ : Int) ≤ (gi σ12 74 14).toInt + 1; omega) (by show (gi σ12 74 14).toInt + 1 ≤ (_ : Int); omega)
                  have mσ13 : MI σ13 := by rw [eσ13]; exact MIs_f14 mσ12 (by omega) (by omega)
                  have fσ13 : Fr [74, 120, 121, 122, 123] [14, 15, 24, 25, 26] σ0 σ13 := by rw [eσ13]; exact Fr_si fσ12 (by decide) (fun _ => by decide)
                  have k_49 : (gi σ13 74 11).toInt = (gi σ12 74 11).toInt := by rw [eσ13]; exact congrArg Int32.toInt (gi_si_ne (Or.inr (by decide)))
                  have k_50 : (gi σ13 74 12).toInt = (gi σ12 74 12).toInt := by rw [eσ13]; exact congrArg Int32.toInt (gi_si_ne (Or.inr (by decide)))
                  have k_51 : (gi σ13 74 13).toInt = (gi σ12 74 13).toInt := by rw [eσ13]; exact congrArg Int32.toInt (gi_si_ne (Or.inr (by decide)))
                  have k_52 : (gi σ13 74 14).toInt = ((gi σ12 74 14) + (1 : Int32)).toInt := by rw [eσ13]; exact congrArg Int32.toInt gi_si_eq
                  have k_53 : (gi σ13 74 24).toInt = (gi σ12 74 24).toInt := by rw [eσ13]; exact congrArg Int32.toInt (gi_si_ne (Or.inr (by decide)))
                  have k_54 : (gi σ13 74 25).toInt = (gi σ12 74 25).toInt := by rw [eσ13]; exact congrArg Int32.toInt (gi_si_ne (Or.inr (by decide)))
                  have k_55 : (gi σ13 74 50).toInt = (gi σ12 74 50).toInt := by rw [eσ13]; exact congrArg Int32.toInt (gi_si_ne (Or.inr (by decide)))
                  have hB9 : BL σ0 σ13 := by rw [eσ13]; exact BL_si (by assumption) (by decide)
                  have hK9 : K120 σ0 σ13 x1.toNatClampNeg := by rw [eσ13]; first | exact K120_si (by assumption) (by decide) | exact K120_to (by assumption)
                  try have hT9 : TI σ0 σ13 1 := by first | exact TI_eq (σ := σ12) (by assumption) (by omega) (by omega) (fun k => by rw [eσ13, gi_si_ne (Or.inl (by decide))]) (fun k => by rw [eσ13, gi_si_ne (Or.inl (by decide))]) | exact TI_pop (σ := σ12) (by assumption) (by omega) (by assumption) (by omega) (by omega) (by omega) (fun k => by rw [eσ13, gi_si_ne (Or.inl (by decide))]) (fun k => by rw [eσ13, gi_si_ne (Or.inl (by decide))])
                  refine k_X12_whole mσ13 (by first | omega | assumption | rfl) (by first | omega | assumption | rfl) (by first | omega | assumption | rfl) (by first | omega | assumption | rfl) (fun σ14 mσ14 cσ14 (pσ14_0 : HK σ13 σ14) (pσ14_1 : (gi σ14 74 24).toInt + (gi σ14 74 25).toInt = (gi σ13 74 24).toInt + (gi σ13 74 25).toInt) (pσ14_2 : (gi σ14 74 25).toInt ≤ (gi σ13 74 25).toInt) (pσ14_3 : nbw σ14 (gi σ14 74 25).toNatClampNeg = nbw σ13 (gi σ13 74 25).toNatClampNeg) (pσ14_4 : BL σ13 σ14) (pσ14_5 : (gi σ13 74 24).toInt ≤ (gi σ14 74 24).toInt) => ?_)
                  have fσ14 : Fr [74, 120, 121, 122, 123] [14, 15, 24, 25, 26] σ0 σ14 := Fr_tr fσ13 cσ14 (by decide) (by decide)
                  have k_56 : (gi σ14 74 11).toInt = (gi σ13 74 11).toInt := congrArg Int32.toInt (cσ14.2.1 11 (by decide))
                  have k_57 : (gi σ14 74 12).toInt = (gi σ13 74 12).toInt := congrArg Int32.toInt (cσ14.2.1 12 (by decide))
                  have k_58 : (gi σ14 74 13).toInt = (gi σ13 74 13).toInt := congrArg Int32.toInt (cσ14.2.1 13 (by decide))
                  have k_59 : (gi σ14 74 14).toInt = (gi σ13 74 14).toInt := congrArg Int32.toInt (cσ14.2.1 14 (by decide))
                  have k_60 : (gi σ14 74 50).toInt = (gi σ13 74 50).toInt := congrArg Int32.toInt (cσ14.2.1 50 (by decide))
                  have hK9 : K120 σ0 σ14 x1.toNatClampNeg := K120_fr (by assumption) cσ14 (by decide) (by decide)
                  have hB9 : BL σ0 σ14 := BL_tr (by assumption) pσ14_4 (by omega)
                  have hT9 : TI σ0 σ14 1 := TI_whole (σ := σ13) (by assumption) pσ14_0 pσ14_3
                  exact ih22 x1 x2 σ14 mσ14 fσ14 (by omega) (by omega) (by first | omega | assumption | rfl) (by first | omega | assumption | rfl) (by first | omega | assumption | rfl) (by first | omega | assumption | rfl) (by first | omega | assumption | rfl) (by first | omega | assumption | rfl) (by first | omega | assumption | rfl) (by first | omega | assumption | rfl) (by first | omega | assumption | rfl) (by first | omega | assumption | rfl) (by first | assumption | exact K120_mk eσ1 eσ2 eσ4) (by first | omega | assumption | rfl) (by first | omega | assumption | rfl) (by first | omega | assumption | rfl) (by first | exact TW_0 (by assumption) (by assumption) | exact TW_0 rfl (by assumption) | exact TW_1 (by decide) (TI_start (by omega) (by omega)) | exact TW_1 (by decide) (@TI_push σ0 σ1 σ5 1 0 x3 (by assumption) (by omega) (by omega) (by omega) (fun k => by rw [eσ5, gi_si_ne (Or.inl (by decide)), eσ4, gi_si_ne (Or.inl (by decide)), eσ3, gi_si_ne (Or.inl (by decide))]) (fun k hk => by rw [eσ5, gi_si_ne (Or.inl (by decide)), eσ4, gi_si_ne (Or.inl (by decide)), eσ3, gi_si_ne (Or.inr hk)]) (by rw [eσ5, gi_si_ne (Or.inl (by decide)), eσ4, gi_si_ne (Or.inl (by decide)), eσ3, gi_si_eq]) (Or.inl ⟨by assumption, rfl⟩)) | exact TW_1 (by assumption) (@TI_push σ0 σ σ6 0 0 x3 (by assumption) (by omega) (by omega) (by omega) (fun k => by rw [eσ6, gi_si_ne (Or.inl (by decide)), eσ5, gi_si_ne (Or.inl (by decide)), eσ4, gi_si_ne (Or.inl (by decide)), eσ2, gi_si_ne (Or.inl (by decide))]) (fun k hk => by rw [eσ6, gi_si_ne (Or.inl (by decide)), eσ5, gi_si_ne (Or.inl (by decide)), eσ4, show gi σ2 74 25 = gi σ 74 25 from by rw [eσ2, gi_si_ne (Or.inr (by decide))], gi_si_ne (Or.inr hk), eσ2, gi_si_ne (Or.inl (by decide))]) (by rw [eσ6, gi_si_ne (Or.inl (by decide)), eσ5, gi_si_ne (Or.inl (by decide)), eσ4, show gi σ2 74 25 = gi σ 74 25 from by rw [eσ2, gi_si_ne (Or.inr (by decide))], gi_si_eq]) (Or.inr ⟨by rcases i17 with z | z <;> rw [z] <;> decide, rfl⟩))) (by omega)
                · intro q_30
                  have b_61 : ¬ r2.toInt = 41 := fun h9 => q_30 (Int32.toInt_inj.mp h9)
                  have z_62 : (0 : Int32).toInt = 0 := rfl
                  exact h9ret (0 : Int32) σ8 mσ8 fσ8 (by omega) (by omega) (by first | omega | assumption | rfl) (by first | omega | assumption | rfl) (by first | omega | assumption | rfl) (by first | exact fun z => absurd z (by decide) | exact fun _ => by rw [← i0n]; exact TE_mk (by assumption) (by omega) (by assumption) (by assumption) (by rw [eσ8, gi_si_eq, gi_si_ne (Or.inl (by decide))]))
              · intro q_27
                have t_63 := MI_f25 mσ8
                have b_64 : (gi σ8 74 25).toInt = 0 := congrArg Int32.toInt q_27
                have z_65 : (1 : Int32).toInt = 1 := rfl
                exact h9ret (1 : Int32) σ8 mσ8 fσ8 (by omega) (by omega) (by first | omega | assumption | rfl) (by first | omega | assumption | rfl) (by first | omega | assumption | rfl) (by first | exact fun z => absurd z (by decide) | exact fun _ => by rw [← i0n]; exact TE_mk (by assumption) (by omega) (by assumption) (by assumption) (by rw [eσ8, gi_si_eq, gi_si_ne (Or.inl (by decide))]))
            · intro q_12
              have b_66 : r2.toInt = 124 := congrArg Int32.toInt q_12
              exact ih122 x1 r2 σ mσ fσ (by omega) (by omega) (by first | omega | assumption | rfl) (by first | omega | assumption | rfl) (by first | omega | assumption | rfl) (by first | omega | assumption | rfl) (by first | omega | assumption | rfl) (by first | omega | assumption | rfl) (by first | omega | assumption | rfl) (by first | omega | assumption | rfl) (by first | omega | assumption | rfl) (by first | omega | assumption | rfl) (by first | omega | assumption | rfl) (by first | omega | assumption | rfl) (by first | omega | assumption | rfl) (by first | omega | assumption | rfl) (by first | omega | assumption | rfl) (by first | omega | assumption | rfl) (by first | exact Or.inl (by assumption) | exact Or.inr (by assumption)) (by omega)
        · intro q_1
          have w_67 := Int32.toInt_lt x2
          have w_68 := Int32.le_toInt x2
          have b_69 : ¬ x2.toInt = 0 := fun h9 => q_1 (Int32.toInt_inj.mp h9)
          have hT9 : TI σ0 σ 0 := i14.2 q_1
          refine ⟨?_, ?_⟩
          · intro q_70
            have w_71 := Int32.toInt_lt r2
            have w_72 := Int32.le_toInt r2
            have b_73 : r2.toInt = 33 := congrArg Int32.toInt q_70
            exact ih43 x1 x2 r2 σ mσ fσ (by omega) (by omega) (by first | omega | assumption | rfl) (by first | omega | assumption | rfl) (by first | omega | assumption | rfl) (by first | omega | assumption | rfl) (by first | omega | assumption | rfl) (by first | omega | assumption | rfl) (by first | omega | assumption | rfl) (by first | omega | assumption | rfl) (by first | omega | assumption | rfl) (by first | omega | assumption | rfl) (by first | omega | assumption | rfl) (by first | omega | assumption | rfl) (by first | omega | assumption | rfl) (by first | omega | assumption | rfl) (by first | omega | assumption | rfl) (by first | omega | assumption | rfl) (by first | omega | assumption | rfl) (by first | exact Or.inl (by assumption) | exact Or.inr (by assumption)) (by omega)
          · intro q_70
            have w_74 := Int32.toInt_lt r2
            have w_75 := Int32.le_toInt r2
            have b_76 : ¬ r2.toInt = 33 := fun h9 => q_70 (Int32.toInt_inj.mp h9)
            refine ⟨?_, ?_⟩
            · intro q_77
              have b_78 : ¬ r2.toInt = 40 := fun h9 => q_77 (Int32.toInt_inj.mp h9)
              refine k_X12_takesTest mσ (by first | omega | assumption | rfl) (by first | omega | assumption | rfl) (by first | omega | assumption | rfl) (by first | omega | assumption | rfl) (by first | omega | assumption | rfl) (by first | omega | assumption | rfl) (fun r18 σ17 mσ17 cσ17 plσ17 phσ17 (pσ17_0 : (gi σ 74 14).toInt ≤ (gi σ17 74 14).toInt) (pσ17_1 : (gi σ17 74 14).toInt ≤ (gi σ 74 13).toInt) (pσ17_2 : (r18.toInt = 1 ∧ (gi σ 74 14).toInt + 2 ≤ (gi σ17 74 14).toInt ∧ (gi σ17 74 24).toInt + (gi σ17 74 25).toInt = (gi σ 74 24).toInt + (gi σ 74 25).toInt + 1 ∧ (gi σ17 74 25).toInt ≤ (gi σ 74 25).toInt) ∨ r18.toInt = 0) (pσ17_3 : hid (r18.toInt = 1 → HT σ σ17 ∧ nbw σ17 (gi σ17 74 25).toNatClampNeg = nbw σ (gi σ 74 25).toNatClampNeg ∧ BL σ σ17)) => ?_)
              have fσ17 : Fr [74, 120, 121, 122, 123] [14, 15, 24, 25, 26] σ0 σ17 := Fr_tr fσ cσ17 (by decide) (by decide)
              have k_79 : (gi σ17 74 11).toInt = (gi σ 74 11).toInt := congrArg Int32.toInt (cσ17.2.1 11 (by decide))
              have k_80 : (gi σ17 74 12).toInt = (gi σ 74 12).toInt := congrArg Int32.toInt (cσ17.2.1 12 (by decide))
              have k_81 : (gi σ17 74 13).toInt = (gi σ 74 13).toInt := congrArg Int32.toInt (cσ17.2.1 13 (by decide))
              have k_82 : (gi σ17 74 50).toInt = (gi σ 74 50).toInt := congrArg Int32.toInt (cσ17.2.1 50 (by decide))
              have hK9 : K120 σ0 σ17 x1.toNatClampNeg := K120_fr (by assumption) cσ17 (by decide) (by decide)
              refine ⟨?_, ?_⟩
              · intro q_83
                have b_84 : r18.toInt = 0 := congrArg Int32.toInt q_83
                have z_85 : (0 : Int32).toInt = 0 := rfl
                exact h9ret (0 : Int32) σ17 mσ17 fσ17 (by omega) (by omega) (by first | omega | assumption | rfl) (by first | omega | assumption | rfl) (by first | omega | assumption | rfl) (by first | exact fun z => absurd z (by decide) | exact fun _ => by rw [← i0n]; exact TE_mk (by assumption) (by omega) (by assumption) (by assumption) (by rw [eσ8, gi_si_eq, gi_si_ne (Or.inl (by decide))]))
              · intro q_83
                have b_86 : ¬ r18.toInt = 0 := fun h9 => q_83 (Int32.toInt_inj.mp h9)
                obtain ⟨p9a, p9b, p9c⟩ := un pσ17_3 (by omega)
                have hB9 : BL σ0 σ17 := BL_tr (by assumption) p9c (by omega)
                have hT9 : TI σ0 σ17 1 := TI_test (by assumption) p9a p9b (by omega) (by omega)
                have z_87 : (0 : Int32).toInt = 0 := rfl
                exact ih22 x1 (0 : Int32) σ17 mσ17 fσ17 (by omega) (by omega) (by first | omega | assumption | rfl) (by first | omega | assumption | rfl) (by first | omega | assumption | rfl) (by first | omega | assumption | rfl) (by first | omega | assumption | rfl) (by first | omega | assumption | rfl) (by first | omega | assumption | rfl) (by first | omega | assumption | rfl) (by first | omega | assumption | rfl) (by first | omega | assumption | rfl) (by first | assumption | exact K120_mk eσ1 eσ2 eσ4) (by first | omega | assumption | rfl) (by first | omega | assumption | rfl) (by first | omega | assumption | rfl) (by first | exact TW_0 (by assumption) (by assumption) | exact TW_0 rfl (by assumption) | exact TW_1 (by decide) (TI_start (by omega) (by omega)) | exact TW_1 (by decide) (@TI_push σ0 σ1 σ5 1 0 x3 (by assumption) (by omega) (by omega) (by omega) (fun k => by rw [eσ5, gi_si_ne (Or.inl (by decide)), eσ4, gi_si_ne (Or.inl (by decide)), eσ3, gi_si_ne (Or.inl (by decide))]) (fun k hk => by rw [eσ5, gi_si_ne (Or.inl (by decide)), eσ4, gi_si_ne (Or.inl (by decide)), eσ3, gi_si_ne (Or.inr hk)]) (by rw [eσ5, gi_si_ne (Or.inl (by decide)), eσ4, gi_si_ne (Or.inl (by decide)), eσ3, gi_si_eq]) (Or.inl ⟨by assumption, rfl⟩)) | exact TW_1 (by assumption) (@TI_push σ0 σ σ6 0 0 x3 (by assumption) (by omega) (by omega) (by omega) (fun k => by rw [eσ6, gi_si_ne (Or.inl (by decide)), eσ5, gi_si_ne (Or.inl (by decide)), eσ4, gi_si_ne (Or.inl (by decide)), eσ2, gi_si_ne (Or.inl (by decide))]) (fun k hk => by rw [eσ6, gi_si_ne (Or.inl (by decide)), eσ5, gi_si_ne (Or.inl (by decide)), eσ4, show gi σ2 74 25 = gi σ 74 25 from by rw [eσ2, gi_si_ne (Or.inr (by decide))], gi_si_ne (Or.inr hk), eσ2, gi_si_ne (Or.inl (by decide))]) (by rw [eσ6, gi_si_ne (Or.inl (by decide)), eσ5, gi_si_ne (Or.inl (by decide)), eσ4, show gi σ2 74 25 = gi σ 74 25 from by rw [eσ2, gi_si_ne (Or.inr (by decide))], gi_si_eq]) (Or.inr ⟨by rcases i17 with z | z <;> rw [z] <;> decide, rfl⟩))) (by omega)
            · intro q_77
              have b_88 : r2.toInt = 40 := congrArg Int32.toInt q_77
              exact ih43 x1 x2 r2 σ mσ fσ (by omega) (by omega) (by first | omega | assumption | rfl) (by first | omega | assumption | rfl) (by first | omega | assumption | rfl) (by first | omega | assumption | rfl) (by first | omega | assumption | rfl) (by first | omega | assumption | rfl) (by first | omega | assumption | rfl) (by first | omega | assumption | rfl) (by first | omega | assumption | rfl) (by first | omega | assumption | rfl) (by first | omega | assumption | rfl) (by first | omega | assumption | rfl) (by first | omega | assumption | rfl) (by first | omega | assumption | rfl) (by first | omega | assumption | rfl) (by first | omega | assumption | rfl) (by first | omega | assumption | rfl) (by first | exact Or.inl (by assumption) | exact Or.inr (by assumption)) (by omega)
      · intro x1 x3 σ mσ fσ lx1 ux1 i0 i1 i2 i3 i4 i5 i6 i7 i8 i9 i10 i11 i12 i13 i14 i15 i16 hmu
        have mw24 := MI_f24 mσ
        have mw25 := MI_f25 mσ
        have mw13 := MI_f13 mσ
        have e_x1 := cl_eq (x := x1) (by omega)
        have i0n : x1.toNatClampNeg = a1.toNatClampNeg := by rw [i0]
        refine s_X12_takesE_122 C hN ?_
        refine k_X12_settle mσ (by first | omega | assumption | rfl) (by first | omega | assumption | rfl) (by first | omega | assumption | rfl) (by first | omega | assumption | rfl) (fun σ1 mσ1 cσ1 (pσ1_0 : HS σ σ1) (pσ1_1 : (gi σ1 74 24).toInt + (gi σ1 74 25).toInt = (gi σ 74 24).toInt + (gi σ 74 25).toInt) (pσ1_2 : (gi σ1 74 25).toInt ≤ (gi σ 74 25).toInt) (pσ1_3 : nbw σ1 (gi σ1 74 25).toNatClampNeg = nbw σ (gi σ1 74 25).toNatClampNeg) (pσ1_4 : (gi σ1 74 25).toInt = 0 ∨ (¬ gi σ1 123 ((gi σ1 74 25) - (1 : Int32)).toNatClampNeg = 38 ∧ (¬ x3 = 38 → ¬ gi σ1 123 ((gi σ1 74 25) - (1 : Int32)).toNatClampNeg = 124))) (pσ1_5 : BL σ σ1) (pσ1_6 : (gi σ 74 24).toInt ≤ (gi σ1 74 24).toInt) => ?_)
        have fσ1 : Fr [74, 120, 121, 122, 123] [14, 15, 24, 25, 26] σ0 σ1 := Fr_tr fσ cσ1 (by decide) (by decide)
        have k_89 : (gi σ1 74 11).toInt = (gi σ 74 11).toInt := congrArg Int32.toInt (cσ1.2.1 11 (by decide))
        have k_90 : (gi σ1 74 12).toInt = (gi σ 74 12).toInt := congrArg Int32.toInt (cσ1.2.1 12 (by decide))
        have k_91 : (gi σ1 74 13).toInt = (gi σ 74 13).toInt := congrArg Int32.toInt (cσ1.2.1 13 (by decide))
        have k_92 : (gi σ1 74 14).toInt = (gi σ 74 14).toInt := congrArg Int32.toInt (cσ1.2.1 14 (by decide))
        have k_93 : (gi σ1 74 50).toInt = (gi σ 74 50).toInt := congrArg Int32.toInt (cσ1.2.1 50 (by decide))
        have hK9 : K120 σ0 σ1 x1.toNatClampNeg := K120_fr (by assumption) cσ1 (by decide) (by decide)
        have hB9 : BL σ0 σ1 := BL_tr (by assumption) pσ1_5 (by omega)
        have hT9 : TI σ0 σ1 1 := TI_settle (σ := σ) (by assumption) pσ1_0 pσ1_3
        have t_94 := MI_f25 mσ1
        have hv_95 : vp_in (gi σ1 74 25) 101 := vp_in_iff.mpr ⟨by omega, by omega⟩
        refine ⟨hv_95, ?_⟩
        intro σ3 eσ3
        have mσ3 : MI σ3 := by rw [eσ3]; exact MIs_au (a := 123) mσ1 rfl rfl
        have fσ3 : Fr [74, 120, 121, 122, 123] [14, 15, 24, 25, 26] σ0 σ3 := by rw [eσ3]; exact Fr_si fσ1 (by decide) (fun h9 => absurd h9 (by decide))
        have k_96 : (gi σ3 74 11).toInt = (gi σ1 74 11).toInt := by rw [eσ3]; exact congrArg Int32.toInt (gi_si_ne (Or.inl (by decide)))
        have k_97 : (gi σ3 74 12).toInt = (gi σ1 74 12).toInt := by rw [eσ3]; exact congrArg Int32.toInt (gi_si_ne (Or.inl (by decide)))
        have k_98 : (gi σ3 74 13).toInt = (gi σ1 74 13).toInt := by rw [eσ3]; exact congrArg Int32.toInt (gi_si_ne (Or.inl (by decide)))
        have k_99 : (gi σ3 74 14).toInt = (gi σ1 74 14).toInt := by rw [eσ3]; exact congrArg Int32.toInt (gi_si_ne (Or.inl (by decide)))
        have k_100 : (gi σ3 74 24).toInt = (gi σ1 74 24).toInt := by rw [eσ3]; exact congrArg Int32.toInt (gi_si_ne (Or.inl (by decide)))
        have k_101 : (gi σ3 74 25).toInt = (gi σ1 74 25).toInt := by rw [eσ3]; exact congrArg Int32.toInt (gi_si_ne (Or.inl (by decide)))
        have k_102 : (gi σ3 74 50).toInt = (gi σ1 74 50).toInt := by rw [eσ3]; exact congrArg Int32.toInt (gi_si_ne (Or.inl (by decide)))
        have hB9 : BL σ0 σ3 := by rw [eσ3]; exact BL_si (by assumption) (by decide)
        have hK9 : K120 σ0 σ3 x1.toNatClampNeg := by rw [eσ3]; first | exact K120_si (by assumption) (by decide) | exact K120_to (by assumption)
        try have hT9 : TI σ0 σ3 1 := by first | exact TI_eq (σ := σ1) (by assumption) (by omega) (by omega) (fun k => by rw [eσ3, gi_si_ne (Or.inl (by decide))]) (fun k => by rw [eσ3, gi_si_ne (Or.inl (by decide))]) | exact TI_pop (σ := σ1) (by assumption) (by omega) (by assumption) (by omega) (by omega) (by omega) (fun k => by rw [eσ3, gi_si_ne (Or.inl (by decide))]) (fun k => by rw [eσ3, gi_si_ne (Or.inl (by decide))])
        intro σ4 eσ4
        have t_103 := MI_f25 mσ3
        have t_104 : ((gi σ3 74 25) + (1 : Int32)).toInt = (gi σ3 74 25).toInt + 1 := i_add (x := (gi σ3 74 25)) (y := (1 : Int32)) (by show (_ : Int) ≤ (gi σ3 74 25).toInt + 1; omega) (by show (gi σ3 74 25).toInt + 1 ≤ (_ : Int); omega)
        have mσ4 : MI σ4 := by rw [eσ4]; exact MIs_f25 mσ3 (by omega) (by omega)
        have fσ4 : Fr [74, 120, 121, 122, 123] [14, 15, 24, 25, 26] σ0 σ4 := by rw [eσ4]; exact Fr_si fσ3 (by decide) (fun _ => by decide)
        have k_105 : (gi σ4 74 11).toInt = (gi σ3 74 11).toInt := by rw [eσ4]; exact congrArg Int32.toInt (gi_si_ne (Or.inr (by decide)))
        have k_106 : (gi σ4 74 12).toInt = (gi σ3 74 12).toInt := by rw [eσ4]; exact congrArg Int32.toInt (gi_si_ne (Or.inr (by decide)))
        have k_107 : (gi σ4 74 13).toInt = (gi σ3 74 13).toInt := by rw [eσ4]; exact congrArg Int32.toInt (gi_si_ne (Or.inr (by decide)))
        have k_108 : (gi σ4 74 14).toInt = (gi σ3 74 14).toInt := by rw [eσ4]; exact congrArg Int32.toInt (gi_si_ne (Or.inr (by decide)))
        have k_109 : (gi σ4 74 24).toInt = (gi σ3 74 24).toInt := by rw [eσ4]; exact congrArg Int32.toInt (gi_si_ne (Or.inr (by decide)))
        have k_110 : (gi σ4 74 25).toInt = ((gi σ3 74 25) + (1 : Int32)).toInt := by rw [eσ4]; exact congrArg Int32.toInt gi_si_eq
        have k_111 : (gi σ4 74 50).toInt = (gi σ3 74 50).toInt := by rw [eσ4]; exact congrArg Int32.toInt (gi_si_ne (Or.inr (by decide)))
        have hB9 : BL σ0 σ4 := by rw [eσ4]; exact BL_si (by assumption) (by decide)
        have hK9 : K120 σ0 σ4 x1.toNatClampNeg := by rw [eσ4]; first | exact K120_si (by assumption) (by decide) | exact K120_to (by assumption)
        try have hT9 : TI σ0 σ4 1 := by first | exact TI_eq (σ := σ3) (by assumption) (by omega) (by omega) (fun k => by rw [eσ4, gi_si_ne (Or.inl (by decide))]) (fun k => by rw [eσ4, gi_si_ne (Or.inl (by decide))]) | exact TI_pop (σ := σ3) (by assumption) (by omega) (by assumption) (by omega) (by omega) (by omega) (fun k => by rw [eσ4, gi_si_ne (Or.inl (by decide))]) (fun k => by rw [eσ4, gi_si_ne (Or.inl (by decide))])
        intro σ5 eσ5
        have t_112 := MI_f14 mσ4
        have t_113 : ((gi σ4 74 14) + (1 : Int32)).toInt = (gi σ4 74 14).toInt + 1 := i_add (x := (gi σ4 74 14)) (y := (1 : Int32)) (by show (_ : Int) ≤ (gi σ4 74 14).toInt + 1; omega) (by show (gi σ4 74 14).toInt + 1 ≤ (_ : Int); omega)
        have mσ5 : MI σ5 := by rw [eσ5]; exact MIs_f14 mσ4 (by omega) (by omega)
        have fσ5 : Fr [74, 120, 121, 122, 123] [14, 15, 24, 25, 26] σ0 σ5 := by rw [eσ5]; exact Fr_si fσ4 (by decide) (fun _ => by decide)
        have k_114 : (gi σ5 74 11).toInt = (gi σ4 74 11).toInt := by rw [eσ5]; exact congrArg Int32.toInt (gi_si_ne (Or.inr (by decide)))
        have k_115 : (gi σ5 74 12).toInt = (gi σ4 74 12).toInt := by rw [eσ5]; exact congrArg Int32.toInt (gi_si_ne (Or.inr (by decide)))
        have k_116 : (gi σ5 74 13).toInt = (gi σ4 74 13).toInt := by rw [eσ5]; exact congrArg Int32.toInt (gi_si_ne (Or.inr (by decide)))
        have k_117 : (gi σ5 74 14).toInt = ((gi σ4 74 14) + (1 : Int32)).toInt := by rw [eσ5]; exact congrArg Int32.toInt gi_si_eq
        have k_118 : (gi σ5 74 24).toInt = (gi σ4 74 24).toInt := by rw [eσ5]; exact congrArg Int32.toInt (gi_si_ne (Or.inr (by decide)))
        have k_119 : (gi σ5 74 25).toInt = (gi σ4 74 25).toInt := by rw [eσ5]; exact congrArg Int32.toInt (gi_si_ne (Or.inr (by decide)))
        have k_120 : (gi σ5 74 50).toInt = (gi σ4 74 50).toInt := by rw [eσ5]; exact congrArg Int32.toInt (gi_si_ne (Or.inr (by decide)))
        have hB9 : BL σ0 σ5 := by rw [eσ5]; exact BL_si (by assumption) (by decide)
        have hK9 : K120 σ0 σ5 x1.toNatClampNeg := by rw [eσ5]; first | exact K120_si (by assumption) (by decide) | exact K120_to (by assumption)
        try have hT9 : TI σ0 σ5 1 := by first | exact TI_eq (σ := σ4) (by assumption) (by omega) (by omega) (fun k => by rw [eσ5, gi_si_ne (Or.inl (by decide))]) (fun k => by rw [eσ5, gi_si_ne (Or.inl (by decide))]) | exact TI_pop (σ := σ4) (by assumption) (by omega) (by assumption) (by omega) (by omega) (by omega) (fun k => by rw [eσ5, gi_si_ne (Or.inl (by decide))]) (fun k => by rw [eσ5, gi_si_ne (Or.inl (by decide))])
        have z_121 : (1 : Int32).toInt = 1 := rfl
        exact ih22 x1 (1 : Int32) σ5 mσ5 fσ5 (by omega) (by omega) (by first | omega | assumption | rfl) (by first | omega | assumption | rfl) (by first | omega | assumption | rfl) (by first | omega | assumption | rfl) (by first | omega | assumption | rfl) (by first | omega | assumption | rfl) (by first | omega | assumption | rfl) (by first | omega | assumption | rfl) (by first | omega | assumption | rfl) (by first | omega | assumption | rfl) (by first | assumption | exact K120_mk eσ1 eσ2 eσ4) (by first | omega | assumption | rfl) (by first | omega | assumption | rfl) (by first | omega | assumption | rfl) (by first | exact TW_0 (by assumption) (by assumption) | exact TW_0 rfl (by assumption) | exact TW_1 (by decide) (TI_start (by omega) (by omega)) | exact TW_1 (by decide) (@TI_push σ0 σ1 σ5 1 0 x3 (by assumption) (by omega) (by omega) (by omega) (fun k => by rw [eσ5, gi_si_ne (Or.inl (by decide)), eσ4, gi_si_ne (Or.inl (by decide)), eσ3, gi_si_ne (Or.inl (by decide))]) (fun k hk => by rw [eσ5, gi_si_ne (Or.inl (by decide)), eσ4, gi_si_ne (Or.inl (by decide)), eσ3, gi_si_ne (Or.inr hk)]) (by rw [eσ5, gi_si_ne (Or.inl (by decide)), eσ4, gi_si_ne (Or.inl (by decide)), eσ3, gi_si_eq]) (Or.inl ⟨by assumption, rfl⟩)) | exact TW_1 (by assumption) (@TI_push σ0 σ σ6 0 0 x3 (by assumption) (by omega) (by omega) (by omega) (fun k => by rw [eσ6, gi_si_ne (Or.inl (by decide)), eσ5, gi_si_ne (Or.inl (by decide)), eσ4, gi_si_ne (Or.inl (by decide)), eσ2, gi_si_ne (Or.inl (by decide))]) (fun k hk => by rw [eσ6, gi_si_ne (Or.inl (by decide)), eσ5, gi_si_ne (Or.inl (by decide)), eσ4, show gi σ2 74 25 = gi σ 74 25 from by rw [eσ2, gi_si_ne (Or.inr (by decide))], gi_si_ne (Or.inr hk), eσ2, gi_si_ne (Or.inl (by decide))]) (by rw [eσ6, gi_si_ne (Or.inl (by decide)), eσ5, gi_si_ne (Or.inl (by decide)), eσ4, show gi σ2 74 25 = gi σ 74 25 from by rw [eσ2, gi_si_ne (Or.inr (by decide))], gi_si_eq]) (Or.inr ⟨by rcases i17 with z | z <;> rw [z] <;> decide, rfl⟩))) (by omega)
      · intro x1 x2 x3 σ mσ fσ lx1 ux1 i0 i1 i2 i3 i4 i5 i6 i7 i8 i9 i10 i11 i12 i13 i14 i15 i16 i17 hmu
        have mw24 := MI_f24 mσ
        have mw25 := MI_f25 mσ
        have mw13 := MI_f13 mσ
        have e_x1 := cl_eq (x := x1) (by omega)
        have i0n : x1.toNatClampNeg = a1.toNatClampNeg := by rw [i0]
        refine s_X12_takesE_43 C hN ?_
        refine ⟨?_, ?_⟩
        · intro q_122
          have b_123 : ¬ (gi σ 74 26).toInt = 4 := fun h9 => q_122 (Int32.toInt_inj.mp h9)
          intro σ2 eσ2
          have mσ2 : MI σ2 := by rw [eσ2]; exact MIs_fu mσ (by decide)
          have fσ2 : Fr [74, 120, 121, 122, 123] [14, 15, 24, 25, 26] σ0 σ2 := by rw [eσ2]; exact Fr_si fσ (by decide) (fun _ => by decide)
          have k_124 : (gi σ2 74 11).toInt = (gi σ 74 11).toInt := by rw [eσ2]; exact congrArg Int32.toInt (gi_si_ne (Or.inr (by decide)))
          have k_125 : (gi σ2 74 12).toInt = (gi σ 74 12).toInt := by rw [eσ2]; exact congrArg Int32.toInt (gi_si_ne (Or.inr (by decide)))
          have k_126 : (gi σ2 74 13).toInt = (gi σ 74 13).toInt := by rw [eσ2]; exact congrArg Int32.toInt (gi_si_ne (Or.inr (by decide)))
          have k_127 : (gi σ2 74 14).toInt = (gi σ 74 14).toInt := by rw [eσ2]; exact congrArg Int32.toInt (gi_si_ne (Or.inr (by decide)))
          have k_128 : (gi σ2 74 24).toInt = (gi σ 74 24).toInt := by rw [eσ2]; exact congrArg Int32.toInt (gi_si_ne (Or.inr (by decide)))
          have k_129 : (gi σ2 74 25).toInt = (gi σ 74 25).toInt := by rw [eσ2]; exact congrArg Int32.toInt (gi_si_ne (Or.inr (by decide)))
          have k_130 : (gi σ2 74 26).toInt = ((gi σ 74 26) + (1 : Int32)).toInt := by rw [eσ2]; exact congrArg Int32.toInt gi_si_eq
          have k_131 : (gi σ2 74 50).toInt = (gi σ 74 50).toInt := by rw [eσ2]; exact congrArg Int32.toInt (gi_si_ne (Or.inr (by decide)))
          have hB9 : BL σ0 σ2 := by rw [eσ2]; exact BL_si (by assumption) (by decide)
          have hK9 : K120 σ0 σ2 x1.toNatClampNeg := by rw [eσ2]; first | exact K120_si (by assumption) (by decide) | exact K120_to (by assumption)
          try have hT9 : TI σ0 σ2 1 := by first | exact TI_eq (σ := σ) (by assumption) (by omega) (by omega) (fun k => by rw [eσ2, gi_si_ne (Or.inl (by decide))]) (fun k => by rw [eσ2, gi_si_ne (Or.inl (by decide))]) | exact TI_pop (σ := σ) (by assumption) (by omega) (by assumption) (by omega) (by omega) (by omega) (fun k => by rw [eσ2, gi_si_ne (Or.inl (by decide))]) (fun k => by rw [eσ2, gi_si_ne (Or.inl (by decide))])
          have t_132 := MI_f25 mσ2
          have hv_133 : vp_in (gi σ2 74 25) 101 := vp_in_iff.mpr ⟨by omega, by omega⟩
          refine ⟨hv_133, ?_⟩
          intro σ4 eσ4
          have mσ4 : MI σ4 := by rw [eσ4]; exact MIs_au (a := 123) mσ2 rfl rfl
          have fσ4 : Fr [74, 120, 121, 122, 123] [14, 15, 24, 25, 26] σ0 σ4 := by rw [eσ4]; exact Fr_si fσ2 (by decide) (fun h9 => absurd h9 (by decide))
          have k_134 : (gi σ4 74 11).toInt = (gi σ2 74 11).toInt := by rw [eσ4]; exact congrArg Int32.toInt (gi_si_ne (Or.inl (by decide)))
          have k_135 : (gi σ4 74 12).toInt = (gi σ2 74 12).toInt := by rw [eσ4]; exact congrArg Int32.toInt (gi_si_ne (Or.inl (by decide)))
          have k_136 : (gi σ4 74 13).toInt = (gi σ2 74 13).toInt := by rw [eσ4]; exact congrArg Int32.toInt (gi_si_ne (Or.inl (by decide)))
          have k_137 : (gi σ4 74 14).toInt = (gi σ2 74 14).toInt := by rw [eσ4]; exact congrArg Int32.toInt (gi_si_ne (Or.inl (by decide)))
          have k_138 : (gi σ4 74 24).toInt = (gi σ2 74 24).toInt := by rw [eσ4]; exact congrArg Int32.toInt (gi_si_ne (Or.inl (by decide)))
          have k_139 : (gi σ4 74 25).toInt = (gi σ2 74 25).toInt := by rw [eσ4]; exact congrArg Int32.toInt (gi_si_ne (Or.inl (by decide)))
          have k_140 : (gi σ4 74 26).toInt = (gi σ2 74 26).toInt := by rw [eσ4]; exact congrArg Int32.toInt (gi_si_ne (Or.inl (by decide)))
          have k_141 : (gi σ4 74 50).toInt = (gi σ2 74 50).toInt := by rw [eσ4]; exact congrArg Int32.toInt (gi_si_ne (Or.inl (by decide)))
          have hB9 : BL σ0 σ4 := by rw [eσ4]; exact BL_si (by assumption) (by decide)
          have hK9 : K120 σ0 σ4 x1.toNatClampNeg := by rw [eσ4]; first | exact K120_si (by assumption) (by decide) | exact K120_to (by assumption)
          try have hT9 : TI σ0 σ4 1 := by first | exact TI_eq (σ := σ2) (by assumption) (by omega) (by omega) (fun k => by rw [eσ4, gi_si_ne (Or.inl (by decide))]) (fun k => by rw [eσ4, gi_si_ne (Or.inl (by decide))]) | exact TI_pop (σ := σ2) (by assumption) (by omega) (by assumption) (by omega) (by omega) (by omega) (fun k => by rw [eσ4, gi_si_ne (Or.inl (by decide))]) (fun k => by rw [eσ4, gi_si_ne (Or.inl (by decide))])
          intro σ5 eσ5
          have t_142 := MI_f25 mσ4
          have t_143 : ((gi σ4 74 25) + (1 : Int32)).toInt = (gi σ4 74 25).toInt + 1 := i_add (x := (gi σ4 74 25)) (y := (1 : Int32)) (by show (_ : Int) ≤ (gi σ4 74 25).toInt + 1; omega) (by show (gi σ4 74 25).toInt + 1 ≤ (_ : Int); omega)
          have mσ5 : MI σ5 := by rw [eσ5]; exact MIs_f25 mσ4 (by omega) (by omega)
          have fσ5 : Fr [74, 120, 121, 122, 123] [14, 15, 24, 25, 26] σ0 σ5 := by rw [eσ5]; exact Fr_si fσ4 (by decide) (fun _ => by decide)
          have k_144 : (gi σ5 74 11).toInt = (gi σ4 74 11).toInt := by rw [eσ5]; exact congrArg Int32.toInt (gi_si_ne (Or.inr (by decide)))
          have k_145 : (gi σ5 74 12).toInt = (gi σ4 74 12).toInt := by rw [eσ5]; exact congrArg Int32.toInt (gi_si_ne (Or.inr (by decide)))
          have k_146 : (gi σ5 74 13).toInt = (gi σ4 74 13).toInt := by rw [eσ5]; exact congrArg Int32.toInt (gi_si_ne (Or.inr (by decide)))
          have k_147 : (gi σ5 74 14).toInt = (gi σ4 74 14).toInt := by rw [eσ5]; exact congrArg Int32.toInt (gi_si_ne (Or.inr (by decide)))
          have k_148 : (gi σ5 74 24).toInt = (gi σ4 74 24).toInt := by rw [eσ5]; exact congrArg Int32.toInt (gi_si_ne (Or.inr (by decide)))
          have k_149 : (gi σ5 74 25).toInt = ((gi σ4 74 25) + (1 : Int32)).toInt := by rw [eσ5]; exact congrArg Int32.toInt gi_si_eq
          have k_150 : (gi σ5 74 26).toInt = (gi σ4 74 26).toInt := by rw [eσ5]; exact congrArg Int32.toInt (gi_si_ne (Or.inr (by decide)))
          have k_151 : (gi σ5 74 50).toInt = (gi σ4 74 50).toInt := by rw [eσ5]; exact congrArg Int32.toInt (gi_si_ne (Or.inr (by decide)))
          have hB9 : BL σ0 σ5 := by rw [eσ5]; exact BL_si (by assumption) (by decide)
          have hK9 : K120 σ0 σ5 x1.toNatClampNeg := by rw [eσ5]; first | exact K120_si (by assumption) (by decide) | exact K120_to (by assumption)
          try have hT9 : TI σ0 σ5 1 := by first | exact TI_eq (σ := σ4) (by assumption) (by omega) (by omega) (fun k => by rw [eσ5, gi_si_ne (Or.inl (by decide))]) (fun k => by rw [eσ5, gi_si_ne (Or.inl (by decide))]) | exact TI_pop (σ := σ4) (by assumption) (by omega) (by assumption) (by omega) (by omega) (by omega) (fun k => by rw [eσ5, gi_si_ne (Or.inl (by decide))]) (fun k => by rw [eσ5, gi_si_ne (Or.inl (by decide))])
          intro σ6 eσ6
          have t_152 := MI_f14 mσ5
          have t_153 : ((gi σ5 74 14) + (1 : Int32)).toInt = (gi σ5 74 14).toInt + 1 := i_add (x := (gi σ5 74 14)) (y := (1 : Int32)) (by show (_ : Int) ≤ (gi σ5 74 14).toInt + 1; omega) (by show (gi σ5 74 14).toInt + 1 ≤ (_ : Int); omega)
          have mσ6 : MI σ6 := by rw [eσ6]; exact MIs_f14 mσ5 (by omega) (by omega)
          have fσ6 : Fr [74, 120, 121, 122, 123] [14, 15, 24, 25, 26] σ0 σ6 := by rw [eσ6]; exact Fr_si fσ5 (by decide) (fun _ => by decide)
          have k_154 : (gi σ6 74 11).toInt = (gi σ5 74 11).toInt := by rw [eσ6]; exact congrArg Int32.toInt (gi_si_ne (Or.inr (by decide)))
          have k_155 : (gi σ6 74 12).toInt = (gi σ5 74 12).toInt := by rw [eσ6]; exact congrArg Int32.toInt (gi_si_ne (Or.inr (by decide)))
          have k_156 : (gi σ6 74 13).toInt = (gi σ5 74 13).toInt := by rw [eσ6]; exact congrArg Int32.toInt (gi_si_ne (Or.inr (by decide)))
          have k_157 : (gi σ6 74 14).toInt = ((gi σ5 74 14) + (1 : Int32)).toInt := by rw [eσ6]; exact congrArg Int32.toInt gi_si_eq
          have k_158 : (gi σ6 74 24).toInt = (gi σ5 74 24).toInt := by rw [eσ6]; exact congrArg Int32.toInt (gi_si_ne (Or.inr (by decide)))
          have k_159 : (gi σ6 74 25).toInt = (gi σ5 74 25).toInt := by rw [eσ6]; exact congrArg Int32.toInt (gi_si_ne (Or.inr (by decide)))
          have k_160 : (gi σ6 74 26).toInt = (gi σ5 74 26).toInt := by rw [eσ6]; exact congrArg Int32.toInt (gi_si_ne (Or.inr (by decide)))
          have k_161 : (gi σ6 74 50).toInt = (gi σ5 74 50).toInt := by rw [eσ6]; exact congrArg Int32.toInt (gi_si_ne (Or.inr (by decide)))
          have hB9 : BL σ0 σ6 := by rw [eσ6]; exact BL_si (by assumption) (by decide)
          have hK9 : K120 σ0 σ6 x1.toNatClampNeg := by rw [eσ6]; first | exact K120_si (by assumption) (by decide) | exact K120_to (by assumption)
          try have hT9 : TI σ0 σ6 1 := by first | exact TI_eq (σ := σ5) (by assumption) (by omega) (by omega) (fun k => by rw [eσ6, gi_si_ne (Or.inl (by decide))]) (fun k => by rw [eσ6, gi_si_ne (Or.inl (by decide))]) | exact TI_pop (σ := σ5) (by assumption) (by omega) (by assumption) (by omega) (by omega) (by omega) (fun k => by rw [eσ6, gi_si_ne (Or.inl (by decide))]) (fun k => by rw [eσ6, gi_si_ne (Or.inl (by decide))])
          exact ih22 x1 x2 σ6 mσ6 fσ6 (by omega) (by omega) (by first | omega | assumption | rfl) (by first | omega | assumption | rfl) (by first | omega | assumption | rfl) (by first | omega | assumption | rfl) (by first | omega | assumption | rfl) (by first | omega | assumption | rfl) (by first | omega | assumption | rfl) (by first | omega | assumption | rfl) (by first | omega | assumption | rfl) (by first | omega | assumption | rfl) (by first | assumption | exact K120_mk eσ1 eσ2 eσ4) (by first | omega | assumption | rfl) (by first | omega | assumption | rfl) (by first | omega | assumption | rfl) (by first | exact TW_0 (by assumption) (by assumption) | exact TW_0 rfl (by assumption) | exact TW_1 (by decide) (TI_start (by omega) (by omega)) | exact TW_1 (by decide) (@TI_push σ0 σ1 σ5 1 0 x3 (by assumption) (by omega) (by omega) (by omega) (fun k => by rw [eσ5, gi_si_ne (Or.inl (by decide)), eσ4, gi_si_ne (Or.inl (by decide)), eσ3, gi_si_ne (Or.inl (by decide))]) (fun k hk => by rw [eσ5, gi_si_ne (Or.inl (by decide)), eσ4, gi_si_ne (Or.inl (by decide)), eσ3, gi_si_ne (Or.inr hk)]) (by rw [eσ5, gi_si_ne (Or.inl (by decide)), eσ4, gi_si_ne (Or.inl (by decide)), eσ3, gi_si_eq]) (Or.inl ⟨by assumption, rfl⟩)) | exact TW_1 (by assumption) (@TI_push σ0 σ σ6 0 0 x3 (by assumption) (by omega) (by omega) (by omega) (fun k => by rw [eσ6, gi_si_ne (Or.inl (by decide)), eσ5, gi_si_ne (Or.inl (by decide)), eσ4, gi_si_ne (Or.inl (by decide)), eσ2, gi_si_ne (Or.inl (by decide))]) (fun k hk => by rw [eσ6, gi_si_ne (Or.inl (by decide)), eσ5, gi_si_ne (Or.inl (by decide)), eσ4, show gi σ2 74 25 = gi σ 74 25 from by rw [eσ2, gi_si_ne (Or.inr (by decide))], gi_si_ne (Or.inr hk), eσ2, gi_si_ne (Or.inl (by decide))]) (by rw [eσ6, gi_si_ne (Or.inl (by decide)), eσ5, gi_si_ne (Or.inl (by decide)), eσ4, show gi σ2 74 25 = gi σ 74 25 from by rw [eσ2, gi_si_ne (Or.inr (by decide))], gi_si_eq]) (Or.inr ⟨by rcases i17 with z | z <;> rw [z] <;> decide, rfl⟩))) (by omega)
        · intro q_122
          have b_162 : (gi σ 74 26).toInt = 4 := congrArg Int32.toInt q_122
          have z_163 : (0 : Int32).toInt = 0 := rfl
          exact h9ret (0 : Int32) σ mσ fσ (by omega) (by omega) (by first | omega | assumption | rfl) (by first | omega | assumption | rfl) (by first | omega | assumption | rfl) (by first | exact fun z => absurd z (by decide) | exact fun _ => by rw [← i0n]; exact TE_mk (by assumption) (by omega) (by assumption) (by assumption) (by rw [eσ8, gi_si_eq, gi_si_ne (Or.inl (by decide))]))
  obtain ⟨U22, U122, U43⟩ := T 300
  have f0 : Fr [74, 120, 121, 122, 123] [14, 15, 24, 25, 26] σ0 σ0 := Fr_rf
  have e_a1 := cl_eq (x := a1) (by omega)
  have hB9 : BL σ0 σ0 := BL_rf
  have mw13 := MI_f13 m0
  have mw24 := MI_f24 m0
  refine s_X12_takesE_0 C hN ?_
  intro σ1 eσ1
  have z_164 : (0 : Int32).toInt = 0 := rfl
  have mσ1 : MI σ1 := by rw [eσ1]; exact MIs_f25 m0 (by omega) (by omega)
  have fσ1 : Fr [74, 120, 121, 122, 123] [14, 15, 24, 25, 26] σ0 σ1 := by rw [eσ1]; exact Fr_si f0 (by decide) (fun _ => by decide)
  have k_165 : (gi σ1 74 11).toInt = (gi σ0 74 11).toInt := by rw [eσ1]; exact congrArg Int32.toInt (gi_si_ne (Or.inr (by decide)))
  have k_166 : (gi σ1 74 12).toInt = (gi σ0 74 12).toInt := by rw [eσ1]; exact congrArg Int32.toInt (gi_si_ne (Or.inr (by decide)))
  have k_167 : (gi σ1 74 13).toInt = (gi σ0 74 13).toInt := by rw [eσ1]; exact congrArg Int32.toInt (gi_si_ne (Or.inr (by decide)))
  have k_168 : (gi σ1 74 14).toInt = (gi σ0 74 14).toInt := by rw [eσ1]; exact congrArg Int32.toInt (gi_si_ne (Or.inr (by decide)))
  have k_169 : (gi σ1 74 24).toInt = (gi σ0 74 24).toInt := by rw [eσ1]; exact congrArg Int32.toInt (gi_si_ne (Or.inr (by decide)))
  have k_170 : (gi σ1 74 25).toInt = 0 := by rw [eσ1]; exact congrArg Int32.toInt gi_si_eq
  have k_171 : (gi σ1 74 50).toInt = (gi σ0 74 50).toInt := by rw [eσ1]; exact congrArg Int32.toInt (gi_si_ne (Or.inr (by decide)))
  have hB9 : BL σ0 σ1 := by rw [eσ1]; exact BL_si (by assumption) (by decide)
  intro σ2 eσ2
  have mσ2 : MI σ2 := by rw [eσ2]; exact MIs_fu mσ1 (by decide)
  have fσ2 : Fr [74, 120, 121, 122, 123] [14, 15, 24, 25, 26] σ0 σ2 := by rw [eσ2]; exact Fr_si fσ1 (by decide) (fun _ => by decide)
  have k_172 : (gi σ2 74 11).toInt = (gi σ1 74 11).toInt := by rw [eσ2]; exact congrArg Int32.toInt (gi_si_ne (Or.inr (by decide)))
  have k_173 : (gi σ2 74 12).toInt = (gi σ1 74 12).toInt := by rw [eσ2]; exact congrArg Int32.toInt (gi_si_ne (Or.inr (by decide)))
  have k_174 : (gi σ2 74 13).toInt = (gi σ1 74 13).toInt := by rw [eσ2]; exact congrArg Int32.toInt (gi_si_ne (Or.inr (by decide)))
  have k_175 : (gi σ2 74 14).toInt = (gi σ1 74 14).toInt := by rw [eσ2]; exact congrArg Int32.toInt (gi_si_ne (Or.inr (by decide)))
  have k_176 : (gi σ2 74 24).toInt = (gi σ1 74 24).toInt := by rw [eσ2]; exact congrArg Int32.toInt (gi_si_ne (Or.inr (by decide)))
  have k_177 : (gi σ2 74 25).toInt = (gi σ1 74 25).toInt := by rw [eσ2]; exact congrArg Int32.toInt (gi_si_ne (Or.inr (by decide)))
  have k_178 : (gi σ2 74 50).toInt = (gi σ1 74 50).toInt := by rw [eσ2]; exact congrArg Int32.toInt (gi_si_ne (Or.inr (by decide)))
  have hB9 : BL σ0 σ2 := by rw [eσ2]; exact BL_si (by assumption) (by decide)
  have hv_179 : vp_in a1 60 := vp_in_iff.mpr ⟨by omega, by omega⟩
  refine ⟨hv_179, ?_⟩
  intro σ4 eσ4
  have mσ4 : MI σ4 := by rw [eσ4]; exact MIs_au0 mσ2 rfl (FV_hi mσ2.2.2 (by decide) (by omega) (by omega) (by omega))
  have fσ4 : Fr [74, 120, 121, 122, 123] [14, 15, 24, 25, 26] σ0 σ4 := by rw [eσ4]; exact Fr_si fσ2 (by decide) (fun h9 => absurd h9 (by decide))
  have k_180 : (gi σ4 74 11).toInt = (gi σ2 74 11).toInt := by rw [eσ4]; exact congrArg Int32.toInt (gi_si_ne (Or.inl (by decide)))
  have k_181 : (gi σ4 74 12).toInt = (gi σ2 74 12).toInt := by rw [eσ4]; exact congrArg Int32.toInt (gi_si_ne (Or.inl (by decide)))
  have k_182 : (gi σ4 74 13).toInt = (gi σ2 74 13).toInt := by rw [eσ4]; exact congrArg Int32.toInt (gi_si_ne (Or.inl (by decide)))
  have k_183 : (gi σ4 74 14).toInt = (gi σ2 74 14).toInt := by rw [eσ4]; exact congrArg Int32.toInt (gi_si_ne (Or.inl (by decide)))
  have k_184 : (gi σ4 74 24).toInt = (gi σ2 74 24).toInt := by rw [eσ4]; exact congrArg Int32.toInt (gi_si_ne (Or.inl (by decide)))
  have k_185 : (gi σ4 74 25).toInt = (gi σ2 74 25).toInt := by rw [eσ4]; exact congrArg Int32.toInt (gi_si_ne (Or.inl (by decide)))
  have k_186 : (gi σ4 74 50).toInt = (gi σ2 74 50).toInt := by rw [eσ4]; exact congrArg Int32.toInt (gi_si_ne (Or.inl (by decide)))
  have hB9 : BL σ0 σ4 := by rw [eσ4]; exact BL_si (by assumption) (by decide)
  have z_187 : (1 : Int32).toInt = 1 := rfl
  exact U22 a1 (1 : Int32) σ4 mσ4 fσ4 (by omega) (by omega) (by first | omega | assumption | rfl) (by first | omega | assumption | rfl) (by first | omega | assumption | rfl) (by first | omega | assumption | rfl) (by first | omega | assumption | rfl) (by first | omega | assumption | rfl) (by first | omega | assumption | rfl) (by first | omega | assumption | rfl) (by first | omega | assumption | rfl) (by first | omega | assumption | rfl) (by first | assumption | exact K120_mk eσ1 eσ2 eσ4) (by first | omega | assumption | rfl) (by first | omega | assumption | rfl) (by first | omega | assumption | rfl) (by first | exact TW_0 (by assumption) (by assumption) | exact TW_0 rfl (by assumption) | exact TW_1 (by decide) (TI_start (by omega) (by omega)) | exact TW_1 (by decide) (@TI_push σ0 σ1 σ5 1 0 x3 (by assumption) (by omega) (by omega) (by omega) (fun k => by rw [eσ5, gi_si_ne (Or.inl (by decide)), eσ4, gi_si_ne (Or.inl (by decide)), eσ3, gi_si_ne (Or.inl (by decide))]) (fun k hk => by rw [eσ5, gi_si_ne (Or.inl (by decide)), eσ4, gi_si_ne (Or.inl (by decide)), eσ3, gi_si_ne (Or.inr hk)]) (by rw [eσ5, gi_si_ne (Or.inl (by decide)), eσ4, gi_si_ne (Or.inl (by decide)), eσ3, gi_si_eq]) (Or.inl ⟨by assumption, rfl⟩)) | exact TW_1 (by assumption) (@TI_push σ0 σ0 σ6 0 0 x3 (by assumption) (by omega) (by omega) (by omega) (fun k => by rw [eσ6, gi_si_ne (Or.inl (by decide)), eσ5, gi_si_ne (Or.inl (by decide)), eσ4, gi_si_ne (Or.inl (by decide)), eσ2, gi_si_ne (Or.inl (by decide))]) (fun k hk => by rw [eσ6, gi_si_ne (Or.inl (by decide)), eσ5, gi_si_ne (Or.inl (by decide)), eσ4, show gi σ2 74 25 = gi σ0 74 25 from by rw [eσ2, gi_si_ne (Or.inr (by decide))], gi_si_ne (Or.inr hk), eσ2, gi_si_ne (Or.inl (by decide))]) (by rw [eσ6, gi_si_ne (Or.inl (by decide)), eσ5, gi_si_ne (Or.inl (by decide)), eσ4, show gi σ2 74 25 = gi σ0 74 25 from by rw [eσ2, gi_si_ne (Or.inr (by decide))], gi_si_eq]) (Or.inr ⟨by rcases i17 with z | z <;> rw [z] <;> decide, rfl⟩))) (by omega)
