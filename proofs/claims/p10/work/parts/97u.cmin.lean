/-! a minute in the class -/
noncomputable def CS (c0 n : Nat) (S : Stc) (σ : Sg) : Prop :=
  (gi σ c0 1).toInt = (n : Int) ∧ (gi σ c0 3).toInt = (S_r S : Int) ∧ (∀ p, p < S_r S → (gi σ (c0 + 2) p).toInt = (S_ln S p : Int))
  ∧ (∀ m, m < n → ∃ μ κ : Nat, gr σ (c0 + 1) m = some μ ∧ κ < 7 ∧ 2000 ≤ μ ∧ kd μ = (10 + cls κ, 0) ∧ S_kn S m = (κ : Int) ∧ (gi σ μ 0).toInt = (κ : Int) ∧ (gi σ μ 1).toInt = (m : Int) ∧ (gi σ μ 2).toInt = S_vv S m)
  ∧ (∀ k, k < 24 → (gi σ (c0 + 7) k).toInt = S_tl S k)
  ∧ (∃ f, gr σ c0 10 = some f ∧ (f = 69 ∨ 1000 ≤ f) ∧ FdA σ f (S_cl S)) ∧ S_tr S = (lastW 3 1 (S_cl S) : Int)
  ∧ ((0 ≤ (gi σ c0 11).toInt ∧ S_gp S = (gi σ c0 11).toInt) ∨ ((gi σ c0 11).toInt < 0 ∧ S_gp S = (lastW 2 2 (S_cl S) : Int)))
noncomputable def CDy (c0 n : Nat) (D : Dyn) (σ : Sg) : Prop := (gi σ c0 9).toInt = D_m D ∧ (∀ m, m < n → (gi σ (c0 + 3) m).toInt = D_at D m) ∧ (∀ m, m < n → (gi σ (c0 + 4) m).toInt = D_ed D m) ∧ (∀ m, m < n → (gi σ (c0 + 5) m).toInt = D_ti D m) ∧ (∀ m, m < n → (gi σ (c0 + 6) m).toInt = D_st D m)
noncomputable def RcC (c0 id k : Nat) : Prop := (id = c0 ∧ (k = 1 ∨ k = 3 ∨ k = 11)) ∨ id = c0 + 2 ∨ id = c0 + 7 ∨ (69 ≤ id ∧ id ≤ 73) ∨ 1000 ≤ id
theorem CS_eq {c0 n : Nat} {S : Stc} {σ σ' : Sg} (e : ∀ id k, RcC c0 id k → gi σ' id k = gi σ id k) (g : ∀ k, gr σ' (c0 + 1) k = gr σ (c0 + 1) k) (g10 : gr σ' c0 10 = gr σ c0 10) (h : CS c0 n S σ) : CS c0 n S σ' := by
  obtain ⟨h1, h2, h3, h4, h5, ⟨f, h6, h7, h8⟩, h9, h10⟩ := h
  have e11 : gi σ' c0 11 = gi σ c0 11 := e c0 11 (by unfold RcC; omega)
  refine ⟨by rw [e c0 1 (by unfold RcC; omega)]; exact h1, by rw [e c0 3 (by unfold RcC; omega)]; exact h2, fun p hp => by rw [e (c0 + 2) p (by unfold RcC; omega)]; exact h3 p hp, fun m hm => ?_, fun k hk => by rw [e (c0 + 7) k (by unfold RcC; omega)]; exact h5 k hk, ⟨f, by rw [g10]; exact h6, h7, FdA_eq (fun id k a b => e id k (by unfold RcC; omega)) h8⟩, h9, by rw [e11]; exact h10⟩
  obtain ⟨μ, κ, a1, a2, a3, a4, a5, a6, a7, a8⟩ := h4 m hm
  exact ⟨μ, κ, by rw [g]; exact a1, a2, a3, a4, a5, by rw [e μ 0 (by unfold RcC; omega)]; exact a6, by rw [e μ 1 (by unfold RcC; omega)]; exact a7, by rw [e μ 2 (by unfold RcC; omega)]; exact a8⟩
theorem CDy_eq {c0 n : Nat} {D : Dyn} {σ σ' : Sg} (e : ∀ id k, (id = c0 ∧ k = 9) ∨ (c0 + 3 ≤ id ∧ id ≤ c0 + 6) → gi σ' id k = gi σ id k) (h : CDy c0 n D σ) : CDy c0 n D σ' := by
  obtain ⟨h1, h2, h3, h4, h5⟩ := h
  exact ⟨by rw [e c0 9 (by omega)]; exact h1, fun m hm => by rw [e (c0 + 3) m (by omega)]; exact h2 m hm, fun m hm => by rw [e (c0 + 4) m (by omega)]; exact h3 m hm, fun m hm => by rw [e (c0 + 5) m (by omega)]; exact h4 m hm, fun m hm => by rw [e (c0 + 6) m (by omega)]; exact h5 m hm⟩
/-- scratch rows alone -/
noncomputable def FXs (c0 : Nat) (σ σ' : Sg) : Prop := FX (fun id => id = c0 + 14 ∨ id = c0 + 15) (fun _ _ => False) σ σ'
noncomputable def FXn (c0 n : Nat) (σ σ' : Sg) : Prop := FX (fun id => id = c0 + 14 ∨ id = c0 + 15) (fun id k => (id = c0 ∧ k = 9) ∨ (c0 + 3 ≤ id ∧ id ≤ c0 + 6 ∧ k < n)) σ σ'
theorem FXn_rf {c0 n : Nat} {σ : Sg} : FXn c0 n σ σ := FX_rf
theorem FXn_si {c0 n a k : Nat} {v : Int32} {σ σ1 : Sg} (f : FXn c0 n σ σ1) (h : c0 + 3 ≤ a ∧ a ≤ c0 + 6 ∧ k < n) : FXn c0 n σ (si σ1 a k v) := FX_si f (Or.inr (Or.inr h))
theorem FXs_tr {c0 : Nat} {σ σ1 σ2 : Sg} (f : FXs c0 σ σ1) (g : FXs c0 σ1 σ2) : FXs c0 σ σ2 := FX_tr f g (fun _ h => h) (fun _ _ h => Or.inr h)
theorem FXn_tr {c0 n : Nat} {σ σ1 σ2 : Sg} (f : FXn c0 n σ σ1) (g : FXn c0 n σ1 σ2) : FXn c0 n σ σ2 := FX_tr f g (fun _ h => h) (fun _ _ h => Or.inr h)
theorem FXs_n {c0 n : Nat} {σ σ1 : Sg} (f : FXs c0 σ σ1) : FXn c0 n σ σ1 := FX_tr FX_rf f (fun _ h => h) (fun _ _ h => h.elim)
theorem FXs_i {c0 : Nat} {σ σ1 : Sg} (f : FXs c0 σ σ1) {id k : Nat} (h : id ≠ c0 + 14 ∧ id ≠ c0 + 15) : gi σ1 id k = gi σ id k := FX_i f (fun z => by (try dsimp only at z); omega) (fun z => z)
theorem FXn_i {c0 n : Nat} {σ σ1 : Sg} (f : FXn c0 n σ σ1) {id k : Nat} (h : (id < c0 + 3 ∨ c0 + 6 < id ∨ n ≤ k) ∧ id ≠ c0 + 14 ∧ id ≠ c0 + 15 ∧ (id ≠ c0 ∨ k ≠ 9)) : gi σ1 id k = gi σ id k := FX_i f (fun z => by (try dsimp only at z); omega) (fun z => by (try dsimp only at z); omega)
theorem FXn_r {c0 n : Nat} {σ σ1 : Sg} (f : FXn c0 n σ σ1) {id k : Nat} (h : (id < c0 + 3 ∨ c0 + 6 < id ∨ n ≤ k) ∧ id ≠ c0 + 14 ∧ id ≠ c0 + 15 ∧ (id ≠ c0 ∨ k ≠ 9)) : gr σ1 id k = gr σ id k := f.2.2 id k (fun z => by (try dsimp only at z); omega) (fun z => by (try dsimp only at z); omega)
theorem CS_m {c0 n : Nat} {S : Stc} {σ σ1 : Sg} (hc : c0 ≤ 33) (f : FXn c0 n σ σ1) (h : CS c0 n S σ) : CS c0 n S σ1 :=
  CS_eq (fun id k a => FXn_i f (by unfold RcC at a; omega)) (fun k => FXn_r f (by omega)) (FXn_r f (by omega)) h
theorem CDy_s {c0 n : Nat} {D : Dyn} {σ σ1 : Sg} (f : FXs c0 σ σ1) (h : CDy c0 n D σ) : CDy c0 n D σ1 :=
  CDy_eq (fun id k a => FXs_i f (by omega)) h
/-- the letters' row alone -/
noncomputable def FXl (c0 : Nat) (σ σ' : Sg) : Prop := FX (fun id => id = c0 + 15) (fun _ _ => False) σ σ'
theorem FXl_s {c0 : Nat} {σ σ1 : Sg} (f : FXl c0 σ σ1) : FXs c0 σ σ1 := FX_tr FX_rf f (fun _ h => Or.inr h) (fun _ _ h => h.elim)
theorem FXl_i {c0 : Nat} {σ σ1 : Sg} (f : FXl c0 σ σ1) {id k : Nat} (h : id ≠ c0 + 15) : gi σ1 id k = gi σ id k := FX_i f (fun z => by (try dsimp only at z); omega) (fun z => z)
theorem pacC {c0 n p : Nat} {K : Int} {S : Stc} {D : Dyn} {σ : Sg} {x : Int32} (hc : c0 ≤ 33) (sb : SBd n S) (db : DBd n K D) (hs : CS c0 n S σ) (hd : CDy c0 n D σ) (hx : x.toInt = (p : Int)) (hp : p < S_r S) :
    Rt (F_X1_paceAt c0 x σ) (fun r σ' => r.toInt = aPc S D p ∧ FXl c0 σ σ') := by
  have ex := cl_eq (x := x) (by omega)
  have ep : x.toNatClampNeg = p := by omega
  have lb := aLt_b sb db hp
  obtain ⟨n6, rn, lnb, kb, -, -, -, pw, cl10, tk⟩ := sb
  obtain ⟨s1, s2, s3, s4, s5, ⟨f, g10, hf, fa⟩, s7, s8⟩ := hs
  obtain ⟨d1, d2, d3, d4, d5⟩ := hd
  obtain ⟨m, em⟩ : ∃ m, m = S_ln S p := ⟨_, rfl⟩
  have hm : m < n := by rw [em]; exact lnb p hp
  have l := s3 p hp
  obtain ⟨μ, κ, g1, k7, k2, kk, k3, k4, k5, k6⟩ := s4 m hm
  obtain ⟨b1, b2⟩ := db
  obtain ⟨u1, u2, u3, u4⟩ := b2 m hm
  have t4 := d4 m hm
  unfold F_X1_paceAt
  rw [ep, show (0 : Int32).toNatClampNeg = 0 from rfl, show (1 : Int32).toNatClampNeg = 1 from rfl, show (2 : Int32).toNatClampNeg = 2 from rfl, show (3 : Int32).toNatClampNeg = 3 from rfl, show (4 : Int32).toNatClampNeg = 4 from rfl, show (5 : Int32).toNatClampNeg = 5 from rfl]
  refine Rt_fl (fun v2 e2 => ?_)
  have v2i : v2.toInt = (m : Int) := by rw [e2, l, em]
  have v2n : v2.toNatClampNeg = m := by have := cl_eq (x := v2) (by omega); omega
  rw [v2n]
  refine Rt_fl (fun σ4 e4 => ?_)
  have f4 : FXl c0 σ σ4 := by rw [e4]; exact FX_si FX_rf (Or.inl rfl)
  refine Rt_m (a := μ) (ci := cls κ) (z := 0) (by rw [e4]; exact g1) kk ?_
  refine Rt_fl (fun σ8 e8 => ?_)
  have f8 : FXl c0 σ σ8 := by rw [e8]; exact FX_si f4 (Or.inl rfl)
  refine Rt_fl (fun σ10 e10 => ?_)
  have f10 : FXl c0 σ σ10 := by rw [e10]; exact FX_si f8 (Or.inl rfl)
  refine Rt_fl (fun σ13 e13 => ?_)
  have f13 : FXl c0 σ σ13 := by rw [e13]; exact FX_si f10 (Or.inl rfl)
  refine Rt_fl (fun σ16 e16 => ?_)
  have f16 : FXl c0 σ σ16 := by rw [e16]; exact FX_si f13 (Or.inl rfl)
  refine Rt_fl (fun σ18 e18 => ?_)
  have f18 : FXl c0 σ σ18 := by rw [e18]; exact FX_si f16 (Or.inl rfl)
  have r0 : gi σ18 (c0 + 15) 0 = v2 := by rw [e18, gi_si_ne (Or.inr (by decide)), e16, gi_si_ne (Or.inr (by decide)), e13, gi_si_ne (Or.inr (by decide)), e10, gi_si_ne (Or.inr (by decide)), e8, gi_si_ne (Or.inr (by decide)), e4, gi_si_eq]
  have r1 : gi σ18 (c0 + 15) 1 = gi σ μ 0 := by rw [e18, gi_si_ne (Or.inr (by decide)), e16, gi_si_ne (Or.inr (by decide)), e13, gi_si_ne (Or.inr (by decide)), e10, gi_si_ne (Or.inr (by decide)), e8, gi_si_eq, FXl_i f4 (by omega)]
  have r2 : gi σ18 (c0 + 15) 2 = x := by rw [e18, gi_si_ne (Or.inr (by decide)), e16, gi_si_ne (Or.inr (by decide)), e13, gi_si_ne (Or.inr (by decide)), e10, gi_si_eq]
  have r3 : gi σ18 (c0 + 15) 3 = gi σ (c0 + 4) m := by rw [e18, gi_si_ne (Or.inr (by decide)), e16, gi_si_ne (Or.inr (by decide)), e13, gi_si_eq, FXl_i f10 (by omega)]
  have r4 : gi σ18 (c0 + 15) 4 = gi σ (c0 + 5) m / (10 : Int32) := by rw [e18, gi_si_ne (Or.inr (by decide)), e16, gi_si_eq, FXl_i f13 (by omega)]
  have r5 : gi σ18 (c0 + 15) 5 = gi σ c0 9 - gi σ c0 9 / (10 : Int32) * (10 : Int32) := by rw [e18, gi_si_eq, FXl_i f16 (by omega)]
  refine Rt_o (a := f) ((f18.2.2 c0 10 (fun z => by (try dsimp only at z); omega) (fun z => z)).trans g10) ?_
  have hL : ∀ j, j ≤ 5 → (gi σ18 (c0 + 15) j).toInt = aLt S D p j := by
    intro j hj
    unfold aLt
    rw [← em]
    rcases (show j = 0 ∨ j = 1 ∨ j = 2 ∨ j = 3 ∨ j = 4 ∨ j = 5 by omega) with rfl | rfl | rfl | rfl | rfl | rfl
    · rw [r0]; exact v2i
    · rw [r1]; exact k4.trans k3.symm
    · rw [r2]; exact hx
    · rw [r3]; exact d3 m hm
    · rw [r4, i_div (k := 10) (by omega) (by decide) rfl, t4]; rfl
    · rw [r5, i_rem (k := 10) (by omega) (by decide) rfl, d1]; rfl
  obtain ⟨r, h1, h2⟩ := paceC (c0 := f) (a3 := c0 + 15) (L := aLt S D p) (σ := σ18) (FdA_eq (fun id k a b => FXl_i f18 (by omega)) fa) pw cl10 tk hL lb (S_cl S) [] 900 (6 : Int32) (0 : Int32) (0 : Int32) 0 0 6 rfl rfl (by decide) rfl rfl (by omega)
  exact Rt_fe (show F_X2_paceOf f (c0 + 15) σ18 = (r, σ18) from h1) (Rt_p ⟨h2, f18⟩)
theorem gapC {c0 n : Nat} {S : Stc} {σ : Sg} (hs : CS c0 n S σ) : ∃ r, F_X1_gap c0 σ = (r, σ) ∧ r.toInt = S_gp S := by
  obtain ⟨s1, s2, s3, s4, s5, ⟨f, g10, hf, fa⟩, s7, s8⟩ := hs
  unfold F_X1_gap
  rcases s8 with ⟨a, b⟩ | ⟨a, b⟩
  · rw [if_neg (i_nlt0 a)]; exact ⟨_, rfl, b.symm⟩
  · rw [if_pos (i_lt0 a), g10]; exact ⟨gi σ f 0, rfl, by rw [b]; exact fa.2.1.1⟩
theorem strX4 {c0 μ m : Nat} {σ : Sg} {r x : Int32} {pc ti : Int} (hn : (gi σ μ 1).toInt = (m : Int)) (hr : r.toInt = pc) (hb : 0 ≤ pc ∧ pc ≤ 996) (ht : (gi σ (c0 + 5) m).toInt = ti) (tb : 0 ≤ ti ∧ ti ≤ 99) : ∃ q, F_X4_strides μ r c0 x σ = (q, σ) ∧ q.toInt = pos0 (pc - ti / 20) := by
  have en : (gi σ μ 1).toNatClampNeg = m := by have := cl_eq (x := gi σ μ 1) (by omega); omega
  have dv : (gi σ (c0 + 5) m / (20 : Int32)).toInt = ti / 20 := by rw [i_div (k := 20) (by omega) (by decide) rfl, ht]
  unfold F_X4_strides pos0
  rw [en, fl_e]
  by_cases q : pc ≤ ti / 20
  · rw [if_pos (i_le (by omega)), if_pos (by omega)]; exact ⟨_, rfl, rfl⟩
  · rw [if_neg (i_nle (by omega)), if_neg (by omega)]; exact ⟨_, rfl, by rw [i_sub (by omega) (by omega), hr, dv]⟩
theorem prsC {c0 n p : Nat} {K : Int} {S : Stc} {D : Dyn} {σ : Sg} {x : Int32} (sb : SBd n S) (db : DBd n K D) (hs : CS c0 n S σ) (hd : CDy c0 n D σ) (hx : x.toInt = (p : Int)) (hp : p < S_r S) : F_X1_isPressedAt c0 x σ = (if aPr S D p = true then 1 else 0, σ) := by
  obtain ⟨g, hg, gt⟩ := gapC hs
  have ex := cl_eq (x := x) (by omega)
  have ep : x.toNatClampNeg = p := by omega
  obtain ⟨n6, rn, lnb, -, -, gb, -⟩ := sb
  obtain ⟨s1, s2, s3, -⟩ := hs
  obtain ⟨d1, d2, -⟩ := hd
  have x1 : (x + (1 : Int32)).toInt = x.toInt + 1 := i_add (y := (1 : Int32)) (by show (_ : Int) ≤ x.toInt + 1; omega) (by show x.toInt + 1 ≤ (_ : Int); omega)
  have ex1 := cl_eq (x := x + (1 : Int32)) (by omega)
  unfold F_X1_isPressedAt
  by_cases q : p + 1 < S_r S
  · have l0 := s3 p hp
    have l1 := s3 (p + 1) q
    have m0 := lnb p hp
    have m1 := lnb (p + 1) q
    have e0 : (gi σ (c0 + 2) p).toNatClampNeg = S_ln S p := by have := cl_eq (x := gi σ (c0 + 2) p) (by omega); omega
    have e1 : (gi σ (c0 + 2) (p + 1)).toNatClampNeg = S_ln S (p + 1) := by have := cl_eq (x := gi σ (c0 + 2) (p + 1)) (by omega); omega
    have a0 := d2 _ m0
    have a1 := d2 _ m1
    have b0 := (db.2 _ m0).1
    have b1 := (db.2 _ m1).1
    rw [if_neg (i_nle (by omega)), hg, fb_e, ep, show (x + (1 : Int32)).toNatClampNeg = p + 1 from by omega, e0, e1]
    have g3 : (g + (3 : Int32)).toInt = g.toInt + 3 := i_add (y := (3 : Int32)) (by show (_ : Int) ≤ g.toInt + 3; omega) (by show g.toInt + 3 ≤ (_ : Int); omega)
    have df : (gi σ (c0 + 3) (S_ln S p) - gi σ (c0 + 3) (S_ln S (p + 1))).toInt = D_at D (S_ln S p) - D_at D (S_ln S (p + 1)) := by rw [i_sub (by omega) (by omega), a0, a1]
    unfold aPr
    by_cases q2 : D_at D (S_ln S p) - D_at D (S_ln S (p + 1)) < S_gp S + 3
    · rw [if_neg (i_nle (by omega)), decide_eq_true (show _ ∧ _ from ⟨q, q2⟩), if_pos rfl]
    · rw [if_pos (i_le (by omega)), decide_eq_false (fun h => q2 h.2), if_neg (by decide)]
  · unfold aPr
    rw [if_pos (i_le (by omega)), decide_eq_false (fun h => q h.1), if_neg (by decide)]
set_option maxHeartbeats 4000000 in
theorem strC {c0 n p m μ κ : Nat} {K : Int} {S : Stc} {D : Dyn} {σ : Sg} {r x : Int32} (sb : SBd n S) (db : DBd n K D) (hs : CS c0 n S σ) (hd : CDy c0 n D σ) (hx : x.toInt = (p : Int)) (hp : p < S_r S) (em : m = S_ln S p) (k7 : κ < 7) (hk : S_kn S m = (κ : Int)) (hn : (gi σ μ 1).toInt = (m : Int)) (hv : (gi σ μ 2).toInt = S_vv S m) (hr : r.toInt = aPc S D p) : ∃ q, F_KD_strides (cls κ) μ r c0 x σ = (q, σ) ∧ q.toInt = aRw S D p := by
  have pb := aPc_b (D := D) (p := p) sb
  have plb := aPl_b sb db hp
  have hab := aHa_b sb db hp
  have hm : m < n := by rw [em]; exact sb.2.2.1 p hp
  have n6 := sb.1
  obtain ⟨u1, u2, u3, u4⟩ := db.2 m hm
  have um := db.1
  have vb := (sb.2.2.2.1 m hm).2
  have t3 := hd.2.2.1 m hm
  have t4 := hd.2.2.2.1 m hm
  have en : (gi σ μ 1).toNatClampNeg = m := by have := cl_eq (x := gi σ μ 1) (by omega); omega
  obtain ⟨q4, h4, v4⟩ := strX4 (x := x) hn hr pb t4 u3
  replace v4 : q4.toInt = aPl S D p := by rw [v4, em]; rfl
  have X3 : ∃ q, F_X3_strides μ r c0 x σ = (q, σ) ∧ q.toInt = aHa S D p := by
    unfold F_X3_strides aHa
    rw [h4, fb_e, en, ← em]
    by_cases q : D_ed D m ≤ 5
    · rw [if_pos (i_le (show _ ≤ (5 : Int) by omega)), if_pos q]
      exact ⟨_, rfl, by rw [i_add (y := (0 : Int32)) (by show (_ : Int) ≤ q4.toInt + 0; omega) (by show q4.toInt + 0 ≤ (_ : Int); omega), v4]; show _ + (0 : Int) = _; omega⟩
    · rw [if_neg (i_nle (show (5 : Int) < _ by omega)), if_neg q]
      exact ⟨_, rfl, by rw [i_add (by omega) (by omega), v4, hv]⟩
  have X0 : ∃ q, F_X0_strides μ r c0 x σ = (q, σ) ∧ q.toInt = aPl S D p / 2 := by
    unfold F_X0_strides
    rw [h4, fb_e]
    exact ⟨_, rfl, by rw [i_div (k := 2) (by omega) (by decide) rfl, v4]⟩
  unfold aRw
  rw [← em]
  rcases (show κ = 0 ∨ κ = 1 ∨ κ = 2 ∨ κ = 3 ∨ κ = 4 ∨ κ = 5 ∨ κ = 6 by omega) with rfl | rfl | rfl | rfl | rfl | rfl | rfl
  · rw [if_neg (by omega), if_neg (by omega), if_neg (by omega), if_neg (by omega), if_neg (by omega), if_neg (by omega)]
    exact ⟨q4, h4, v4⟩
  · rw [if_pos (by omega)]
    exact ⟨r, rfl, hr⟩
  · rw [if_neg (by omega), if_pos (by omega)]
    exact X3
  · rw [if_neg (by omega), if_neg (by omega), if_pos (by omega)]
    exact X0
  · rw [if_neg (by omega), if_neg (by omega), if_neg (by omega), if_pos (by omega)]
    show ∃ q, F_X6_strides μ r c0 x σ = (q, σ) ∧ _
    unfold F_X6_strides
    rw [show F_X8_strides μ r c0 x σ = (r, σ) from rfl, fb_e, fl_e]
    have d3 : (gi σ μ 2 / (3 : Int32)).toInt = S_vv S m / 3 := by rw [i_div (k := 3) (by omega) (by decide) rfl, hv]
    have sd : (r - gi σ μ 2 / (3 : Int32)).toInt = aPc S D p - S_vv S m / 3 := by rw [i_sub (by omega) (by omega), hr, d3]
    unfold pos0
    by_cases q : aPc S D p - S_vv S m / 3 ≤ 0
    · rw [if_pos (i_le (show _ ≤ (0 : Int) by omega)), if_pos q]; exact ⟨_, rfl, rfl⟩
    · rw [if_neg (i_nle (show (0 : Int) < _ by omega)), if_neg q]; exact ⟨_, rfl, sd⟩
  · rw [if_neg (by omega), if_neg (by omega), if_neg (by omega), if_neg (by omega), if_pos (by omega)]
    obtain ⟨q3, h3, v3⟩ := X3
    show ∃ q, F_X7_strides μ r c0 x σ = (q, σ) ∧ _
    unfold F_X7_strides
    rw [h3, fb_e, prsC sb db hs hd hx hp, fb_e]
    by_cases q : aPr S D p = true
    · rw [if_pos q, if_pos q, if_neg (show ¬ (1 : Int32) = 0 by decide)]
      exact ⟨_, rfl, by rw [i_add (y := (2 : Int32)) (by show (_ : Int) ≤ q3.toInt + 2; omega) (by show q3.toInt + 2 ≤ (_ : Int); omega), v3]; rfl⟩
    · rw [if_neg q, if_neg q, if_pos rfl]
      exact ⟨_, rfl, by rw [i_add (y := (0 : Int32)) (by show (_ : Int) ≤ q3.toInt + 0; omega) (by show q3.toInt + 0 ≤ (_ : Int); omega), v3]; show _ + (0 : Int) = _; omega⟩
  · rw [if_neg (by omega), if_neg (by omega), if_neg (by omega), if_neg (by omega), if_neg (by omega), if_pos (by omega)]
    obtain ⟨q0, h0, v0⟩ := X0
    have m9 := hd.1
    have md : (gi σ c0 9 - gi σ c0 9 / (4 : Int32) * (4 : Int32)).toInt = D_m D % 4 := by rw [i_rem (k := 4) (by omega) (by decide) rfl, m9]
    have m4 : ((4 : Int32) * gi σ μ 1).toInt = 4 * (gi σ μ 1).toInt := i_mull rfl (by omega) (by omega)
    have ad : (((4 : Int32) * gi σ μ 1) + (gi σ c0 9 - gi σ c0 9 / (4 : Int32) * (4 : Int32))).toInt = 4 * (m : Int) + D_m D % 4 := by rw [i_add (by omega) (by omega), m4, md, hn]
    have ec := cl_eq (x := ((4 : Int32) * gi σ μ 1) + (gi σ c0 9 - gi σ c0 9 / (4 : Int32) * (4 : Int32))) (by omega)
    have tl := hs.2.2.2.2.1 (4 * m + (D_m D % 4).toNat) (by omega)
    have tb := sb.2.2.2.2.1 (4 * m + (D_m D % 4).toNat) (by omega)
    show ∃ q, F_X10_strides μ r c0 x σ = (q, σ) ∧ _
    unfold F_X10_strides
    rw [h0, fb_e, show (((4 : Int32) * gi σ μ 1) + (gi σ c0 9 - gi σ c0 9 / (4 : Int32) * (4 : Int32))).toNatClampNeg = 4 * m + (D_m D % 4).toNat from by omega]
    exact ⟨_, rfl, by rw [i_add (by omega) (by omega), v0, tl]⟩
theorem strAtC {c0 n p : Nat} {K : Int} {S : Stc} {D : Dyn} {σ : Sg} {x : Int32} (hc : c0 ≤ 33) (sb : SBd n S) (db : DBd n K D) (hs : CS c0 n S σ) (hd : CDy c0 n D σ) (hx : x.toInt = (p : Int)) (hp : p < S_r S) :
    Rt (F_X1_strideAt c0 x σ) (fun r σ' => r.toInt = aSt S D p ∧ FXl c0 σ σ') := by
  have ex := cl_eq (x := x) (by omega)
  have ep : x.toNatClampNeg = p := by omega
  obtain ⟨m, em⟩ : ∃ m, m = S_ln S p := ⟨_, rfl⟩
  have hm : m < n := by rw [em]; exact sb.2.2.1 p hp
  have l := hs.2.2.1 p hp
  obtain ⟨μ, κ, g1, k7, k2, kk, k3, k4, k5, k6⟩ := hs.2.2.2.1 m hm
  have rb := aRw_b sb db hp
  unfold F_X1_strideAt
  rw [ep]
  refine Rt_fl (fun v2 e2 => ?_)
  have v2i : v2.toInt = (m : Int) := by rw [e2, l, em]
  have v2n : v2.toNatClampNeg = m := by have := cl_eq (x := v2) (by omega); omega
  rw [v2n]
  refine Rt_m (a := μ) (ci := cls κ) (z := 0) g1 kk ?_
  refine Rt_fb (pacC hc sb db hs hd hx hp) (fun r6 σ5 h => ?_)
  obtain ⟨h1, f5⟩ := h
  have hs5 := CS_m hc (FXs_n (FXl_s f5)) hs
  have hd5 := CDy_s (FXl_s f5) hd
  obtain ⟨q, j1, j2⟩ := strC (μ := μ) (κ := κ) sb db hs5 hd5 hx hp em k7 k3 (by rw [FXl_i f5 (by omega)]; exact k5) (by rw [FXl_i f5 (by omega)]; exact k6) h1
  refine Rt_fe j1 ?_
  have e4 := hd5.2.2.1 m hm
  unfold aSt
  rw [← em]
  by_cases c : D_ed D m = 0
  · refine Rt_t (i_eq (by rw [e4, c]; rfl)) (Rt_p ⟨?_, f5⟩)
    rw [if_pos c, i_div (k := 2) (by omega) (by decide) rfl, j2]
  · refine Rt_f (fun z => c (by rw [← e4, z]; rfl)) (Rt_p ⟨?_, f5⟩)
    rw [if_neg c, j2]
