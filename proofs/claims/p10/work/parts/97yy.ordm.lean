/-! order: what the model answers -/
noncomputable def FXr (σ0 σ : Sg) : Prop := ∀ id k, ¬ Pz id k → id ≠ 110 → gi σ id k = gi σ0 id k
theorem FXr_i {σ σ1 : Sg} (f : FXr σ σ1) {id k : Nat} (h : id ≠ 129 ∧ id ≠ 110 ∧ (id < 131 ∨ 132 < id) ∧ (id < 134 ∨ 140 < id) ∧ (id ≠ 74 ∨ (k ≠ 30 ∧ k ≠ 33))) : gi σ1 id k = gi σ id k := f id k (fun z => by unfold Pz at z; omega) h.2.1
theorem FXr_z {σ σ1 σ2 : Sg} (f : FXr σ σ1) (g : FXz σ1 σ2) : FXr σ σ2 := fun id k a b => (g id k a).trans (f id k a b)
theorem FXr_l {σ σ1 σ2 : Sg} (f : FXr σ σ1) (g : ∀ id k, id ≠ 110 → gi σ2 id k = gi σ1 id k) : FXr σ σ2 := fun id k a b => (g id k b).trans (f id k a b)
theorem FXr_si {σ σ1 : Sg} {a k : Nat} {v : Int32} (f : FXr σ σ1) (h : a = 110 ∨ a = 138 ∨ a = 139) : FXr σ (si σ1 a k v) := fun id j x y => by
  have : id ≠ a := fun z => by
    rcases h with h | h | h
    · exact y (z.trans h)
    · exact x (by unfold Pz; omega)
    · exact x (by unfold Pz; omega)
  rw [gi_si_ne (Or.inl this)]; exact f id j x y
theorem MS_or {n : Nat} {S : Stc} {g : Nat → Nat} {σ0 σ : Sg} (f : FXr σ0 σ) (hl : ∀ p, p < S_r S → (gi σ 110 p).toInt = (g p : Int)) (h : MS n S σ0) : MS n (sOr g S) σ := by
  obtain ⟨h1, h2, h3, h4, h5, h6, h7, h8, h9⟩ := h
  exact ⟨by rw [FXr_i f (by omega)]; exact h1, by rw [FXr_i f (by omega)]; exact h2, hl, fun m hm => by rw [FXr_i f (by omega)]; exact h4 m hm, fun m hm => by rw [FXr_i f (by omega)]; exact h5 m hm, fun k hk => by rw [FXr_i f (by omega)]; exact h6 k hk, MH_eq (FXr_i f (by omega)) (fun id k a b => FXr_i f (by omega)) h7, h8, by rw [FXr_i f (by omega)]; exact h9⟩
theorem HMo_or {n : Nat} {K : Int} {S : Stc} {D : Dyn} {g : Nat → Nat} {σ0 σ : Sg} (f : FXr σ0 σ) (hg : ∀ p, p < n → g p < n) (hl : ∀ p, p < n → (gi σ 110 p).toInt = (g p : Int)) (h : HMo n K S D σ0) : HMo n K (sOr g S) D σ := by
  obtain ⟨sb, db, hK, hr, h99, hs, hd⟩ := h
  exact ⟨SBd_or sb hg, db, hK, hr, h99, MS_or f (fun p hp => hl p (by omega)) hs, MDy_eq (fun id k a => FXr_i f (by omega)) hd⟩
noncomputable def P139 (n : Nat) (b m : Int) (σ : Sg) : Prop := m = -1 ∨ ∃ q : Nat, b = (q : Int) ∧ ∀ k, k < n → (gi σ 139 k).toInt = (oF n q k : Int)
theorem P139_e {n : Nat} {b m : Int} {σ σ' : Sg} (e : ∀ k, gi σ' 139 k = gi σ 139 k) (h : P139 n b m σ) : P139 n b m σ' := by
  rcases h with h | ⟨q, h1, h2⟩
  · exact Or.inl h
  · exact Or.inr ⟨q, h1, fun k hk => by rw [e]; exact h2 k hk⟩
theorem om3 {M0 : Nat} {x1 x2 x3 x4 : Int32} {σ0 : Sg} {Q : Int32 → Sg → Prop} (ct : ∀ (N : Nat) (v : Int32) (σ : Sg), M0 ≤ N → v = x4 + 1 → (∀ p, p < 6 → gi σ 139 p = gi σ0 110 p) → (∀ id k, id ≠ 139 → gi σ id k = gi σ0 id k) → Rt (LF_X12_order N 1 x1 x2 x3 v 0 σ) Q) : ∀ (i k N : Nat) (x6 : Int32) (σ : Sg), i + k = 6 → i + 1 + M0 ≤ N → x6.toInt = (k : Int) → (∀ p, p < k → gi σ 139 p = gi σ0 110 p) → (∀ id k, id ≠ 139 → gi σ id k = gi σ0 id k) →
    Rt (LF_X12_order N 3 x1 x2 x3 x4 x6 σ) Q := by
  intro i
  induction i with
  | zero =>
    intro k N x6 σ hi hN h6 hp fr
    obtain ⟨N, rfl⟩ : ∃ i, N = i + 1 := ⟨N - 1, by omega⟩
    show Rt (LB_X12_order_99 (LF_X12_order N) x1 x2 x3 x4 x6 σ) _
    unfold LB_X12_order_99
    refine Rt_t (i_le (show (6 : Int) ≤ _ by omega)) (Rt_fl (fun v e => ?_))
    exact ct N v σ (by omega) e (fun p h => hp p (by omega)) fr
  | succ i ih =>
    intro k N x6 σ hi hN h6 hp fr
    obtain ⟨N, rfl⟩ : ∃ i, N = i + 1 := ⟨N - 1, by omega⟩
    have ex := cl_eq (x := x6) (by omega)
    show Rt (LB_X12_order_99 (LF_X12_order N) x1 x2 x3 x4 x6 σ) _
    unfold LB_X12_order_99
    refine Rt_f (i_nle (show _ < (6 : Int) by omega)) ?_
    rw [show x6.toNatClampNeg = k from by omega]
    refine Rt_fl (fun σ5 e5 => Rt_fl (fun v6 e6 => ?_))
    refine ih (k + 1) N v6 σ5 (by omega) (by omega) (by rw [e6, i_inc (by omega)]; omega) (fun p h => ?_) (fun id j a => by rw [e5, gi_si_ne (Or.inl a)]; exact fr id j a)
    rw [e5, gi_si]
    by_cases q : p = k
    · rw [if_pos ⟨rfl, q⟩, q]; exact fr 110 k (by decide)
    · rw [if_neg (fun z => q z.2)]; exact hp p (by omega)
theorem om1 {n j M0 : Nat} {K : Int} {S : Stc} {D : Dyn} {x1 x2 : Int32} {σ0 : Sg} {Q : Int32 → Sg → Prop} (h : HMo n K S D σ0) (n5 : n ≤ 5) (h1 : x1.toInt = (j : Int)) (hj : j ≤ 60)
    (ct : ∀ (N : Nat) (x3 : Int32) (b m : Int) (σ : Sg), M0 ≤ N → x3.toInt = m → (b, m) = oBest n S D j → FXr σ0 σ → (∀ k, k < 6 → gi σ 138 k = gi σ0 110 k) → P139 n b m σ → Rt (LF_X12_order N 2 0 x2 x3 (0 : Int32) 0 σ) Q) : ∀ (i q N : Nat) (x3 x4 : Int32) (b m : Int) (σ : Sg), i + q = oFac n → 20 * i + 10 + M0 ≤ N → x4.toInt = (q : Int) → x3.toInt = m → -1 ≤ m → aBst (oTt n S D j) i q b m = oBest n S D j → FXr σ0 σ → (∀ k, k < 6 → gi σ 138 k = gi σ0 110 k) → P139 n b m σ →
    Rt (LF_X12_order N 1 x1 x2 x3 x4 0 σ) Q := by
  have hfac := oFac_b n (by omega)
  have hn0 := h.2.2.2.2.2.1.1
  intro i
  induction i with
  | zero =>
    intro q N x3 x4 b m σ hi hN h4 h3 hm hb f s o
    obtain ⟨N, rfl⟩ : ∃ i, N = i + 1 := ⟨N - 1, by omega⟩
    show Rt (LB_X12_order_68 (LF_X12_order N) x1 x2 x3 x4 σ) _
    unfold LB_X12_order_68
    refine Rt_fb (layM (n := n) (by rw [FXr_i f (by omega)]; exact hn0) n5 h4 (by omega)) (fun r2 σ1 ⟨fr, c⟩ => ?_)
    rcases c with ⟨-, c, -⟩ | ⟨c, -⟩
    · omega
    · exact Rt_t c (ct N x3 b m σ1 (by omega) h3 hb (FXr_l f fr) (fun k hk => by rw [fr 138 k (by decide)]; exact s k hk) (P139_e (fun k => fr 139 k (by decide)) o))
  | succ i ih =>
    intro q N x3 x4 b m σ hi hN h4 h3 hm hb f s o
    obtain ⟨N, rfl⟩ : ∃ i, N = i + 1 := ⟨N - 1, by omega⟩
    have hq : q < oFac n := by omega
    have vf := oVal n (by omega) q (by omega) hq
    have tb : 0 ≤ oTt n S D j q ∧ oTt n S D j q ≤ 60000 := tot_b h.1.1 (aMins_b (SBd_or h.1 vf) j (dAt (fun _ => 0) D) K (DBd_at h.2.1 (fun m _ => ⟨Int.le_refl _, by decide⟩)))
    show Rt (LB_X12_order_68 (LF_X12_order N) x1 x2 x3 x4 σ) _
    unfold LB_X12_order_68
    refine Rt_fb (layM (n := n) (by rw [FXr_i f (by omega)]; exact hn0) n5 h4 (by omega)) (fun r2 σ1 ⟨fr, c⟩ => ?_)
    rcases c with ⟨c, -, cl⟩ | ⟨-, c⟩
    rotate_left
    · omega
    refine Rt_f (by rw [c]; decide) ?_
    have f1 := FXr_l f fr
    have hm1 := HMo_or f1 vf cl h
    refine Rt_fb (ftsM hm1 h1 hj) (fun r5 σ4 ⟨v, z4, k4⟩ => ?_)
    have v : r5.toInt = oTt n S D j q := v
    have f4 := FXr_z f1 z4
    have s4 : ∀ k, k < 6 → gi σ4 138 k = gi σ0 110 k := fun k hk => by rw [k4 138 k (by decide) (by decide), fr 138 k (by decide)]; exact s k hk
    have o4 : P139 n b m σ4 := P139_e (fun k => by rw [k4 139 k (by decide) (by decide), fr 139 k (by decide)]) o
    have l4 : ∀ p, p < n → (gi σ4 110 p).toInt = (oF n q p : Int) := fun p hp => by rw [FXz_i z4 (by omega)]; exact cl p hp
    rw [aBst_s'] at hb
    by_cases e : m < oTt n S D j q
    · rw [if_pos e] at hb
      refine Rt_t (i_lt (by omega)) ?_
      refine om3 (M0 := 20 * i + 10 + M0) (σ0 := σ4) (fun N' v' σ5 hN' ev p5 g5 => ?_) 6 0 N (0 : Int32) σ4 rfl (by omega) rfl (fun p hp => absurd hp (Nat.not_lt_zero p)) (fun _ _ _ => rfl)
      refine ih (q + 1) N' r5 v' (q : Int) (oTt n S D j q) σ5 (by omega) (by omega) (by rw [ev, i_inc (by omega)]; omega) v (by omega) hb (fun id k a b => ?_) (fun k hk => by rw [g5 138 k (by decide)]; exact s4 k hk) (Or.inr ⟨q, rfl, fun k hk => by rw [p5 k (by omega)]; exact l4 k hk⟩)
      have : id ≠ 139 := fun w => a (by unfold Pz; omega)
      rw [g5 id k this]; exact f4 id k a b
    · rw [if_neg e] at hb
      refine Rt_f (i_nlt (by omega)) (Rt_fl (fun v' ev => ?_))
      exact ih (q + 1) N x3 v' b m σ4 (by omega) (by omega) (by rw [ev, i_inc (by omega)]; omega) h3 hm hb f4 s4 o4
theorem om2 {n : Nat} {x2 x3 : Int32} {b m : Int} {R : Int} {σ0 : Sg} (n5 : n ≤ 5) (hn : (gi σ0 74 0).toInt = (n : Int)) (h3 : x3.toInt = m) (hm : -1 < m) (hr1 : (n : Int) ≤ x2.toInt → R = -5) (hr2 : ¬ (n : Int) ≤ x2.toInt → x2.toInt < 0 → R = m) (hr3 : ¬ (n : Int) ≤ x2.toInt → ¬ x2.toInt < 0 → R = (oF n b.toNat x2.toInt.toNat : Int)) : ∀ (i k N : Nat) (x4 : Int32) (σ : Sg), i + k = 6 → i < N → x4.toInt = (k : Int) → FXr σ0 σ → P139 n b m σ →
    Rt (LF_X12_order N 2 0 x2 x3 x4 0 σ) (fun r σ' => r.toInt = R ∧ FXr σ0 σ') := by
  intro i
  induction i with
  | zero =>
    intro k N x4 σ hi hN h4 f o
    have hn' : (gi σ 74 0).toInt = (n : Int) := by rw [FXr_i f (by omega)]; exact hn
    obtain ⟨N, rfl⟩ : ∃ i, N = i + 1 := ⟨N - 1, by omega⟩
    show Rt (LB_X12_order_135 (LF_X12_order N) x2 x3 x4 σ) _
    unfold LB_X12_order_135
    refine Rt_t (i_le (show (6 : Int) ≤ _ by omega)) ?_
    by_cases w : x2.toInt < 0
    · refine Rt_f (i_nle (show _ < (0 : Int) from w)) (Rt_p ⟨?_, f⟩)
      rw [hr2 (by omega) w]; exact h3
    · refine Rt_t (i_le (show (0 : Int) ≤ _ by omega)) ?_
      by_cases g : (n : Int) ≤ x2.toInt
      · refine Rt_t (i_le (by omega)) (Rt_p ⟨?_, f⟩)
        rw [hr1 g]; rfl
      · refine Rt_f (i_nle (by omega)) (Rt_p ⟨?_, f⟩)
        have ex := cl_eq (x := x2) (by omega)
        rcases o with o | ⟨q, o1, o2⟩
        · omega
        · rw [hr3 g w, show x2.toNatClampNeg = x2.toInt.toNat from by omega, o2 _ (by omega), o1, show ((q : Int)).toNat = q from by omega]
  | succ i ih =>
    intro k N x4 σ hi hN h4 f o
    obtain ⟨N, rfl⟩ : ∃ i, N = i + 1 := ⟨N - 1, by omega⟩
    show Rt (LB_X12_order_135 (LF_X12_order N) x2 x3 x4 σ) _
    unfold LB_X12_order_135
    refine Rt_f (i_nle (show _ < (6 : Int) by omega)) ?_
    refine Rt_fl (fun σ7 e7 => Rt_fl (fun v8 e8 => ?_))
    exact ih (k + 1) N v8 σ7 (by omega) (by omega) (by rw [e8, i_inc (by omega)]; omega) (by rw [e7]; exact FXr_si f (Or.inl rfl)) (P139_e (fun k => by rw [e7, gi_si_ne (Or.inl (by decide))]) o)
theorem om0 {M0 : Nat} {x1 x2 : Int32} {σ0 : Sg} {Q : Int32 → Sg → Prop} (ct : ∀ (N : Nat) (σ : Sg), M0 ≤ N → FXr σ0 σ → (∀ k, k < 6 → gi σ 138 k = gi σ0 110 k) → Rt (LF_X12_order N 1 x1 x2 (-1 : Int32) (0 : Int32) 0 σ) Q) : ∀ (i k N : Nat) (x3 : Int32) (σ : Sg), i + k = 6 → i + 1 + M0 ≤ N → x3.toInt = (k : Int) → FXr σ0 σ → (∀ p, gi σ 110 p = gi σ0 110 p) → (∀ p, p < k → gi σ 138 p = gi σ0 110 p) →
    Rt (LF_X12_order N 0 x1 x2 x3 0 0 σ) Q := by
  intro i
  induction i with
  | zero =>
    intro k N x3 σ hi hN h3 f l hp
    obtain ⟨N, rfl⟩ : ∃ i, N = i + 1 := ⟨N - 1, by omega⟩
    show Rt (LB_X12_order_39 (LF_X12_order N) x1 x2 x3 σ) _
    unfold LB_X12_order_39
    exact Rt_t (i_le (show (6 : Int) ≤ _ by omega)) (ct N σ (by omega) f (fun p h => hp p (by omega)))
  | succ i ih =>
    intro k N x3 σ hi hN h3 f l hp
    obtain ⟨N, rfl⟩ : ∃ i, N = i + 1 := ⟨N - 1, by omega⟩
    have ex := cl_eq (x := x3) (by omega)
    show Rt (LB_X12_order_39 (LF_X12_order N) x1 x2 x3 σ) _
    unfold LB_X12_order_39
    refine Rt_f (i_nle (show _ < (6 : Int) by omega)) ?_
    rw [show x3.toNatClampNeg = k from by omega]
    refine Rt_fl (fun σ4 e4 => Rt_fl (fun v5 e5 => ?_))
    refine ih (k + 1) N v5 σ4 (by omega) (by omega) (by rw [e5, i_inc (by omega)]; omega) (by rw [e4]; exact FXr_si f (Or.inr (Or.inl rfl))) (fun p => by rw [e4, gi_si_ne (Or.inl (by decide))]; exact l p) (fun p h => ?_)
    rw [e4, gi_si]
    by_cases q : p = k
    · rw [if_pos ⟨rfl, q⟩, q]; exact l k
    · rw [if_neg (fun z => q z.2)]; exact hp p (by omega)
theorem orderM {n : Nat} {K : Int} {S : Stc} {D : Dyn} {a1 a2 : Int32} {σ : Sg} (h : HMo n K S D σ) : Rt (F_X12_order a1 a2 σ) (fun r σ' => r.toInt = r_order n S D a1.toInt a2.toInt ∧ FXr σ σ') := by
  have hn := h.2.2.2.2.2.1.1
  have m1 : (-1 : Int32).toInt = -1 := rfl
  have m2 : (-2 : Int32).toInt = -2 := rfl
  have m9 : (-9 : Int32).toInt = -9 := rfl
  have p5 : (5 : Int32).toInt = 5 := rfl
  have rf : FXr σ σ := fun _ _ _ _ => rfl
  unfold F_X12_order
  refine Rt_fe F_in ?_
  by_cases c : -1 ≤ a2.toInt ∧ a2.toInt ≤ 4
  · rw [if_pos (show (-1 : Int32).toInt ≤ a2.toInt ∧ a2.toInt ≤ (4 : Int32).toInt from c)]
    refine Rt_f (by decide) ?_
    refine Rt_fe F_in ?_
    by_cases d : 1 ≤ a1.toInt ∧ a1.toInt ≤ 12
    · rw [if_pos (show (1 : Int32).toInt ≤ a1.toInt ∧ a1.toInt ≤ (12 : Int32).toInt from d)]
      refine Rt_f (by decide) ?_
      by_cases e : 5 < n
      · rw [r_or3 c d e]
        exact Rt_f (i_nle (by omega)) (Rt_p ⟨m9, rf⟩)
      · refine Rt_t (i_le (by omega)) ?_
        have hfac := oFac_b n (by omega)
        have bp := oBest_p (n := n) (j := a1.toInt.toNat) (b := 0) (m := 0) (by omega) h.1 h.2.1
        refine om0 (M0 := 4000) (fun N σ1 hN f1 s1 => ?_) 6 0 9000 (0 : Int32) σ rfl (by omega) rfl rf (fun _ => rfl) (fun p hp => absurd hp (Nat.not_lt_zero p))
        refine om1 (j := a1.toInt.toNat) (M0 := 10) h (by omega) (by omega) (by omega) (fun N' x3 b m σ2 hN' h3 hb f2 s2 o2 => ?_) (oFac n) 0 N (-1 : Int32) (0 : Int32) 0 (-1) σ1 rfl (by omega) rfl rfl (Int.le_refl _) rfl f1 s1 (Or.inl rfl)
        have e1 : (oBest n S D a1.toInt.toNat).1 = b := by rw [← hb]
        have e2 : (oBest n S D a1.toInt.toNat).2 = m := by rw [← hb]
        exact om2 (b := b) (m := m) (by omega) hn h3 (by omega) (fun g => r_or4 c d e g) (fun g w => (r_or5 c d e g w).trans e2) (fun g w => (r_or6 c d e g w).trans (by rw [e1])) 6 0 N' (0 : Int32) σ2 rfl (by omega) rfl f2 o2
    · rw [if_neg (show ¬ ((1 : Int32).toInt ≤ a1.toInt ∧ a1.toInt ≤ (12 : Int32).toInt) from d), r_or2 c d]
      exact Rt_t rfl (Rt_p ⟨m2, rf⟩)
  · rw [if_neg (show ¬ ((-1 : Int32).toInt ≤ a2.toInt ∧ a2.toInt ≤ (4 : Int32).toInt) from c), r_or1 c]
    exact Rt_t rfl (Rt_p ⟨m1, rf⟩)
theorem A_order {V : Vx} {a1 a2 r1 r2 : Int32} {σ σ1 σ2 : Sg} (q : RELM σ) (hI : INV V σ) (f : MA σ σ1) (h1 : F_X11_order a1 a2 σ = (r1, σ1)) (h2 : F_X12_order a1 a2 σ1 = (r2, σ2)) : r1 = r2 ∧ RWS σ1 σ2 := by
  obtain ⟨n, S, D, c, m, si⟩ := HXC q hI f
  have A := Rt_of (orderC (a1 := a1) (a2 := a2) c) h1
  have B := Rt_of (orderM (a1 := a1) (a2 := a2) m) h2
  exact ⟨i_eq (A.trans B.1.symm), fun id k a b _ => FXr_i B.2 (by omega)⟩
