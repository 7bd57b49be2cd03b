/-! the minutes' numbers: row, mower, image, undo -/
theorem row_br {a1 a2 a3 : Int32} {σ : Sg} : Rt (F_X12_row a1 a2 a3 σ) (fun _ σ' => BR σ 109 24 9 → BR σ' 109 24 9) := by
  unfold F_X12_row
  have same : ∀ r : Int32, Rt (r, σ) (fun _ σ' => BR σ 109 24 9 → BR σ' 109 24 9) := fun r => Rt_p (fun h => h)
  have eI : ∃ v, F_X12_isMower a1 σ = (v, σ) := by
    unfold F_X12_isMower
    rw [F_in, fb_e]
    exact ⟨_, rfl⟩
  obtain ⟨v, ev⟩ := eI
  refine Rt_fe ev ?_
  by_cases c1 : v = 0
  · exact Rt_t c1 (same _)
  refine Rt_f c1 ?_
  refine Rt_fe F_in ?_
  by_cases c2 : (0 : Int32).toInt ≤ a2.toInt ∧ a2.toInt ≤ (3 : Int32).toInt
  · rw [if_pos c2]
    refine Rt_f (by decide) ?_
    refine Rt_fe F_in ?_
    by_cases c3 : (0 : Int32).toInt ≤ a3.toInt ∧ a3.toInt ≤ (9 : Int32).toInt
    · rw [if_pos c3]
      refine Rt_f (by decide) ?_
      by_cases c4 : (gi σ 103 a1.toNatClampNeg) = (6 : Int32)
      · refine Rt_t c4 (Rt_fl (fun v13 _ => Rt_fl (fun τ eτ => Rt_p (fun h k hk => ?_))))
        rw [eτ, gi_si]
        by_cases e : (109 : Nat) = 109 ∧ k = (((4 : Int32) * a1) + a2).toNatClampNeg
        · rw [if_pos e]; exact c3
        · rw [if_neg e]; exact h k hk
      · exact Rt_f c4 (same _)
    · rw [if_neg c3]
      exact Rt_t rfl (same _)
  · rw [if_neg c2]
    exact Rt_t rfl (same _)
theorem MN_row {a1 a2 a3 r1 r2 : Int32} {S : Nat → Prop} {F : Nat → Nat → Prop} {σ σ1 σ2 : Sg} (mn : MN σ) (f : FX S F σ σ1) (hf : ∀ id k, Rmn id k → ¬ S id ∧ ¬ F id k) (g : Fr [109] [] σ1 σ2) (h2 : F_X12_row a1 a2 a3 σ1 = (r2, σ2)) : MN σ2 := by
  have m1 := MN_x f hf mn
  obtain ⟨⟨b1, b2, b3, b4, b5, b6, b7⟩, bi, E1, E2, m2, m28, m11, m17⟩ := m1
  have gg : ∀ id k, id ≠ 109 → gi σ2 id k = gi σ1 id k := fun id k a => congrFun (g.1 id (fun z => a (List.mem_singleton.mp z))).1 k
  exact ⟨⟨BR_eq (fun k _ => gg 103 k (by decide)) b1, BR_eq (fun k _ => gg 104 k (by decide)) b2, BR_eq (fun k _ => gg 105 k (by decide)) b3, BR_eq (fun k _ => gg 106 k (by decide)) b4, BR_eq (fun k _ => gg 107 k (by decide)) b5, BR_eq (fun k _ => gg 108 k (by decide)) b6, Rt_of row_br h2 b7⟩, BIM_eq (fun id k a b c => gg id k (by omega)) bi, EQN_eq (by rw [gg 1 1 (by decide)]) (fun id k a => gg id k (by omega)) E1, EQN_eq (by rw [gg 17 1 (by decide)]) (fun id k a => gg id k (by omega)) E2, by rw [gg 74 2 (by decide), gg 74 0 (by decide)]; exact m2, by rw [gg 74 28 (by decide)]; exact m28, by rw [gg 1 11 (by decide)]; exact m11, by rw [gg 17 11 (by decide)]; exact m17⟩
theorem mow2L : ∀ (k N : Nat) (x : Int32) (σ : Sg), x.toInt + (k : Int) = 4 → 0 ≤ x.toInt → k < N → Rt (LF_X12_mower N x σ) (fun _ σ' => gi σ' 74 2 = gi σ' 74 0) := by
  intro k
  induction k with
  | zero =>
    intro N x σ hx h0 hN
    obtain ⟨N, rfl⟩ : ∃ i, N = i + 1 := ⟨N - 1, by omega⟩
    show Rt (LB_X12_mower_115 (LF_X12_mower N) x σ) _
    unfold LB_X12_mower_115
    refine Rt_t (i_le (show (4 : Int) ≤ _ by omega)) (Rt_fl (fun σ2 e2 => Rt_fl (fun σ3 e3 => Rt_p ?_)))
    rw [e3, gi_si_eq, gi_si_ne (Or.inr (by decide))]
  | succ k ih =>
    intro N x σ hx h0 hN
    obtain ⟨N, rfl⟩ : ∃ i, N = i + 1 := ⟨N - 1, by omega⟩
    show Rt (LB_X12_mower_115 (LF_X12_mower N) x σ) _
    unfold LB_X12_mower_115
    refine Rt_f (i_nle (show _ < (4 : Int) by omega)) (Rt_fl (fun σ2 e2 => Rt_fl (fun v ev => ?_)))
    exact ih N v σ2 (by rw [ev, i_inc (by omega)]; omega) (by rw [ev, i_inc (by omega)]; omega) (by omega)
theorem mow2 {a1 a2 : Int32} {σ : Sg} (h : gi σ 74 2 = gi σ 74 0) : Rt (F_X12_mower a1 a2 σ) (fun _ σ' => gi σ' 74 2 = gi σ' 74 0) := by
  unfold F_X12_mower
  refine Rt_fe F_in ?_
  by_cases c1 : (0 : Int32).toInt ≤ a1.toInt ∧ a1.toInt ≤ (6 : Int32).toInt
  · rw [if_pos c1]
    refine Rt_f (by decide) ?_
    refine Rt_fe F_in ?_
    by_cases c2 : (0 : Int32).toInt ≤ a2.toInt ∧ a2.toInt ≤ (9 : Int32).toInt
    · rw [if_pos c2]
      refine Rt_f (by decide) ?_
      by_cases c3 : (gi σ 74 0) = (6 : Int32)
      · exact Rt_t c3 (Rt_p h)
      · refine Rt_f c3 (Rt_fl (fun _ _ => Rt_fl (fun _ _ => Rt_fl (fun _ _ => Rt_fl (fun _ _ => Rt_fl (fun _ _ => Rt_fl (fun _ _ => Rt_fl (fun τ _ => ?_))))))))
        exact mow2L 4 20 (0 : Int32) τ rfl (by decide) (by decide)
    · rw [if_neg c2]
      exact Rt_t rfl (Rt_p h)
  · rw [if_neg c1]
    exact Rt_t rfl (Rt_p h)
theorem br_put {σ σ' : Sg} {a n : Nat} {hi : Int} {v : Int32} (e : ∀ k, gi σ' a k = if k = n then v else gi σ a k) (hv : 0 ≤ v.toInt ∧ v.toInt ≤ hi) (h : BR σ a 6 hi) : BR σ' a 6 hi := fun k hk => by
  rw [e k]
  by_cases c : k = n
  · rw [if_pos c]; exact hv
  · rw [if_neg c]; exact h k hk
theorem MN_mower {V : Vx} {a1 a2 r1 r2 : Int32} {σ σ1 σ2 : Sg} (q : REL σ) (mn : MN σ) (hI : INV V σ) (f : FX (fun id => id = 2 ∨ id = 3 ∨ id = 5 ∨ 2000 ≤ id) (fun id k => id = 1 ∧ (k = 1 ∨ k = 3)) σ σ1) (w : MWA r1 a1 a2 (gi σ 1 1).toInt (gi σ1 1 1).toInt) (nw : NEWM V a1 a2 σ σ1) (g : Fr [74, 103, 104, 105, 106, 107, 108, 109, 110] [0, 2] σ1 σ2) (h2 : F_X12_mower a1 a2 σ1 = (r2, σ2)) : MN σ2 := by
  have hm := MI_f0 hI.2.1
  have hc := q.1.1
  obtain ⟨n0, hn0⟩ : ∃ n, n = (gi σ 1 1).toNatClampNeg := ⟨_, rfl⟩
  have en := cl_eq (x := gi σ 1 1) (by omega)
  have ex : gi σ 1 1 = nI n0 := by rw [hn0]; exact nI_ofI (by omega)
  have em : gi σ 74 0 = nI n0 := by rw [← ex]; exact i_eq hc.symm
  have fi : ∀ id k, ¬ (id = 2 ∨ id = 3 ∨ id = 5 ∨ 2000 ≤ id) → id ≠ 1 → gi σ1 id k = gi σ id k := fun id k h9 h8 => f.1 id k h9 (fun z => h8 z.1)
  have e74 : ∀ k, gi σ1 74 k = gi σ 74 k := fun k => fi 74 k (by omega) (by omega)
  obtain ⟨⟨b1, b2, b3, b4, b5, b6, b7⟩, bi, E1, E2, m2, m28, m11, m17⟩ := mn
  have k2 := Rt_of (mow2 (a1 := a1) (a2 := a2) (by rw [e74, e74]; exact m2)) h2
  unfold MWA at w
  rcases N_mmower (by rw [e74]; exact em) (by omega) h2 with ⟨bad, rfl⟩ | ⟨ok1, ok2, ok3, m103, m104, m105, m106, m107, m108, m110, m109, mo⟩
  · rcases nw with rfl | ⟨μ, n1, n2, n3, n4, n5, n6, n7, -⟩
    · exact ⟨⟨b1, b2, b3, b4, b5, b6, b7⟩, bi, E1, E2, m2, m28, m11, m17⟩
    · exfalso; omega
  rcases nw with rfl | ⟨μ, n1, n2, n3, n4, n5, n6, n7, n8, n9, n10, n11⟩
  · exfalso; omega
  have gx : ∀ id k, ¬ (74 ≤ id ∧ id ≤ 110) → gi σ2 id k = gi σ1 id k := fun id k h9 => mo id k (by omega) (by omega)
  have z0 : (0 : Int32).toInt = 0 := rfl
  have z10 : (10 : Int32).toInt = 10 := rfl
  refine ⟨⟨br_put m103 ⟨ok1.1, ok1.2⟩ (BR_eq (fun k _ => fi 103 k (by omega) (by omega)) b1), br_put m104 ⟨ok2.1, ok2.2⟩ (BR_eq (fun k _ => fi 104 k (by omega) (by omega)) b2), br_put m105 (by decide) (BR_eq (fun k _ => fi 105 k (by omega) (by omega)) b3), br_put m106 (by decide) (BR_eq (fun k _ => fi 106 k (by omega) (by omega)) b4), br_put m107 (by decide) (BR_eq (fun k _ => fi 107 k (by omega) (by omega)) b5), br_put m108 (by decide) (BR_eq (fun k _ => fi 108 k (by omega) (by omega)) b6), fun k hk => ?_⟩, BIM_eq (fun id k a b c => by rw [gx id k (by omega), fi id k (by omega) (by omega)]) bi, ?_, EQN_eq (by rw [gx 17 1 (by omega), fi 17 1 (by omega) (by omega)]) (fun id k a => by rw [gx id k (by omega), fi id k (by omega) (by omega)]) E2, k2, ?_, ?_, by rw [gx 17 11 (by omega), fi 17 11 (by omega) (by omega)]; exact m17⟩
  · rw [m109]
    by_cases e : 4 * n0 ≤ k ∧ k < 4 * n0 + 4
    · rw [if_pos e]; exact ⟨Int.le_refl _, by decide⟩
    · rw [if_neg e, fi 109 k (by omega) (by omega)]; exact b7 k hk
  · intro m hm6
    have e11 : (gi σ2 1 1).toInt = (n0 : Int) + 1 := by rw [gx 1 1 (by omega), n7]; omega
    rw [e11, gx (1 + 3) m (by omega), gx (1 + 4) m (by omega), gx (1 + 5) m (by omega), gx (1 + 6) m (by omega), m105, m106, m107, m108, show gi σ1 (1 + 4) m = if m = (gi σ 1 1).toNatClampNeg then (10 : Int32) else gi σ 5 m from n10 m, ← hn0, fi (1 + 3) m (by omega) (by omega), fi (1 + 5) m (by omega) (by omega), fi (1 + 6) m (by omega) (by omega), fi 105 m (by omega) (by omega), fi 106 m (by omega) (by omega), fi 107 m (by omega) (by omega), fi 108 m (by omega) (by omega)]
    refine ⟨fun h => ?_, fun h => (E1 m hm6).2 (by omega)⟩
    by_cases e : m = n0
    · rw [if_pos e, if_pos e, if_pos e, if_pos e, if_pos e]
      have z := (E1 m hm6).2 (by omega)
      exact ⟨z.1, rfl, z.2.1, z.2.2⟩
    · rw [if_neg e, if_neg e, if_neg e, if_neg e, if_neg e]
      exact (E1 m hm6).1 (by omega)
  · rw [g.2.1 28 (by decide), e74]; exact m28
  · rw [gx 1 11 (by omega), f.1 1 11 (fun z => by (try dsimp only at z); omega) (fun z => by (try dsimp only at z); omega)]; exact m11
theorem MN_image {r2 : Int32} {σ σ1 σ2 : Sg} (h6 : (gi σ 1 1).toInt ≤ 6) (mn : MN σ) (f : FX (fun id => id = 18 ∨ id = 19 ∨ id = 20 ∨ id = 21 ∨ id = 22 ∨ id = 23 ∨ id = 24 ∨ id = 26 ∨ id = 28 ∨ id = 30) (fun id k => (id = 0 ∧ k = 3) ∨ (id = 17 ∧ k = 1) ∨ (id = 17 ∧ k = 3) ∨ (id = 17 ∧ k = 9) ∨ (id = 17 ∧ k = 10) ∨ (id = 17 ∧ k = 11) ∨ (id = 25 ∧ k = 1) ∨ (id = 27 ∧ k = 1) ∨ (id = 29 ∧ k = 1)) σ σ1) (y : CPY σ σ1 17 1) (g : Fr [74, 156, 157, 158, 159, 160, 161, 162, 163, 164, 165, 166, 167, 168] [49, 50, 51, 52, 53, 54, 55] σ1 σ2) (h2 : F_X12_image σ1 = (r2, σ2)) : MN σ2 := by
  obtain ⟨⟨b1, b2, b3, b4, b5, b6, b7⟩, bi, E1, E2, m2, m28, m11, m17⟩ := mn
  obtain ⟨⟨y1, -, -, y11, -⟩, ⟨y6, y7⟩, y8⟩ := y
  obtain ⟨k1, k2, -, -, mo⟩ := N_mimage h2
  have fi : ∀ id k, ¬ ((18 ≤ id ∧ id ≤ 30) ∨ id = 0 ∨ id = 17) → gi σ1 id k = gi σ id k := fun id k h9 => f.1 id k (by intro z; (try dsimp only at z); omega) (by intro z; (try dsimp only at z); omega)
  have gx : ∀ id k, ¬ (156 ≤ id ∧ id ≤ 168) → id ≠ 74 → gi σ2 id k = gi σ1 id k := fun id k h9 h8 => mo id k (by omega)
  have g0 : ∀ id k, ¬ ((18 ≤ id ∧ id ≤ 30) ∨ id = 0 ∨ id = 17) → ¬ (156 ≤ id ∧ id ≤ 168) → id ≠ 74 → gi σ2 id k = gi σ id k := fun id k a b c => by rw [gx id k b c, fi id k a]
  have g74 : ∀ k, k < 49 → gi σ2 74 k = gi σ 74 k := fun k hk => by rw [g.2.1 k (by intro z; simp at z; omega), fi 74 k (by omega)]
  refine ⟨⟨BR_eq (fun k _ => g0 103 k (by omega) (by omega) (by omega)) b1, BR_eq (fun k _ => g0 104 k (by omega) (by omega) (by omega)) b2, BR_eq (fun k _ => g0 105 k (by omega) (by omega) (by omega)) b3, BR_eq (fun k _ => g0 106 k (by omega) (by omega) (by omega)) b4, BR_eq (fun k _ => g0 107 k (by omega) (by omega) (by omega)) b5, BR_eq (fun k _ => g0 108 k (by omega) (by omega) (by omega)) b6, BR_eq (fun k _ => g0 109 k (by omega) (by omega) (by omega)) b7⟩, ⟨fun k hk => ?_, fun k hk => ?_, fun k hk => ?_, fun k hk => ?_, fun k hk => ?_, fun k hk => ?_, fun k hk => ?_⟩, EQN_eq (by rw [g0 1 1 (by omega) (by omega) (by omega)]) (fun id k a => g0 id k (by omega) (by omega) (by omega)) E1, ?_, by rw [g74 2 (by decide), g74 0 (by decide)]; exact m2, by rw [g74 28 (by decide)]; exact m28, by rw [g0 1 11 (by omega) (by omega) (by omega)]; exact m11, by rw [gx 17 11 (by omega) (by omega), y11]; exact m11⟩
  · rw [(k1 k hk).1, fi 103 k (by omega)]; exact b1 k hk
  · rw [(k1 k hk).2.1, fi 104 k (by omega)]; exact b2 k hk
  · rw [(k1 k hk).2.2.1, fi 105 k (by omega)]; exact b3 k hk
  · rw [(k1 k hk).2.2.2.1, fi 106 k (by omega)]; exact b4 k hk
  · rw [(k1 k hk).2.2.2.2.1, fi 107 k (by omega)]; exact b5 k hk
  · rw [(k1 k hk).2.2.2.2.2.1, fi 108 k (by omega)]; exact b6 k hk
  · rw [k2 k hk, fi 109 k (by omega)]; exact b7 k hk
  · intro m hm
    obtain ⟨-, -, m158, m159, m160, m161, -⟩ := k1 m hm
    rw [gx 17 1 (by omega) (by omega), y1, gx (17 + 3) m (by omega) (by omega), gx (17 + 4) m (by omega) (by omega), gx (17 + 5) m (by omega) (by omega), gx (17 + 6) m (by omega) (by omega), show gi σ1 (17 + 3) m = gi σ 4 m from y7 3 (by decide) (by decide) m hm, show gi σ1 (17 + 4) m = gi σ 5 m from y7 4 (by decide) (by decide) m hm, show gi σ1 (17 + 5) m = gi σ 6 m from y7 5 (by decide) (by decide) m hm, show gi σ1 (17 + 6) m = gi σ 7 m from y7 6 (by decide) (by decide) m hm, m158, show gi σ2 (158 + 1) m = gi σ1 106 m from m159, show gi σ2 (158 + 2) m = gi σ1 107 m from m160, show gi σ2 (158 + 3) m = gi σ1 108 m from m161, fi 105 m (by omega), fi 106 m (by omega), fi 107 m (by omega), fi 108 m (by omega)]
    exact E1 m hm
theorem mundo2 {σ σ' : Sg} {r : Int32} (hf : F_X12_undo σ = (r, σ')) (hz : ¬ gi σ 74 49 = 0) : gi σ' 74 2 = gi σ' 74 0 ∧ gi σ' 74 28 = gi σ 74 28 := by
  unfold F_X12_undo at hf
  rw [if_neg hz] at hf
  simp only [fl_e] at hf
  have e : σ' = (r, σ').2 := rfl
  refine ⟨?_, ?_⟩
  · rw [e, ← hf, mundo74, mundo74]
    repeat first | rw [gi_si_eq] | rw [gi_si_ne (Or.inr (by decide))]
  · rw [e, ← hf, mundo74]
    repeat rw [gi_si_ne (Or.inr (by decide))]
theorem MN_undo {r2 : Int32} {σ σ1 σ2 : Sg} (h6 : (gi σ 17 1).toInt ≤ 6) (ht : (gi σ 0 3).toInt = (gi σ 74 49).toInt) (mn : MN σ) (f : FX (fun id => id = 10 ∨ id = 12 ∨ id = 14 ∨ id = 2 ∨ id = 3 ∨ id = 4 ∨ id = 5 ∨ id = 6 ∨ id = 7 ∨ id = 8) (fun id k => (id = 1 ∧ k = 1) ∨ (id = 1 ∧ k = 3) ∨ (id = 1 ∧ k = 9) ∨ (id = 1 ∧ k = 10) ∨ (id = 1 ∧ k = 11) ∨ (id = 11 ∧ k = 1) ∨ (id = 13 ∧ k = 1) ∨ (id = 9 ∧ k = 1)) σ σ1) (y0 : (gi σ 0 3).toInt ≠ 0 → CPY σ σ1 1 17) (y9 : (gi σ 0 3).toInt = 0 → σ1 = σ) (h2 : F_X12_undo σ1 = (r2, σ2)) : MN σ2 := by
  by_cases z : (gi σ 0 3).toInt = 0
  · have e := y9 z
    subst e
    have e49 : gi σ1 74 49 = 0 := i_eq (b := (0 : Int32)) (by show (gi σ1 74 49).toInt = 0; omega)
    unfold F_X12_undo at h2
    rw [if_pos e49] at h2
    rw [← (Prod.mk.inj h2).2]
    exact mn
  obtain ⟨b, ⟨i1, i2, i3, i4, i5, i6, i7⟩, E1, E2, m2, m28, m11, m17⟩ := mn
  obtain ⟨⟨y1, -, -, y11, -⟩, ⟨y6, y7⟩, y8⟩ := y0 z
  have fi : ∀ id k, ¬ (1 ≤ id ∧ id ≤ 14) → gi σ1 id k = gi σ id k := fun id k h9 => f.1 id k (by intro z; (try dsimp only at z); omega) (by intro z; (try dsimp only at z); omega)
  have hz : ¬ gi σ1 74 49 = 0 := fun e => by
    rw [fi 74 49 (by omega)] at e
    have e2 : (gi σ 74 49).toInt = 0 := congrArg Int32.toInt e
    omega
  obtain ⟨k1, k2, -, -, mo⟩ := N_mundo h2 hz
  obtain ⟨u2, u28⟩ := mundo2 h2 hz
  have gx : ∀ id k, ¬ (74 ≤ id ∧ id ≤ 148) → gi σ2 id k = gi σ1 id k := fun id k h9 => mo id k (by omega)
  have g0 : ∀ id k, ¬ (74 ≤ id ∧ id ≤ 148) → ¬ (1 ≤ id ∧ id ≤ 14) → gi σ2 id k = gi σ id k := fun id k a c => by rw [gx id k a, fi id k c]
  refine ⟨⟨fun k hk => ?_, fun k hk => ?_, fun k hk => ?_, fun k hk => ?_, fun k hk => ?_, fun k hk => ?_, fun k hk => ?_⟩, ⟨BR_eq (fun k _ => g0 156 k (by omega) (by omega)) i1, BR_eq (fun k _ => g0 157 k (by omega) (by omega)) i2, BR_eq (fun k _ => g0 158 k (by omega) (by omega)) i3, BR_eq (fun k _ => g0 159 k (by omega) (by omega)) i4, BR_eq (fun k _ => g0 160 k (by omega) (by omega)) i5, BR_eq (fun k _ => g0 161 k (by omega) (by omega)) i6, BR_eq (fun k _ => g0 163 k (by omega) (by omega)) i7⟩, ?_, EQN_eq (by rw [g0 17 1 (by omega) (by omega)]) (fun id k a => g0 id k (by omega) (by omega)) E2, u2, by rw [u28, fi 74 28 (by omega)]; exact m28, by rw [gx 1 11 (by omega), y11]; exact m17, by rw [g0 17 11 (by omega) (by omega)]; exact m17⟩
  · rw [(k1 k hk).1, fi 156 k (by omega)]; exact i1 k hk
  · rw [(k1 k hk).2.1, fi 157 k (by omega)]; exact i2 k hk
  · rw [(k1 k hk).2.2.1, fi 158 k (by omega)]; exact i3 k hk
  · rw [(k1 k hk).2.2.2.1, fi 159 k (by omega)]; exact i4 k hk
  · rw [(k1 k hk).2.2.2.2.1, fi 160 k (by omega)]; exact i5 k hk
  · rw [(k1 k hk).2.2.2.2.2.1, fi 161 k (by omega)]; exact i6 k hk
  · rw [k2 k hk, fi 163 k (by omega)]; exact i7 k hk
  · intro m hm
    obtain ⟨-, -, m158, m159, m160, m161, -⟩ := k1 m hm
    rw [gx 1 1 (by omega), y1, gx (1 + 3) m (by omega), gx (1 + 4) m (by omega), gx (1 + 5) m (by omega), gx (1 + 6) m (by omega), show gi σ1 (1 + 3) m = gi σ 20 m from y7 3 (by decide) (by decide) m hm, show gi σ1 (1 + 4) m = gi σ 21 m from y7 4 (by decide) (by decide) m hm, show gi σ1 (1 + 5) m = gi σ 22 m from y7 5 (by decide) (by decide) m hm, show gi σ1 (1 + 6) m = gi σ 23 m from y7 6 (by decide) (by decide) m hm, m158, show gi σ2 (105 + 1) m = gi σ1 159 m from m159, show gi σ2 (105 + 2) m = gi σ1 160 m from m160, show gi σ2 (105 + 3) m = gi σ1 161 m from m161, fi 158 m (by omega), fi 159 m (by omega), fi 160 m (by omega), fi 161 m (by omega)]
    exact E2 m hm
