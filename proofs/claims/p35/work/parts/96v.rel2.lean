noncomputable def REL2 (σ : Sg) : Prop := TP σ σ ∧ RLn σ 3 110 ∧ RLn σ 19 162 ∧ RT σ 8 1 109 ∧ RT σ 24 17 163 ∧ RK σ 2 1 103 104 ∧ RK σ 18 17 156 157
theorem kci_cls {a1 : Int32} (h0 : 0 ≤ a1.toInt) (h6 : a1.toInt ≤ 6) : kci a1 = cls a1.toNatClampNeg := by
  have e := cl_eq h0
  have h : a1.toNatClampNeg = 0 ∨ a1.toNatClampNeg = 1 ∨ a1.toNatClampNeg = 2 ∨ a1.toNatClampNeg = 3 ∨ a1.toNatClampNeg = 4 ∨ a1.toNatClampNeg = 5 ∨ a1.toNatClampNeg = 6 := by omega
  unfold kci
  rw [← e]
  rcases h with h | h | h | h | h | h | h <;> rw [h] <;> rfl
theorem R2_mower {V : Vx} {a1 a2 r1 r2 : Int32} {σ σ1 σ2 : Sg} (x : XI V σ) (hc : (gi σ 1 1).toInt = (gi σ 74 0).toInt) (h0 : 0 ≤ (gi σ 74 0).toInt) (h6 : (gi σ 74 0).toInt ≤ 6) (q : REL2 σ) (f : FX (fun id => id = 2 ∨ id = 3 ∨ id = 5 ∨ 2000 ≤ id) (fun id k => id = 1 ∧ (k = 1 ∨ k = 3)) σ σ1) (w : MWA r1 a1 a2 (gi σ 1 1).toInt (gi σ1 1 1).toInt) (nw : NEWM V a1 a2 σ σ1) (g : Fr [74, 103, 104, 105, 106, 107, 108, 109, 110] [0, 2] σ1 σ2) (h2 : F_X12_mower a1 a2 σ1 = (r2, σ2)) : REL2 σ2 := by
  obtain ⟨n0, hn0⟩ : ∃ n, n = (gi σ 1 1).toNatClampNeg := ⟨_, rfl⟩
  have en := cl_eq (x := gi σ 1 1) (by omega)
  have ex : gi σ 1 1 = nI n0 := by rw [hn0]; exact nI_ofI (by omega)
  have em : gi σ 74 0 = nI n0 := by rw [← ex]; exact i_eq hc.symm
  have e74 : gi σ1 74 0 = nI n0 := by
    rw [← em]
    exact f.1 74 0 (by intro h9; (try dsimp only at h9); omega) (by intro h9; (try dsimp only at h9); omega)
  unfold MWA at w
  rcases N_mmower e74 (by omega) h2 with ⟨bad, rfl⟩ | ⟨ok1, ok2, ok3, m103, m104, -, -, -, -, m110, m109, mo⟩
  · rcases nw with rfl | ⟨μ, n1, n2, n3, n4, n5, n6, n7, -⟩
    · exact q
    · exfalso; omega
  rcases nw with rfl | ⟨μ, n1, n2, n3, n4, n5, n6, n7, n8, n9, n10, n11⟩
  · exfalso; omega
  obtain ⟨q1, q2, q3, q4, q5, q6, q7⟩ := q
  have fi : ∀ id k, ¬ (id = 2 ∨ id = 3 ∨ id = 5 ∨ 2000 ≤ id) → id ≠ 1 → gi σ1 id k = gi σ id k := fun id k h9 h8 => f.1 id k h9 (fun z => h8 z.1)
  have gx : ∀ id k, ¬ (74 ≤ id ∧ id ≤ 110) → gi σ2 id k = gi σ1 id k := fun id k h9 => mo id k (by omega) (by omega)
  have gr2 : ∀ id k, gr σ2 id k = gr σ1 id k := fun id k => congrFun (congrFun g.2.2 id) k
  have old : ∀ c m μ', c = 1 ∨ c = 17 → gr σ (c + 1) m = some μ' → μ' ≠ μ := fun c m μ' hcc h9 => by
    obtain ⟨ci, -, -, hin⟩ := (x.2.1 c (by rcases hcc with rfl | rfl; exact Or.inl rfl; exact Or.inr (Or.inl rfl))).2 m μ' h9
    intro e
    exact n2 (by rw [← e]; exact hin)
  refine ⟨?_, ?_, ?_, ?_, ?_, ?_, ?_⟩
  · exact TP_m g (by decide) (by decide) (TP_x f (by intro id h9 z; (try dsimp only at z); omega) (by intro id k h9 z; (try dsimp only at z); omega) q1)
  · intro p hp
    rw [gx 3 p (by omega), m110, n9, ← hn0]
    by_cases e : p = n0
    · rw [if_pos e, if_pos e]; exact ex
    · rw [if_neg e, if_neg e, fi 110 p (by omega) (by omega)]; exact q2 p hp
  · intro p hp
    rw [gx 19 p (by omega), mo 162 p (by omega) (by omega), fi 19 p (by omega) (by omega), fi 162 p (by omega) (by omega)]
    exact q3 p hp
  · refine ⟨fun k hk => ?_, fun k hk h9 => ?_⟩
    · rw [gx 8 k (by omega), m109, fi 8 k (by omega) (by omega), fi 109 k (by omega) (by omega)]
      by_cases e : 4 * n0 ≤ k ∧ k < 4 * n0 + 4
      · rw [if_pos e]; exact q4.2 k hk (by omega)
      · rw [if_neg e]; exact q4.1 k hk
    · rw [gx 1 1 (by omega)] at h9
      rw [gx 8 k (by omega), fi 8 k (by omega) (by omega)]
      exact q4.2 k hk (by omega)
  · exact RT_m g (by decide) (by decide) (by decide) (RT_x f (by intro id h9 z; (try dsimp only at z); omega) (by intro id k h9 z; (try dsimp only at z); omega) (by rw [fi 17 1 (by omega) (by omega)]) q5)
  · intro m hm
    rw [gx 1 1 (by omega)] at hm
    by_cases e : m = n0
    · have ka := cl_eq ok1.1
      refine ⟨μ, a1.toNatClampNeg, by rw [gr2, n8, ← hn0, if_pos e], by omega, n1, by rw [n3, kci_cls ok1.1 ok1.2], by rw [m103, if_pos e]; omega, by rw [gx μ _ (by omega), n4]; omega, by rw [gx μ _ (by omega), n5, e]; omega, by rw [gx μ _ (by omega), m104, if_pos e, n6]⟩
    · obtain ⟨μ', κ, h1, h3, h4, h5, h7, h8, h9, h10⟩ := q6 m (by omega)
      have ne := old 1 m μ' (Or.inl rfl) h1
      refine ⟨μ', κ, by rw [gr2, n8, ← hn0, if_neg e]; exact h1, h3, h4, h5, by rw [m103, if_neg e, fi 103 m (by omega) (by omega)]; exact h7, by rw [gx μ' _ (by omega), n11 _ _ ne h4]; exact h8, by rw [gx μ' _ (by omega), n11 _ _ ne h4]; exact h9, by rw [gx μ' _ (by omega), n11 _ _ ne h4, m104, if_neg e, fi 104 m (by omega) (by omega)]; exact h10⟩
  · intro m hm
    rw [gx 17 1 (by omega), fi 17 1 (by omega) (by omega)] at hm
    obtain ⟨μ', κ, h1, h3, h4, h5, h7, h8, h9, h10⟩ := q7 m hm
    have ne := old 17 m μ' (Or.inr rfl) h1
    refine ⟨μ', κ, by rw [gr2, f.2.2 18 m (by intro z; (try dsimp only at z); omega) (by intro z; (try dsimp only at z); omega)]; exact h1, h3, h4, h5, by rw [mo 156 m (by omega) (by omega), fi 156 m (by omega) (by omega)]; exact h7, by rw [gx μ' _ (by omega), n11 _ _ ne h4]; exact h8, by rw [gx μ' _ (by omega), n11 _ _ ne h4]; exact h9, by rw [gx μ' _ (by omega), n11 _ _ ne h4, mo 157 m (by omega) (by omega), fi 157 m (by omega) (by omega)]; exact h10⟩
theorem R2_image {r2 : Int32} {σ σ1 σ2 : Sg} (h6 : (gi σ 1 1).toInt ≤ 6) (q : REL2 σ) (f : FX (fun id => id = 18 ∨ id = 19 ∨ id = 20 ∨ id = 21 ∨ id = 22 ∨ id = 23 ∨ id = 24 ∨ id = 26 ∨ id = 28 ∨ id = 30) (fun id k => (id = 0 ∧ k = 3) ∨ (id = 17 ∧ k = 1) ∨ (id = 17 ∧ k = 3) ∨ (id = 17 ∧ k = 9) ∨ (id = 17 ∧ k = 10) ∨ (id = 17 ∧ k = 11) ∨ (id = 25 ∧ k = 1) ∨ (id = 27 ∧ k = 1) ∨ (id = 29 ∧ k = 1)) σ σ1) (y : CPY σ σ1 17 1) (g : Fr [74, 156, 157, 158, 159, 160, 161, 162, 163, 164, 165, 166, 167, 168] [49, 50, 51, 52, 53, 54, 55] σ1 σ2) (h2 : F_X12_image σ1 = (r2, σ2)) : REL2 σ2 := by
  obtain ⟨q1, q2, q3, q4, q5, q6, q7⟩ := q
  obtain ⟨⟨y1, -, -, -, -⟩, ⟨y6, y7⟩, y8⟩ := y
  obtain ⟨m1, m2, -, -, mo⟩ := N_mimage h2
  have fi : ∀ id k, ¬ ((18 ≤ id ∧ id ≤ 30) ∨ id = 0 ∨ id = 17) → gi σ1 id k = gi σ id k := fun id k h9 => f.1 id k (by intro z; (try dsimp only at z); omega) (by intro z; (try dsimp only at z); omega)
  have gx : ∀ id k, ¬ (156 ≤ id ∧ id ≤ 168) → id ≠ 74 → gi σ2 id k = gi σ1 id k := fun id k h9 h8 => mo id k (by omega)
  have gr2 : ∀ id k, gr σ2 id k = gr σ1 id k := fun id k => congrFun (congrFun g.2.2 id) k
  have g2 : ∀ k, gr σ1 2 k = gr σ 2 k := fun k => f.2.2 2 k (by intro z; (try dsimp only at z); omega) (by intro z; (try dsimp only at z); omega)
  refine ⟨?_, ?_, ?_, ?_, ?_, ?_, ?_⟩
  · exact TP_m g (by decide) (by decide) (TP_x f (by intro id h9 z; (try dsimp only at z); omega) (by intro id k h9 z; (try dsimp only at z); omega) q1)
  · intro p hp
    rw [gx 3 p (by omega) (by omega), gx 110 p (by omega) (by omega), fi 3 p (by omega), fi 110 p (by omega)]; exact q2 p hp
  · intro p hp
    obtain ⟨-, -, -, -, -, -, m110, -⟩ := m1 p hp
    rw [m110, gx 19 p (by omega) (by omega), fi 110 p (by omega), show gi σ1 19 p = gi σ 3 p from y7 2 (by decide) (by decide) p hp]
    exact q2 p hp
  · exact RT_m g (by decide) (by decide) (by decide) (RT_x f (by intro id h9 z; (try dsimp only at z); omega) (by intro id k h9 z; (try dsimp only at z); omega) (by rw [fi 1 1 (by omega)]) q4)
  · refine ⟨fun k hk => ?_, fun k hk h9 => ?_⟩
    · rw [m2 k hk, gx 24 k (by omega) (by omega), fi 109 k (by omega), show gi σ1 24 k = gi σ 8 k from y8 k hk]; exact q4.1 k hk
    · rw [gx 17 1 (by omega) (by omega), y1] at h9
      rw [gx 24 k (by omega) (by omega), show gi σ1 24 k = gi σ 8 k from y8 k hk]; exact q4.2 k hk h9
  · exact RK_m g (by decide) (by decide) (RK_x f (by intro id h9 z; (try dsimp only at z); omega) (by intro id k h9 z; (try dsimp only at z); omega) (by rw [fi 1 1 (by omega)]) q6)
  · intro m hm
    rw [gx 17 1 (by omega) (by omega), y1] at hm
    obtain ⟨m103, m104, -⟩ := m1 m (by omega)
    obtain ⟨μ', κ, h1, h3, h4, h5, h7, h8, h9, h10⟩ := q6 m hm
    refine ⟨μ', κ, by rw [gr2, show gr σ1 18 m = gr σ 2 m from y6 m (by omega)]; exact h1, h3, h4, h5, by rw [m103, fi 103 m (by omega)]; exact h7, by rw [gx μ' _ (by omega) (by omega), fi μ' _ (by omega)]; exact h8, by rw [gx μ' _ (by omega) (by omega), fi μ' _ (by omega)]; exact h9, by rw [gx μ' _ (by omega) (by omega), fi μ' _ (by omega), m104, fi 104 m (by omega)]; exact h10⟩
theorem R2_undo {r2 : Int32} {σ σ1 σ2 : Sg} (h6 : (gi σ 17 1).toInt ≤ 6) (ht : (gi σ 0 3).toInt = (gi σ 74 49).toInt) (q : REL2 σ) (f : FX (fun id => id = 10 ∨ id = 12 ∨ id = 14 ∨ id = 2 ∨ id = 3 ∨ id = 4 ∨ id = 5 ∨ id = 6 ∨ id = 7 ∨ id = 8) (fun id k => (id = 1 ∧ k = 1) ∨ (id = 1 ∧ k = 3) ∨ (id = 1 ∧ k = 9) ∨ (id = 1 ∧ k = 10) ∨ (id = 1 ∧ k = 11) ∨ (id = 11 ∧ k = 1) ∨ (id = 13 ∧ k = 1) ∨ (id = 9 ∧ k = 1)) σ σ1) (y0 : (gi σ 0 3).toInt ≠ 0 → CPY σ σ1 1 17) (y9 : (gi σ 0 3).toInt = 0 → σ1 = σ) (g : Fr [74, 103, 104, 105, 106, 107, 108, 109, 110, 142, 143, 144, 147, 148] [0, 1, 2, 12, 41, 45, 46] σ1 σ2) (h2 : F_X12_undo σ1 = (r2, σ2)) : REL2 σ2 := by
  by_cases z : (gi σ 0 3).toInt = 0
  · have e := y9 z
    subst e
    have e49 : gi σ1 74 49 = 0 := i_eq (b := (0 : Int32)) (by show (gi σ1 74 49).toInt = 0; omega)
    unfold F_X12_undo at h2
    rw [if_pos e49] at h2
    rw [← (Prod.mk.inj h2).2]
    exact q
  obtain ⟨q1, q2, q3, q4, q5, q6, q7⟩ := q
  obtain ⟨⟨y1, -, -, -, -⟩, ⟨y6, y7⟩, y8⟩ := y0 z
  have fi : ∀ id k, ¬ (1 ≤ id ∧ id ≤ 14) → gi σ1 id k = gi σ id k := fun id k h9 => f.1 id k (by intro z; (try dsimp only at z); omega) (by intro z; (try dsimp only at z); omega)
  have hz : ¬ gi σ1 74 49 = 0 := fun e => by
    rw [fi 74 49 (by omega)] at e
    have e2 : (gi σ 74 49).toInt = 0 := congrArg Int32.toInt e
    omega
  obtain ⟨m1, m2, -, -, mo⟩ := N_mundo h2 hz
  have gx : ∀ id k, ¬ (74 ≤ id ∧ id ≤ 148) → gi σ2 id k = gi σ1 id k := fun id k h9 => mo id k (by omega)
  have gr2 : ∀ id k, gr σ2 id k = gr σ1 id k := fun id k => congrFun (congrFun g.2.2 id) k
  have g18 : ∀ k, gr σ1 18 k = gr σ 18 k := fun k => f.2.2 18 k (by intro z; (try dsimp only at z); omega) (by intro z; (try dsimp only at z); omega)
  refine ⟨?_, ?_, ?_, ?_, ?_, ?_, ?_⟩
  · exact TP_m g (by decide) (by decide) (TP_x f (by intro id h9 z; (try dsimp only at z); omega) (by intro id k h9 z; (try dsimp only at z); omega) q1)
  · intro p hp
    obtain ⟨-, -, -, -, -, -, m110, -⟩ := m1 p hp
    rw [m110, gx 3 p (by omega), fi 162 p (by omega), show gi σ1 3 p = gi σ 19 p from y7 2 (by decide) (by decide) p hp]
    exact q3 p hp
  · intro p hp
    rw [gx 19 p (by omega), gx 162 p (by omega), fi 19 p (by omega), fi 162 p (by omega)]; exact q3 p hp
  · refine ⟨fun k hk => ?_, fun k hk h9 => ?_⟩
    · rw [m2 k hk, gx 8 k (by omega), fi 163 k (by omega), show gi σ1 8 k = gi σ 24 k from y8 k hk]; exact q5.1 k hk
    · rw [gx 1 1 (by omega), y1] at h9
      rw [gx 8 k (by omega), show gi σ1 8 k = gi σ 24 k from y8 k hk]; exact q5.2 k hk h9
  · exact RT_m g (by decide) (by decide) (by decide) (RT_x f (by intro id h9 z; (try dsimp only at z); omega) (by intro id k h9 z; (try dsimp only at z); omega) (by rw [fi 17 1 (by omega)]) q5)
  · intro m hm
    rw [gx 1 1 (by omega), y1] at hm
    obtain ⟨m103, m104, -⟩ := m1 m (by omega)
    obtain ⟨μ', κ, h1, h3, h4, h5, h7, h8, h9, h10⟩ := q7 m hm
    refine ⟨μ', κ, by rw [gr2, show gr σ1 2 m = gr σ 18 m from y6 m (by omega)]; exact h1, h3, h4, h5, by rw [m103, fi 156 m (by omega)]; exact h7, by rw [gx μ' _ (by omega), fi μ' _ (by omega)]; exact h8, by rw [gx μ' _ (by omega), fi μ' _ (by omega)]; exact h9, by rw [gx μ' _ (by omega), fi μ' _ (by omega), m104, fi 157 m (by omega)]; exact h10⟩
  · exact RK_m g (by decide) (by decide) (RK_x f (by intro id h9 z; (try dsimp only at z); omega) (by intro id k h9 z; (try dsimp only at z); omega) (by rw [fi 17 1 (by omega)]) q7)
